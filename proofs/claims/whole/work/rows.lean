section
def lw_okq (q : MethodName × Nat) : Prop := (q.1.cls ≠ "java/lang/invoke/MethodHandle" ∧ q.1.cls ≠ "java/lang/invoke/VarHandle") ∧ Cond.instantiable q.1.cls q.2 ∈ tables_1 ∧ Cond.privateMethod q.1 ∈ tables_1 ∧ Cond.instanceMethod q.1 ∈ tables_1
theorem lw_p0 : lw_okq (⟨"BlockTape", "placesLeft", "()I"⟩, 9) := ⟨⟨by decide +kernel, by decide +kernel⟩, List.mem_of_getElem? (i := 5) (by decide +kernel), List.mem_of_getElem? (i := 52) (by decide +kernel), List.mem_of_getElem? (i := 53) (by decide +kernel)⟩
theorem lw_p1 : lw_okq (⟨"BlockTape", "noteBeginning", "()V"⟩, 9) := ⟨⟨by decide +kernel, by decide +kernel⟩, List.mem_of_getElem? (i := 5) (by decide +kernel), List.mem_of_getElem? (i := 56) (by decide +kernel), List.mem_of_getElem? (i := 57) (by decide +kernel)⟩
theorem lw_p2 : lw_okq (⟨"BlockTape", "appendRow", "(II)V"⟩, 9) := ⟨⟨by decide +kernel, by decide +kernel⟩, List.mem_of_getElem? (i := 5) (by decide +kernel), List.mem_of_getElem? (i := 60) (by decide +kernel), List.mem_of_getElem? (i := 61) (by decide +kernel)⟩
theorem lw_p3 : lw_okq (⟨"BlockTape", "append", "(I)V"⟩, 9) := ⟨⟨by decide +kernel, by decide +kernel⟩, List.mem_of_getElem? (i := 5) (by decide +kernel), List.mem_of_getElem? (i := 64) (by decide +kernel), List.mem_of_getElem? (i := 65) (by decide +kernel)⟩
theorem lw_p4 : lw_okq (⟨"BlockTape", "writeBlock", "(II)V"⟩, 9) := ⟨⟨by decide +kernel, by decide +kernel⟩, List.mem_of_getElem? (i := 5) (by decide +kernel), List.mem_of_getElem? (i := 71) (by decide +kernel), List.mem_of_getElem? (i := 72) (by decide +kernel)⟩
theorem lw_p5 : lw_okq (⟨"BlockTape", "sumOfBlock", "(I)I"⟩, 9) := ⟨⟨by decide +kernel, by decide +kernel⟩, List.mem_of_getElem? (i := 5) (by decide +kernel), List.mem_of_getElem? (i := 75) (by decide +kernel), List.mem_of_getElem? (i := 76) (by decide +kernel)⟩
theorem lw_p6 : lw_okq (⟨"BlockTape", "crcOver", "(III)I"⟩, 9) := ⟨⟨by decide +kernel, by decide +kernel⟩, List.mem_of_getElem? (i := 5) (by decide +kernel), List.mem_of_getElem? (i := 79) (by decide +kernel), List.mem_of_getElem? (i := 80) (by decide +kernel)⟩
theorem lw_p7 : lw_okq (⟨"BlockTape", "isWritten", "(I)Z"⟩, 9) := ⟨⟨by decide +kernel, by decide +kernel⟩, List.mem_of_getElem? (i := 5) (by decide +kernel), List.mem_of_getElem? (i := 92) (by decide +kernel), List.mem_of_getElem? (i := 93) (by decide +kernel)⟩
theorem lw_p8 : lw_okq (⟨"BlockTape", "blocksWritten", "()I"⟩, 9) := ⟨⟨by decide +kernel, by decide +kernel⟩, List.mem_of_getElem? (i := 5) (by decide +kernel), List.mem_of_getElem? (i := 96) (by decide +kernel), List.mem_of_getElem? (i := 97) (by decide +kernel)⟩
theorem lw_p9 : lw_okq (⟨"BlockTape", "addToByte", "(II)V"⟩, 9) := ⟨⟨by decide +kernel, by decide +kernel⟩, List.mem_of_getElem? (i := 5) (by decide +kernel), List.mem_of_getElem? (i := 103) (by decide +kernel), List.mem_of_getElem? (i := 104) (by decide +kernel)⟩
theorem lw_p10 : lw_okq (⟨"BlockTape", "recordOfRead", "(I)I"⟩, 9) := ⟨⟨by decide +kernel, by decide +kernel⟩, List.mem_of_getElem? (i := 5) (by decide +kernel), List.mem_of_getElem? (i := 123) (by decide +kernel), List.mem_of_getElem? (i := 124) (by decide +kernel)⟩
theorem lw_p11 : lw_okq (⟨"BlockTape", "isRead", "(I)Z"⟩, 9) := ⟨⟨by decide +kernel, by decide +kernel⟩, List.mem_of_getElem? (i := 5) (by decide +kernel), List.mem_of_getElem? (i := 127) (by decide +kernel), List.mem_of_getElem? (i := 128) (by decide +kernel)⟩
theorem lw_p12 : lw_okq (⟨"BlockTape", "rowByte", "(II)I"⟩, 9) := ⟨⟨by decide +kernel, by decide +kernel⟩, List.mem_of_getElem? (i := 5) (by decide +kernel), List.mem_of_getElem? (i := 132) (by decide +kernel), List.mem_of_getElem? (i := 133) (by decide +kernel)⟩
theorem lw_p13 : lw_okq (⟨"BlockTape", "recordByte", "(II)I"⟩, 9) := ⟨⟨by decide +kernel, by decide +kernel⟩, List.mem_of_getElem? (i := 5) (by decide +kernel), List.mem_of_getElem? (i := 136) (by decide +kernel), List.mem_of_getElem? (i := 137) (by decide +kernel)⟩
theorem lw_p14 : lw_okq (⟨"BlockTape", "recordsRead", "()I"⟩, 9) := ⟨⟨by decide +kernel, by decide +kernel⟩, List.mem_of_getElem? (i := 5) (by decide +kernel), List.mem_of_getElem? (i := 151) (by decide +kernel), List.mem_of_getElem? (i := 152) (by decide +kernel)⟩
theorem lw_p15 : lw_okq (⟨"BlockTape", "blocksNotGood", "()I"⟩, 9) := ⟨⟨by decide +kernel, by decide +kernel⟩, List.mem_of_getElem? (i := 5) (by decide +kernel), List.mem_of_getElem? (i := 155) (by decide +kernel), List.mem_of_getElem? (i := 156) (by decide +kernel)⟩
def lw_privs_1 : List (MethodName × Nat) := [(⟨"BlockTape", "placesLeft", "()I"⟩, 9), (⟨"BlockTape", "noteBeginning", "()V"⟩, 9), (⟨"BlockTape", "appendRow", "(II)V"⟩, 9), (⟨"BlockTape", "append", "(I)V"⟩, 9), (⟨"BlockTape", "writeBlock", "(II)V"⟩, 9), (⟨"BlockTape", "sumOfBlock", "(I)I"⟩, 9), (⟨"BlockTape", "crcOver", "(III)I"⟩, 9), (⟨"BlockTape", "isWritten", "(I)Z"⟩, 9), (⟨"BlockTape", "blocksWritten", "()I"⟩, 9), (⟨"BlockTape", "addToByte", "(II)V"⟩, 9), (⟨"BlockTape", "recordOfRead", "(I)I"⟩, 9), (⟨"BlockTape", "isRead", "(I)Z"⟩, 9), (⟨"BlockTape", "rowByte", "(II)I"⟩, 9), (⟨"BlockTape", "recordByte", "(II)I"⟩, 9), (⟨"BlockTape", "recordsRead", "()I"⟩, 9), (⟨"BlockTape", "blocksNotGood", "()I"⟩, 9)]
theorem lw_r1 : ∀ q ∈ lw_privs_1, lw_okq q := List.forall_mem_cons.mpr ⟨lw_p0, List.forall_mem_cons.mpr ⟨lw_p1, List.forall_mem_cons.mpr ⟨lw_p2, List.forall_mem_cons.mpr ⟨lw_p3, List.forall_mem_cons.mpr ⟨lw_p4, List.forall_mem_cons.mpr ⟨lw_p5, List.forall_mem_cons.mpr ⟨lw_p6, List.forall_mem_cons.mpr ⟨lw_p7, List.forall_mem_cons.mpr ⟨lw_p8, List.forall_mem_cons.mpr ⟨lw_p9, List.forall_mem_cons.mpr ⟨lw_p10, List.forall_mem_cons.mpr ⟨lw_p11, List.forall_mem_cons.mpr ⟨lw_p12, List.forall_mem_cons.mpr ⟨lw_p13, List.forall_mem_cons.mpr ⟨lw_p14, List.forall_mem_cons.mpr ⟨lw_p15, fun _ h => absurd h List.not_mem_nil⟩⟩⟩⟩⟩⟩⟩⟩⟩⟩⟩⟩⟩⟩⟩⟩
theorem lw_p16 : lw_okq (⟨"BlockTapeModel", "room", "()I"⟩, 19) := ⟨⟨by decide +kernel, by decide +kernel⟩, List.mem_of_getElem? (i := 159) (by decide +kernel), List.mem_of_getElem? (i := 232) (by decide +kernel), List.mem_of_getElem? (i := 233) (by decide +kernel)⟩
theorem lw_p17 : lw_okq (⟨"BlockTapeModel", "add", "(IZ)V"⟩, 19) := ⟨⟨by decide +kernel, by decide +kernel⟩, List.mem_of_getElem? (i := 159) (by decide +kernel), List.mem_of_getElem? (i := 236) (by decide +kernel), List.mem_of_getElem? (i := 237) (by decide +kernel)⟩
theorem lw_p18 : lw_okq (⟨"BlockTapeModel", "write", "()V"⟩, 19) := ⟨⟨by decide +kernel, by decide +kernel⟩, List.mem_of_getElem? (i := 159) (by decide +kernel), List.mem_of_getElem? (i := 240) (by decide +kernel), List.mem_of_getElem? (i := 241) (by decide +kernel)⟩
theorem lw_p19 : lw_okq (⟨"BlockTapeModel", "isWritten", "(I)Z"⟩, 19) := ⟨⟨by decide +kernel, by decide +kernel⟩, List.mem_of_getElem? (i := 159) (by decide +kernel), List.mem_of_getElem? (i := 252) (by decide +kernel), List.mem_of_getElem? (i := 253) (by decide +kernel)⟩
theorem lw_p20 : lw_okq (⟨"BlockTapeModel", "sum", "(I)I"⟩, 19) := ⟨⟨by decide +kernel, by decide +kernel⟩, List.mem_of_getElem? (i := 159) (by decide +kernel), List.mem_of_getElem? (i := 256) (by decide +kernel), List.mem_of_getElem? (i := 257) (by decide +kernel)⟩
theorem lw_p21 : lw_okq (⟨"BlockTapeModel", "plain", "(II)I"⟩, 19) := ⟨⟨by decide +kernel, by decide +kernel⟩, List.mem_of_getElem? (i := 159) (by decide +kernel), List.mem_of_getElem? (i := 260) (by decide +kernel), List.mem_of_getElem? (i := 261) (by decide +kernel)⟩
theorem lw_p22 : lw_okq (⟨"BlockTapeModel", "isGood", "(I)Z"⟩, 19) := ⟨⟨by decide +kernel, by decide +kernel⟩, List.mem_of_getElem? (i := 159) (by decide +kernel), List.mem_of_getElem? (i := 277) (by decide +kernel), List.mem_of_getElem? (i := 278) (by decide +kernel)⟩
theorem lw_p23 : lw_okq (⟨"BlockTapeModel", "isRead", "(I)Z"⟩, 19) := ⟨⟨by decide +kernel, by decide +kernel⟩, List.mem_of_getElem? (i := 159) (by decide +kernel), List.mem_of_getElem? (i := 285) (by decide +kernel), List.mem_of_getElem? (i := 286) (by decide +kernel)⟩
def lw_privs_2 : List (MethodName × Nat) := [(⟨"BlockTapeModel", "room", "()I"⟩, 19), (⟨"BlockTapeModel", "add", "(IZ)V"⟩, 19), (⟨"BlockTapeModel", "write", "()V"⟩, 19), (⟨"BlockTapeModel", "isWritten", "(I)Z"⟩, 19), (⟨"BlockTapeModel", "sum", "(I)I"⟩, 19), (⟨"BlockTapeModel", "plain", "(II)I"⟩, 19), (⟨"BlockTapeModel", "isGood", "(I)Z"⟩, 19), (⟨"BlockTapeModel", "isRead", "(I)Z"⟩, 19)]
theorem lw_r2 : ∀ q ∈ lw_privs_2, lw_okq q := List.forall_mem_cons.mpr ⟨lw_p16, List.forall_mem_cons.mpr ⟨lw_p17, List.forall_mem_cons.mpr ⟨lw_p18, List.forall_mem_cons.mpr ⟨lw_p19, List.forall_mem_cons.mpr ⟨lw_p20, List.forall_mem_cons.mpr ⟨lw_p21, List.forall_mem_cons.mpr ⟨lw_p22, List.forall_mem_cons.mpr ⟨lw_p23, fun _ h => absurd h List.not_mem_nil⟩⟩⟩⟩⟩⟩⟩⟩
def lw_privs : List (MethodName × Nat) := lw_privs_1 ++ (lw_privs_2)
def lw_tbl : List Cond := k2_sels lw_privs ++ tables_1
theorem lw_privs_ok : ∀ q ∈ lw_privs, lw_okq q := by
  show ∀ q ∈ lw_privs_1 ++ (lw_privs_2), lw_okq q
  exact List.forall_mem_append.mpr ⟨lw_r1, lw_r2⟩
-- ===== end of PART A; then your names; then what follows =====
end
section
/-! ===== BEGIN words of one list among another's, by their places ===== -/
theorem goodIn_r {big : List Cond} (ws : List Cond) (ps : List Nat) (hp : ws = ps.filterMap (fun i => big[i]?)) (h : ws.all goodWord = true) : GoodIn big ws := by
  intro w hw
  have h1 := List.all_eq_true.mp h w hw
  rw [hp] at hw
  obtain ⟨i, -, hi⟩ := List.mem_filterMap.mp hw
  have hm : w ∈ big := by first | exact List.mem_of_getElem? hi | exact List.getElem?_mem hi
  exact ⟨hm, good_of_word h1⟩
theorem goodIn_app {big a b : List Cond} (ha : GoodIn big a) (hb : GoodIn big b) : GoodIn big (a ++ b) := fun w h => (List.mem_append.mp h).elim (ha w) (hb w)
theorem goodIn_ca {big a b : List Cond} {c : Cond} (ha : GoodIn big (c :: a)) (hb : GoodIn big b) : GoodIn big (c :: (a ++ b)) := fun w h => (List.mem_cons.mp h).elim (fun e => ha w (List.mem_cons.mpr (Or.inl e))) (fun h => (List.mem_append.mp h).elim (fun h => ha w (List.mem_cons.mpr (Or.inr h))) (hb w))
theorem goodIn_sub {big ws : List Cond} (hm : ∀ w ∈ ws, w ∈ big) (h : ws.all goodWord = true) : GoodIn big ws := fun w hw => ⟨hm w hw, good_of_word (List.all_eq_true.mp h w hw)⟩
/-! ===== END ===== -/

/-! ===== BEGIN printed: names, fields, word lists, decode rows ===== -/
def RX0 : String := "BlockTape"
def TX0 : u_T := fun k => match k with
  | 0 => ("BlockTape", "tape", "[B", true)
  | 1 => ("BlockTape", "tapeLength", "I", false)
  | 2 => ("BlockTape", "volume", "[B", true)
  | 3 => ("BlockTape", "nextPlace", "I", false)
  | 4 => ("BlockTape", "rowPlace", "[I", true)
  | 5 => ("BlockTape", "rowLength", "[I", true)
  | 6 => ("BlockTape", "records", "I", false)
  | 7 => ("BlockTape", "spoiltBy", "[I", true)
  | _ => ("BlockTape", "spoiltAt", "[I", true)
def tyX0 : Nat → FieldType := fun k => match k with
  | 0 => .array .byte
  | 1 => .int
  | 2 => .array .byte
  | 3 => .int
  | 4 => .array .int
  | 5 => .array .int
  | 6 => .int
  | 7 => .array .int
  | _ => .array .int
abbrev wsX00 : List Cond := u_ws RX0 TX0 9
theorem nmX0 : ∀ a, a < 9 → ∀ b, b < 9 → a ≠ b → (TX0 a).2.1 ≠ (TX0 b).2.1 := by decide +kernel
theorem tyX0_ok : ∀ k, k < 9 → parseFieldDescriptor (TX0 k).2.2.1 = some (tyX0 k) := by decide +kernel
abbrev cX0_init : ByteArray := prog_1_method_1_code
def yX0_init : MethodName := ⟨RX0, "<init>", "()V"⟩
abbrev cX0_feed : ByteArray := prog_1_method_2_code
def yX0_feed : MethodName := ⟨RX0, "feed", "(II)I"⟩
abbrev cX0_put : ByteArray := prog_1_method_3_code
def yX0_put : MethodName := ⟨RX0, "put", "(II)I"⟩
abbrev cX0_close : ByteArray := prog_1_method_4_code
def yX0_close : MethodName := ⟨RX0, "close", "()Z"⟩
abbrev cX0_spoil : ByteArray := prog_1_method_5_code
def yX0_spoil : MethodName := ⟨RX0, "spoil", "(III)Z"⟩
abbrev cX0_heal : ByteArray := prog_1_method_6_code
def yX0_heal : MethodName := ⟨RX0, "heal", "(I)Z"⟩
abbrev cX0_byteOf : ByteArray := prog_1_method_7_code
def yX0_byteOf : MethodName := ⟨RX0, "byteOf", "(II)I"⟩
abbrev cX0_good : ByteArray := prog_1_method_8_code
def yX0_good : MethodName := ⟨RX0, "good", "(I)Z"⟩
abbrev cX0_read : ByteArray := prog_1_method_9_code
def yX0_read : MethodName := ⟨RX0, "read", "(II)I"⟩
abbrev cX0_verify : ByteArray := prog_1_method_10_code
def yX0_verify : MethodName := ⟨RX0, "verify", "(I)I"⟩
abbrev cX0_count : ByteArray := prog_1_method_11_code
def yX0_count : MethodName := ⟨RX0, "count", "(I)I"⟩
abbrev cX0_blocksWritten : ByteArray := prog_1_method_12_code
def yX0_blocksWritten : MethodName := ⟨RX0, "blocksWritten", "()I"⟩
abbrev cX0_placesLeft : ByteArray := prog_1_method_13_code
def yX0_placesLeft : MethodName := ⟨RX0, "placesLeft", "()I"⟩
abbrev cX0_isWritten : ByteArray := prog_1_method_14_code
def yX0_isWritten : MethodName := ⟨RX0, "isWritten", "(I)Z"⟩
abbrev cX0_isInBlock : ByteArray := prog_1_method_15_code
def yX0_isInBlock : MethodName := ⟨RX0, "isInBlock", "(I)Z"⟩
abbrev cX0_addToByte : ByteArray := prog_1_method_16_code
def yX0_addToByte : MethodName := ⟨RX0, "addToByte", "(II)V"⟩
abbrev cX0_indexOfPlace : ByteArray := prog_1_method_17_code
def yX0_indexOfPlace : MethodName := ⟨RX0, "indexOfPlace", "(I)I"⟩
abbrev cX0_noteBeginning : ByteArray := prog_1_method_18_code
def yX0_noteBeginning : MethodName := ⟨RX0, "noteBeginning", "()V"⟩
abbrev cX0_appendRow : ByteArray := prog_1_method_19_code
def yX0_appendRow : MethodName := ⟨RX0, "appendRow", "(II)V"⟩
abbrev cX0_append : ByteArray := prog_1_method_20_code
def yX0_append : MethodName := ⟨RX0, "append", "(I)V"⟩
abbrev cX0_writeBlock : ByteArray := prog_1_method_21_code
def yX0_writeBlock : MethodName := ⟨RX0, "writeBlock", "(II)V"⟩
abbrev cX0_sumOfBlock : ByteArray := prog_1_method_22_code
def yX0_sumOfBlock : MethodName := ⟨RX0, "sumOfBlock", "(I)I"⟩
abbrev cX0_crcOver : ByteArray := prog_1_method_23_code
def yX0_crcOver : MethodName := ⟨RX0, "crcOver", "(III)I"⟩
abbrev cX0_isRead : ByteArray := prog_1_method_24_code
def yX0_isRead : MethodName := ⟨RX0, "isRead", "(I)Z"⟩
abbrev cX0_recordOfRead : ByteArray := prog_1_method_25_code
def yX0_recordOfRead : MethodName := ⟨RX0, "recordOfRead", "(I)I"⟩
abbrev cX0_recordsRead : ByteArray := prog_1_method_26_code
def yX0_recordsRead : MethodName := ⟨RX0, "recordsRead", "()I"⟩
abbrev cX0_recordByte : ByteArray := prog_1_method_27_code
def yX0_recordByte : MethodName := ⟨RX0, "recordByte", "(II)I"⟩
abbrev cX0_rowByte : ByteArray := prog_1_method_28_code
def yX0_rowByte : MethodName := ⟨RX0, "rowByte", "(II)I"⟩
abbrev cX0_blocksNotGood : ByteArray := prog_1_method_29_code
def yX0_blocksNotGood : MethodName := ⟨RX0, "blocksNotGood", "()I"⟩
def RX1 : String := "BlockTapeModel"
def TX1 : u_T := fun k => match k with
  | 0 => ("BlockTapeModel", "thrown", "I", false)
  | 1 => ("BlockTapeModel", "tape", "[I", true)
  | 2 => ("BlockTapeModel", "taped", "I", false)
  | 3 => ("BlockTapeModel", "records", "I", false)
  | 4 => ("BlockTapeModel", "kept", "I", false)
  | 5 => ("BlockTapeModel", "stream", "[I", true)
  | 6 => ("BlockTapeModel", "index", "[I", true)
  | 7 => ("BlockTapeModel", "length", "[I", true)
  | 8 => ("BlockTapeModel", "begin", "[I", true)
  | 9 => ("BlockTapeModel", "fromBlock", "[I", true)
  | 10 => ("BlockTapeModel", "toBlock", "[I", true)
  | 11 => ("BlockTapeModel", "bytes", "[I", true)
  | 12 => ("BlockTapeModel", "written", "I", false)
  | 13 => ("BlockTapeModel", "used", "I", false)
  | 14 => ("BlockTapeModel", "data", "[I", true)
  | 15 => ("BlockTapeModel", "uses", "[I", true)
  | 16 => ("BlockTapeModel", "first", "[I", true)
  | 17 => ("BlockTapeModel", "spoilt", "[I", true)
  | _ => ("BlockTapeModel", "spoiltBy", "[I", true)
def tyX1 : Nat → FieldType := fun k => match k with
  | 0 => .int
  | 1 => .array .int
  | 2 => .int
  | 3 => .int
  | 4 => .int
  | 5 => .array .int
  | 6 => .array .int
  | 7 => .array .int
  | 8 => .array .int
  | 9 => .array .int
  | 10 => .array .int
  | 11 => .array .int
  | 12 => .int
  | 13 => .int
  | 14 => .array .int
  | 15 => .array .int
  | 16 => .array .int
  | 17 => .array .int
  | _ => .array .int
abbrev wsX10 : List Cond := u_ws RX1 TX1 19
theorem nmX1 : ∀ a, a < 19 → ∀ b, b < 19 → a ≠ b → (TX1 a).2.1 ≠ (TX1 b).2.1 := by decide +kernel
theorem tyX1_ok : ∀ k, k < 19 → parseFieldDescriptor (TX1 k).2.2.1 = some (tyX1 k) := by decide +kernel
def RL : String := "BlockTapeLaw"
abbrev cL_law : ByteArray := code
def yL_law : MethodName := ⟨RL, "law", "([I)Z"⟩
def wsX0_init : List Cond := .code yX0_init cX0_init 2 none :: ([.methodLink RX0 3 objectInit, .instanceMethod objectInit, .code objectInit ⟨#[0xb1]⟩ 1 none, .arrayClass .byte, .fieldLink RX0 9 "BlockTape" "tape" "[B", .fieldLink RX0 13 "BlockTape" "volume" "[B", .arrayClass .int, .fieldLink RX0 16 "BlockTape" "rowPlace" "[I", .fieldLink RX0 20 "BlockTape" "rowLength" "[I", .fieldLink RX0 23 "BlockTape" "spoiltBy" "[I", .fieldLink RX0 26 "BlockTape" "spoiltAt" "[I"] ++ wsX00)
def wsX0_feed : List Cond := .code yX0_feed cX0_feed 4 (some .int) :: ([.fieldLink RX0 29 "BlockTape" "tapeLength" "I", .fieldLink RX0 9 "BlockTape" "tape" "[B"] ++ wsX00)
def wsX0_placesLeft : List Cond := .code yX0_placesLeft cX0_placesLeft 1 (some .int) :: ([.fieldLink RX0 44 "BlockTape" "nextPlace" "I"] ++ wsX00)
def wsX0_noteBeginning : List Cond := .code yX0_noteBeginning cX0_noteBeginning 2 none :: ([.fieldLink RX0 44 "BlockTape" "nextPlace" "I", .fieldLink RX0 13 "BlockTape" "volume" "[B"] ++ wsX00)
def wsX0_indexOfPlace : List Cond := .code yX0_indexOfPlace cX0_indexOfPlace 1 (some .int) :: ([])
def wsX0_crcOver : List Cond := .code yX0_crcOver cX0_crcOver 7 (some .int) :: ([.fieldLink RX0 13 "BlockTape" "volume" "[B", .constant RX0 106 (-306674912)] ++ wsX00)
def wsX0_sumOfBlock : List Cond := .code yX0_sumOfBlock cX0_sumOfBlock 3 (some .int) :: ([.methodLink RX0 102 yX0_crcOver, .instanceMethod yX0_crcOver, .selects RX0 yX0_crcOver yX0_crcOver, .initialized RX0, .code yX0_crcOver cX0_crcOver 7 (some .int), .fieldLink RX0 13 "BlockTape" "volume" "[B", .constant RX0 106 (-306674912)] ++ wsX00)
def wsX0_writeBlock : List Cond := .code yX0_writeBlock cX0_writeBlock 6 none :: ([.fieldLink RX0 13 "BlockTape" "volume" "[B", .methodLink RX0 99 yX0_sumOfBlock, .instanceMethod yX0_sumOfBlock, .selects RX0 yX0_sumOfBlock yX0_sumOfBlock, .initialized RX0, .code yX0_sumOfBlock cX0_sumOfBlock 3 (some .int), .methodLink RX0 102 yX0_crcOver, .instanceMethod yX0_crcOver, .selects RX0 yX0_crcOver yX0_crcOver, .code yX0_crcOver cX0_crcOver 7 (some .int), .constant RX0 106 (-306674912)] ++ wsX00)
def wsX0_append : List Cond := .code yX0_append cX0_append 2 none :: ([.fieldLink RX0 13 "BlockTape" "volume" "[B", .fieldLink RX0 44 "BlockTape" "nextPlace" "I", .methodLink RX0 96 yX0_indexOfPlace, .static yX0_indexOfPlace, .initialized RX0, .code yX0_indexOfPlace cX0_indexOfPlace 1 (some .int), .methodLink RX0 51 yX0_writeBlock, .instanceMethod yX0_writeBlock, .selects RX0 yX0_writeBlock yX0_writeBlock, .code yX0_writeBlock cX0_writeBlock 6 none, .methodLink RX0 99 yX0_sumOfBlock, .instanceMethod yX0_sumOfBlock, .selects RX0 yX0_sumOfBlock yX0_sumOfBlock, .code yX0_sumOfBlock cX0_sumOfBlock 3 (some .int), .methodLink RX0 102 yX0_crcOver, .instanceMethod yX0_crcOver, .selects RX0 yX0_crcOver yX0_crcOver, .code yX0_crcOver cX0_crcOver 7 (some .int), .constant RX0 106 (-306674912)] ++ wsX00)
def wsX0_appendRow_r1 : List Cond := [Cond.fieldLink RX0 29 "BlockTape" "tapeLength" "I", Cond.fieldLink RX0 9 "BlockTape" "tape" "[B", Cond.methodLink RX0 92 yX0_append, Cond.instanceMethod yX0_append, Cond.selects RX0 yX0_append yX0_append, Cond.initialized RX0, Cond.code yX0_append cX0_append 2 none, Cond.fieldLink RX0 13 "BlockTape" "volume" "[B", Cond.fieldLink RX0 44 "BlockTape" "nextPlace" "I", Cond.methodLink RX0 96 yX0_indexOfPlace, Cond.static yX0_indexOfPlace, Cond.code yX0_indexOfPlace cX0_indexOfPlace 1 (some .int), Cond.methodLink RX0 51 yX0_writeBlock, Cond.instanceMethod yX0_writeBlock, Cond.selects RX0 yX0_writeBlock yX0_writeBlock, Cond.code yX0_writeBlock cX0_writeBlock 6 none, Cond.methodLink RX0 99 yX0_sumOfBlock, Cond.instanceMethod yX0_sumOfBlock, Cond.selects RX0 yX0_sumOfBlock yX0_sumOfBlock, Cond.code yX0_sumOfBlock cX0_sumOfBlock 3 (some .int), Cond.methodLink RX0 102 yX0_crcOver, Cond.instanceMethod yX0_crcOver, Cond.selects RX0 yX0_crcOver yX0_crcOver, Cond.code yX0_crcOver cX0_crcOver 7 (some .int)]
def wsX0_appendRow_r2 : List Cond := [Cond.constant RX0 106 (-306674912)]
def wsX0_appendRow : List Cond := .code yX0_appendRow cX0_appendRow 4 none :: ((wsX0_appendRow_r1 ++ wsX0_appendRow_r2) ++ wsX00)
def wsX0_put_r1 : List Cond := [Cond.constant RX0 33 (65535), Cond.fieldLink RX0 29 "BlockTape" "tapeLength" "I", Cond.fieldLink RX0 34 "BlockTape" "records" "I", Cond.fieldLink RX0 16 "BlockTape" "rowPlace" "[I", Cond.fieldLink RX0 44 "BlockTape" "nextPlace" "I", Cond.fieldLink RX0 20 "BlockTape" "rowLength" "[I", Cond.methodLink RX0 37 yX0_placesLeft, Cond.instanceMethod yX0_placesLeft, Cond.selects RX0 yX0_placesLeft yX0_placesLeft, Cond.initialized RX0, Cond.code yX0_placesLeft cX0_placesLeft 1 (some .int), Cond.methodLink RX0 41 yX0_noteBeginning, Cond.instanceMethod yX0_noteBeginning, Cond.selects RX0 yX0_noteBeginning yX0_noteBeginning, Cond.code yX0_noteBeginning cX0_noteBeginning 2 none, Cond.fieldLink RX0 13 "BlockTape" "volume" "[B", Cond.methodLink RX0 47 yX0_appendRow, Cond.instanceMethod yX0_appendRow, Cond.selects RX0 yX0_appendRow yX0_appendRow, Cond.code yX0_appendRow cX0_appendRow 4 none, Cond.fieldLink RX0 9 "BlockTape" "tape" "[B", Cond.methodLink RX0 92 yX0_append, Cond.instanceMethod yX0_append, Cond.selects RX0 yX0_append yX0_append]
def wsX0_put_r2 : List Cond := [Cond.code yX0_append cX0_append 2 none, Cond.methodLink RX0 96 yX0_indexOfPlace, Cond.static yX0_indexOfPlace, Cond.code yX0_indexOfPlace cX0_indexOfPlace 1 (some .int), Cond.methodLink RX0 51 yX0_writeBlock, Cond.instanceMethod yX0_writeBlock, Cond.selects RX0 yX0_writeBlock yX0_writeBlock, Cond.code yX0_writeBlock cX0_writeBlock 6 none, Cond.methodLink RX0 99 yX0_sumOfBlock, Cond.instanceMethod yX0_sumOfBlock, Cond.selects RX0 yX0_sumOfBlock yX0_sumOfBlock, Cond.code yX0_sumOfBlock cX0_sumOfBlock 3 (some .int), Cond.methodLink RX0 102 yX0_crcOver, Cond.instanceMethod yX0_crcOver, Cond.selects RX0 yX0_crcOver yX0_crcOver, Cond.code yX0_crcOver cX0_crcOver 7 (some .int), Cond.constant RX0 106 (-306674912)]
def wsX0_put : List Cond := .code yX0_put cX0_put 4 (some .int) :: ((wsX0_put_r1 ++ wsX0_put_r2) ++ wsX00)
def wsX0_close : List Cond := .code yX0_close cX0_close 2 (some .boolean) :: ([.fieldLink RX0 44 "BlockTape" "nextPlace" "I", .methodLink RX0 51 yX0_writeBlock, .instanceMethod yX0_writeBlock, .selects RX0 yX0_writeBlock yX0_writeBlock, .initialized RX0, .code yX0_writeBlock cX0_writeBlock 6 none, .fieldLink RX0 13 "BlockTape" "volume" "[B", .methodLink RX0 99 yX0_sumOfBlock, .instanceMethod yX0_sumOfBlock, .selects RX0 yX0_sumOfBlock yX0_sumOfBlock, .code yX0_sumOfBlock cX0_sumOfBlock 3 (some .int), .methodLink RX0 102 yX0_crcOver, .instanceMethod yX0_crcOver, .selects RX0 yX0_crcOver yX0_crcOver, .code yX0_crcOver cX0_crcOver 7 (some .int), .constant RX0 106 (-306674912)] ++ wsX00)
def wsX0_blocksWritten : List Cond := .code yX0_blocksWritten cX0_blocksWritten 1 (some .int) :: ([.fieldLink RX0 44 "BlockTape" "nextPlace" "I"] ++ wsX00)
def wsX0_isWritten : List Cond := .code yX0_isWritten cX0_isWritten 2 (some .boolean) :: ([.methodLink RX0 80 yX0_blocksWritten, .instanceMethod yX0_blocksWritten, .selects RX0 yX0_blocksWritten yX0_blocksWritten, .initialized RX0, .code yX0_blocksWritten cX0_blocksWritten 1 (some .int), .fieldLink RX0 44 "BlockTape" "nextPlace" "I"] ++ wsX00)
def wsX0_isInBlock : List Cond := .code yX0_isInBlock cX0_isInBlock 1 (some .boolean) :: ([])
def wsX0_addToByte : List Cond := .code yX0_addToByte cX0_addToByte 3 none :: ([.fieldLink RX0 13 "BlockTape" "volume" "[B"] ++ wsX00)
def wsX0_spoil : List Cond := .code yX0_spoil cX0_spoil 4 (some .boolean) :: ([.fieldLink RX0 23 "BlockTape" "spoiltBy" "[I", .fieldLink RX0 26 "BlockTape" "spoiltAt" "[I", .methodLink RX0 54 yX0_isWritten, .instanceMethod yX0_isWritten, .selects RX0 yX0_isWritten yX0_isWritten, .initialized RX0, .code yX0_isWritten cX0_isWritten 2 (some .boolean), .methodLink RX0 80 yX0_blocksWritten, .instanceMethod yX0_blocksWritten, .selects RX0 yX0_blocksWritten yX0_blocksWritten, .code yX0_blocksWritten cX0_blocksWritten 1 (some .int), .fieldLink RX0 44 "BlockTape" "nextPlace" "I", .methodLink RX0 58 yX0_isInBlock, .static yX0_isInBlock, .code yX0_isInBlock cX0_isInBlock 1 (some .boolean), .methodLink RX0 61 yX0_addToByte, .instanceMethod yX0_addToByte, .selects RX0 yX0_addToByte yX0_addToByte, .code yX0_addToByte cX0_addToByte 3 none, .fieldLink RX0 13 "BlockTape" "volume" "[B"] ++ wsX00)
def wsX0_heal : List Cond := .code yX0_heal cX0_heal 2 (some .boolean) :: ([.fieldLink RX0 23 "BlockTape" "spoiltBy" "[I", .fieldLink RX0 26 "BlockTape" "spoiltAt" "[I", .methodLink RX0 54 yX0_isWritten, .instanceMethod yX0_isWritten, .selects RX0 yX0_isWritten yX0_isWritten, .initialized RX0, .code yX0_isWritten cX0_isWritten 2 (some .boolean), .methodLink RX0 80 yX0_blocksWritten, .instanceMethod yX0_blocksWritten, .selects RX0 yX0_blocksWritten yX0_blocksWritten, .code yX0_blocksWritten cX0_blocksWritten 1 (some .int), .fieldLink RX0 44 "BlockTape" "nextPlace" "I", .methodLink RX0 61 yX0_addToByte, .instanceMethod yX0_addToByte, .selects RX0 yX0_addToByte yX0_addToByte, .code yX0_addToByte cX0_addToByte 3 none, .fieldLink RX0 13 "BlockTape" "volume" "[B"] ++ wsX00)
def wsX0_byteOf : List Cond := .code yX0_byteOf cX0_byteOf 3 (some .int) :: ([.fieldLink RX0 13 "BlockTape" "volume" "[B", .methodLink RX0 54 yX0_isWritten, .instanceMethod yX0_isWritten, .selects RX0 yX0_isWritten yX0_isWritten, .initialized RX0, .code yX0_isWritten cX0_isWritten 2 (some .boolean), .methodLink RX0 80 yX0_blocksWritten, .instanceMethod yX0_blocksWritten, .selects RX0 yX0_blocksWritten yX0_blocksWritten, .code yX0_blocksWritten cX0_blocksWritten 1 (some .int), .fieldLink RX0 44 "BlockTape" "nextPlace" "I", .methodLink RX0 58 yX0_isInBlock, .static yX0_isInBlock, .code yX0_isInBlock cX0_isInBlock 1 (some .boolean)] ++ wsX00)
def wsX0_good : List Cond := .code yX0_good cX0_good 2 (some .boolean) :: ([.fieldLink RX0 23 "BlockTape" "spoiltBy" "[I", .methodLink RX0 54 yX0_isWritten, .instanceMethod yX0_isWritten, .selects RX0 yX0_isWritten yX0_isWritten, .initialized RX0, .code yX0_isWritten cX0_isWritten 2 (some .boolean), .methodLink RX0 80 yX0_blocksWritten, .instanceMethod yX0_blocksWritten, .selects RX0 yX0_blocksWritten yX0_blocksWritten, .code yX0_blocksWritten cX0_blocksWritten 1 (some .int), .fieldLink RX0 44 "BlockTape" "nextPlace" "I"] ++ wsX00)
def wsX0_isRead : List Cond := .code yX0_isRead cX0_isRead 4 (some .boolean) :: ([.fieldLink RX0 16 "BlockTape" "rowPlace" "[I", .fieldLink RX0 20 "BlockTape" "rowLength" "[I", .methodLink RX0 83 yX0_good, .instanceMethod yX0_good, .selects RX0 yX0_good yX0_good, .initialized RX0, .code yX0_good cX0_good 2 (some .boolean), .fieldLink RX0 23 "BlockTape" "spoiltBy" "[I", .methodLink RX0 54 yX0_isWritten, .instanceMethod yX0_isWritten, .selects RX0 yX0_isWritten yX0_isWritten, .code yX0_isWritten cX0_isWritten 2 (some .boolean), .methodLink RX0 80 yX0_blocksWritten, .instanceMethod yX0_blocksWritten, .selects RX0 yX0_blocksWritten yX0_blocksWritten, .code yX0_blocksWritten cX0_blocksWritten 1 (some .int), .fieldLink RX0 44 "BlockTape" "nextPlace" "I"] ++ wsX00)
def wsX0_recordOfRead : List Cond := .code yX0_recordOfRead cX0_recordOfRead 4 (some .int) :: ([.fieldLink RX0 34 "BlockTape" "records" "I", .methodLink RX0 107 yX0_isRead, .instanceMethod yX0_isRead, .selects RX0 yX0_isRead yX0_isRead, .initialized RX0, .code yX0_isRead cX0_isRead 4 (some .boolean), .fieldLink RX0 16 "BlockTape" "rowPlace" "[I", .fieldLink RX0 20 "BlockTape" "rowLength" "[I", .methodLink RX0 83 yX0_good, .instanceMethod yX0_good, .selects RX0 yX0_good yX0_good, .code yX0_good cX0_good 2 (some .boolean), .fieldLink RX0 23 "BlockTape" "spoiltBy" "[I", .methodLink RX0 54 yX0_isWritten, .instanceMethod yX0_isWritten, .selects RX0 yX0_isWritten yX0_isWritten, .code yX0_isWritten cX0_isWritten 2 (some .boolean), .methodLink RX0 80 yX0_blocksWritten, .instanceMethod yX0_blocksWritten, .selects RX0 yX0_blocksWritten yX0_blocksWritten, .code yX0_blocksWritten cX0_blocksWritten 1 (some .int), .fieldLink RX0 44 "BlockTape" "nextPlace" "I"] ++ wsX00)
def wsX0_rowByte : List Cond := .code yX0_rowByte cX0_rowByte 3 (some .int) :: ([.fieldLink RX0 13 "BlockTape" "volume" "[B", .fieldLink RX0 16 "BlockTape" "rowPlace" "[I", .methodLink RX0 96 yX0_indexOfPlace, .static yX0_indexOfPlace, .initialized RX0, .code yX0_indexOfPlace cX0_indexOfPlace 1 (some .int)] ++ wsX00)
def wsX0_recordByte : List Cond := .code yX0_recordByte cX0_recordByte 3 (some .int) :: ([.fieldLink RX0 20 "BlockTape" "rowLength" "[I", .methodLink RX0 68 yX0_rowByte, .instanceMethod yX0_rowByte, .selects RX0 yX0_rowByte yX0_rowByte, .initialized RX0, .code yX0_rowByte cX0_rowByte 3 (some .int), .fieldLink RX0 13 "BlockTape" "volume" "[B", .fieldLink RX0 16 "BlockTape" "rowPlace" "[I", .methodLink RX0 96 yX0_indexOfPlace, .static yX0_indexOfPlace, .code yX0_indexOfPlace cX0_indexOfPlace 1 (some .int)] ++ wsX00)
def wsX0_read_r1 : List Cond := [Cond.fieldLink RX0 20 "BlockTape" "rowLength" "[I", Cond.fieldLink RX0 16 "BlockTape" "rowPlace" "[I", Cond.methodLink RX0 64 yX0_recordOfRead, Cond.instanceMethod yX0_recordOfRead, Cond.selects RX0 yX0_recordOfRead yX0_recordOfRead, Cond.initialized RX0, Cond.code yX0_recordOfRead cX0_recordOfRead 4 (some .int), Cond.fieldLink RX0 34 "BlockTape" "records" "I", Cond.methodLink RX0 107 yX0_isRead, Cond.instanceMethod yX0_isRead, Cond.selects RX0 yX0_isRead yX0_isRead, Cond.code yX0_isRead cX0_isRead 4 (some .boolean), Cond.methodLink RX0 83 yX0_good, Cond.instanceMethod yX0_good, Cond.selects RX0 yX0_good yX0_good, Cond.code yX0_good cX0_good 2 (some .boolean), Cond.fieldLink RX0 23 "BlockTape" "spoiltBy" "[I", Cond.methodLink RX0 54 yX0_isWritten, Cond.instanceMethod yX0_isWritten, Cond.selects RX0 yX0_isWritten yX0_isWritten, Cond.code yX0_isWritten cX0_isWritten 2 (some .boolean), Cond.methodLink RX0 80 yX0_blocksWritten, Cond.instanceMethod yX0_blocksWritten, Cond.selects RX0 yX0_blocksWritten yX0_blocksWritten]
def wsX0_read_r2 : List Cond := [Cond.code yX0_blocksWritten cX0_blocksWritten 1 (some .int), Cond.fieldLink RX0 44 "BlockTape" "nextPlace" "I", Cond.methodLink RX0 68 yX0_rowByte, Cond.instanceMethod yX0_rowByte, Cond.selects RX0 yX0_rowByte yX0_rowByte, Cond.code yX0_rowByte cX0_rowByte 3 (some .int), Cond.fieldLink RX0 13 "BlockTape" "volume" "[B", Cond.methodLink RX0 96 yX0_indexOfPlace, Cond.static yX0_indexOfPlace, Cond.code yX0_indexOfPlace cX0_indexOfPlace 1 (some .int), Cond.methodLink RX0 72 yX0_recordByte, Cond.instanceMethod yX0_recordByte, Cond.selects RX0 yX0_recordByte yX0_recordByte, Cond.code yX0_recordByte cX0_recordByte 3 (some .int)]
def wsX0_read : List Cond := .code yX0_read cX0_read 4 (some .int) :: ((wsX0_read_r1 ++ wsX0_read_r2) ++ wsX00)
def wsX0_verify : List Cond := .code yX0_verify cX0_verify 3 (some .int) :: ([.methodLink RX0 75 Lib.Math.max.name, .static Lib.Math.max.name, .initialized "java/lang/Math", .code Lib.Math.max.name Lib.Math.max.code 2 (some .int), .methodLink RX0 80 yX0_blocksWritten, .instanceMethod yX0_blocksWritten, .selects RX0 yX0_blocksWritten yX0_blocksWritten, .initialized RX0, .code yX0_blocksWritten cX0_blocksWritten 1 (some .int), .fieldLink RX0 44 "BlockTape" "nextPlace" "I", .methodLink RX0 83 yX0_good, .instanceMethod yX0_good, .selects RX0 yX0_good yX0_good, .code yX0_good cX0_good 2 (some .boolean), .fieldLink RX0 23 "BlockTape" "spoiltBy" "[I", .methodLink RX0 54 yX0_isWritten, .instanceMethod yX0_isWritten, .selects RX0 yX0_isWritten yX0_isWritten, .code yX0_isWritten cX0_isWritten 2 (some .boolean)] ++ wsX00)
def wsX0_recordsRead : List Cond := .code yX0_recordsRead cX0_recordsRead 3 (some .int) :: ([.fieldLink RX0 34 "BlockTape" "records" "I", .methodLink RX0 107 yX0_isRead, .instanceMethod yX0_isRead, .selects RX0 yX0_isRead yX0_isRead, .initialized RX0, .code yX0_isRead cX0_isRead 4 (some .boolean), .fieldLink RX0 16 "BlockTape" "rowPlace" "[I", .fieldLink RX0 20 "BlockTape" "rowLength" "[I", .methodLink RX0 83 yX0_good, .instanceMethod yX0_good, .selects RX0 yX0_good yX0_good, .code yX0_good cX0_good 2 (some .boolean), .fieldLink RX0 23 "BlockTape" "spoiltBy" "[I", .methodLink RX0 54 yX0_isWritten, .instanceMethod yX0_isWritten, .selects RX0 yX0_isWritten yX0_isWritten, .code yX0_isWritten cX0_isWritten 2 (some .boolean), .methodLink RX0 80 yX0_blocksWritten, .instanceMethod yX0_blocksWritten, .selects RX0 yX0_blocksWritten yX0_blocksWritten, .code yX0_blocksWritten cX0_blocksWritten 1 (some .int), .fieldLink RX0 44 "BlockTape" "nextPlace" "I"] ++ wsX00)
def wsX0_blocksNotGood : List Cond := .code yX0_blocksNotGood cX0_blocksNotGood 3 (some .int) :: ([.methodLink RX0 80 yX0_blocksWritten, .instanceMethod yX0_blocksWritten, .selects RX0 yX0_blocksWritten yX0_blocksWritten, .initialized RX0, .code yX0_blocksWritten cX0_blocksWritten 1 (some .int), .fieldLink RX0 44 "BlockTape" "nextPlace" "I", .methodLink RX0 83 yX0_good, .instanceMethod yX0_good, .selects RX0 yX0_good yX0_good, .code yX0_good cX0_good 2 (some .boolean), .fieldLink RX0 23 "BlockTape" "spoiltBy" "[I", .methodLink RX0 54 yX0_isWritten, .instanceMethod yX0_isWritten, .selects RX0 yX0_isWritten yX0_isWritten, .code yX0_isWritten cX0_isWritten 2 (some .boolean)] ++ wsX00)
def wsX0_count_r1 : List Cond := [Cond.fieldLink RX0 29 "BlockTape" "tapeLength" "I", Cond.fieldLink RX0 34 "BlockTape" "records" "I", Cond.fieldLink RX0 44 "BlockTape" "nextPlace" "I", Cond.methodLink RX0 80 yX0_blocksWritten, Cond.instanceMethod yX0_blocksWritten, Cond.selects RX0 yX0_blocksWritten yX0_blocksWritten, Cond.initialized RX0, Cond.code yX0_blocksWritten cX0_blocksWritten 1 (some .int), Cond.methodLink RX0 86 yX0_recordsRead, Cond.instanceMethod yX0_recordsRead, Cond.selects RX0 yX0_recordsRead yX0_recordsRead, Cond.code yX0_recordsRead cX0_recordsRead 3 (some .int), Cond.methodLink RX0 107 yX0_isRead, Cond.instanceMethod yX0_isRead, Cond.selects RX0 yX0_isRead yX0_isRead, Cond.code yX0_isRead cX0_isRead 4 (some .boolean), Cond.fieldLink RX0 16 "BlockTape" "rowPlace" "[I", Cond.fieldLink RX0 20 "BlockTape" "rowLength" "[I", Cond.methodLink RX0 83 yX0_good, Cond.instanceMethod yX0_good, Cond.selects RX0 yX0_good yX0_good, Cond.code yX0_good cX0_good 2 (some .boolean), Cond.fieldLink RX0 23 "BlockTape" "spoiltBy" "[I", Cond.methodLink RX0 54 yX0_isWritten]
def wsX0_count_r2 : List Cond := [Cond.instanceMethod yX0_isWritten, Cond.selects RX0 yX0_isWritten yX0_isWritten, Cond.code yX0_isWritten cX0_isWritten 2 (some .boolean), Cond.methodLink RX0 89 yX0_blocksNotGood, Cond.instanceMethod yX0_blocksNotGood, Cond.selects RX0 yX0_blocksNotGood yX0_blocksNotGood, Cond.code yX0_blocksNotGood cX0_blocksNotGood 3 (some .int), Cond.methodLink RX0 37 yX0_placesLeft, Cond.instanceMethod yX0_placesLeft, Cond.selects RX0 yX0_placesLeft yX0_placesLeft, Cond.code yX0_placesLeft cX0_placesLeft 1 (some .int)]
def wsX0_count : List Cond := .code yX0_count cX0_count 2 (some .int) :: ((wsX0_count_r1 ++ wsX0_count_r2) ++ wsX00)
theorem dX0_init_0 : decode cX0_init 0 = .ok (.aload_n 0, 1) := by decide +kernel
theorem dX0_init_1 : decode cX0_init 1 = .ok (.invokespecial 3, 3) := by decide +kernel
theorem dX0_init_4 : decode cX0_init 4 = .ok (.aload_n 0, 1) := by decide +kernel
theorem dX0_init_5 : decode cX0_init 5 = .ok (.sipush 300, 3) := by decide +kernel
theorem dX0_init_8 : decode cX0_init 8 = .ok (.newarray .byte, 2) := by decide +kernel
theorem dX0_init_10 : decode cX0_init 10 = .ok (.putfield 9, 3) := by decide +kernel
theorem dX0_init_13 : decode cX0_init 13 = .ok (.aload_n 0, 1) := by decide +kernel
theorem dX0_init_14 : decode cX0_init 14 = .ok (.sipush 5120, 3) := by decide +kernel
theorem dX0_init_17 : decode cX0_init 17 = .ok (.newarray .byte, 2) := by decide +kernel
theorem dX0_init_19 : decode cX0_init 19 = .ok (.putfield 13, 3) := by decide +kernel
theorem dX0_init_22 : decode cX0_init 22 = .ok (.aload_n 0, 1) := by decide +kernel
theorem dX0_init_23 : decode cX0_init 23 = .ok (.sipush 200, 3) := by decide +kernel
theorem dX0_init_26 : decode cX0_init 26 = .ok (.newarray .int, 2) := by decide +kernel
theorem dX0_init_28 : decode cX0_init 28 = .ok (.putfield 16, 3) := by decide +kernel
theorem dX0_init_31 : decode cX0_init 31 = .ok (.aload_n 0, 1) := by decide +kernel
theorem dX0_init_32 : decode cX0_init 32 = .ok (.sipush 200, 3) := by decide +kernel
theorem dX0_init_35 : decode cX0_init 35 = .ok (.newarray .int, 2) := by decide +kernel
theorem dX0_init_37 : decode cX0_init 37 = .ok (.putfield 20, 3) := by decide +kernel
theorem dX0_init_40 : decode cX0_init 40 = .ok (.aload_n 0, 1) := by decide +kernel
theorem dX0_init_41 : decode cX0_init 41 = .ok (.bipush 80, 2) := by decide +kernel
theorem dX0_init_43 : decode cX0_init 43 = .ok (.newarray .int, 2) := by decide +kernel
theorem dX0_init_45 : decode cX0_init 45 = .ok (.putfield 23, 3) := by decide +kernel
theorem dX0_init_48 : decode cX0_init 48 = .ok (.aload_n 0, 1) := by decide +kernel
theorem dX0_init_49 : decode cX0_init 49 = .ok (.bipush 80, 2) := by decide +kernel
theorem dX0_init_51 : decode cX0_init 51 = .ok (.newarray .int, 2) := by decide +kernel
theorem dX0_init_53 : decode cX0_init 53 = .ok (.putfield 26, 3) := by decide +kernel
theorem dX0_init_56 : decode cX0_init 56 = .ok (.iconst 0, 1) := by decide +kernel
theorem dX0_init_57 : decode cX0_init 57 = .ok (.istore_n 1, 1) := by decide +kernel
theorem dX0_init_58 : decode cX0_init 58 = .ok (.iload_n 1, 1) := by decide +kernel
theorem dX0_init_59 : decode cX0_init 59 = .ok (.bipush 80, 2) := by decide +kernel
theorem dX0_init_61 : decode cX0_init 61 = .ok (.if_icmp .ge 21, 3) := by decide +kernel
theorem dX0_init_64 : decode cX0_init 64 = .ok (.aload_n 0, 1) := by decide +kernel
theorem dX0_init_65 : decode cX0_init 65 = .ok (.getfield 13, 3) := by decide +kernel
theorem dX0_init_68 : decode cX0_init 68 = .ok (.iload_n 1, 1) := by decide +kernel
theorem dX0_init_69 : decode cX0_init 69 = .ok (.bipush 64, 2) := by decide +kernel
theorem dX0_init_71 : decode cX0_init 71 = .ok (.imul, 1) := by decide +kernel
theorem dX0_init_72 : decode cX0_init 72 = .ok (.iconst 3, 1) := by decide +kernel
theorem dX0_init_73 : decode cX0_init 73 = .ok (.iadd, 1) := by decide +kernel
theorem dX0_init_74 : decode cX0_init 74 = .ok (.iconst (-1), 1) := by decide +kernel
theorem dX0_init_75 : decode cX0_init 75 = .ok (.bastore, 1) := by decide +kernel
theorem dX0_init_76 : decode cX0_init 76 = .ok (.iinc 1 1, 3) := by decide +kernel
theorem dX0_init_79 : decode cX0_init 79 = .ok (.goto (-21), 3) := by decide +kernel
theorem dX0_init_82 : decode cX0_init 82 = .ok (.return_, 1) := by decide +kernel
theorem dX0_feed_0 : decode cX0_feed 0 = .ok (.iload_n 2, 1) := by decide +kernel
theorem dX0_feed_1 : decode cX0_feed 1 = .ok (.iconst 1, 1) := by decide +kernel
theorem dX0_feed_2 : decode cX0_feed 2 = .ok (.if_icmp .lt 20, 3) := by decide +kernel
theorem dX0_feed_5 : decode cX0_feed 5 = .ok (.iload_n 2, 1) := by decide +kernel
theorem dX0_feed_6 : decode cX0_feed 6 = .ok (.iconst 4, 1) := by decide +kernel
theorem dX0_feed_7 : decode cX0_feed 7 = .ok (.if_icmp .gt 15, 3) := by decide +kernel
theorem dX0_feed_10 : decode cX0_feed 10 = .ok (.iload_n 2, 1) := by decide +kernel
theorem dX0_feed_11 : decode cX0_feed 11 = .ok (.sipush 300, 3) := by decide +kernel
theorem dX0_feed_14 : decode cX0_feed 14 = .ok (.aload_n 0, 1) := by decide +kernel
theorem dX0_feed_15 : decode cX0_feed 15 = .ok (.getfield 29, 3) := by decide +kernel
theorem dX0_feed_18 : decode cX0_feed 18 = .ok (.isub, 1) := by decide +kernel
theorem dX0_feed_19 : decode cX0_feed 19 = .ok (.if_icmp .le 5, 3) := by decide +kernel
theorem dX0_feed_22 : decode cX0_feed 22 = .ok (.iconst (-1), 1) := by decide +kernel
theorem dX0_feed_23 : decode cX0_feed 23 = .ok (.ireturn, 1) := by decide +kernel
theorem dX0_feed_24 : decode cX0_feed 24 = .ok (.iconst 0, 1) := by decide +kernel
theorem dX0_feed_25 : decode cX0_feed 25 = .ok (.istore_n 3, 1) := by decide +kernel
theorem dX0_feed_26 : decode cX0_feed 26 = .ok (.iload_n 3, 1) := by decide +kernel
theorem dX0_feed_27 : decode cX0_feed 27 = .ok (.iload_n 2, 1) := by decide +kernel
theorem dX0_feed_28 : decode cX0_feed 28 = .ok (.if_icmp .ge 38, 3) := by decide +kernel
theorem dX0_feed_31 : decode cX0_feed 31 = .ok (.aload_n 0, 1) := by decide +kernel
theorem dX0_feed_32 : decode cX0_feed 32 = .ok (.getfield 9, 3) := by decide +kernel
theorem dX0_feed_35 : decode cX0_feed 35 = .ok (.aload_n 0, 1) := by decide +kernel
theorem dX0_feed_36 : decode cX0_feed 36 = .ok (.getfield 29, 3) := by decide +kernel
theorem dX0_feed_39 : decode cX0_feed 39 = .ok (.iload_n 1, 1) := by decide +kernel
theorem dX0_feed_40 : decode cX0_feed 40 = .ok (.bipush 24, 2) := by decide +kernel
theorem dX0_feed_42 : decode cX0_feed 42 = .ok (.bipush 8, 2) := by decide +kernel
theorem dX0_feed_44 : decode cX0_feed 44 = .ok (.iload_n 3, 1) := by decide +kernel
theorem dX0_feed_45 : decode cX0_feed 45 = .ok (.imul, 1) := by decide +kernel
theorem dX0_feed_46 : decode cX0_feed 46 = .ok (.isub, 1) := by decide +kernel
theorem dX0_feed_47 : decode cX0_feed 47 = .ok (.iushr, 1) := by decide +kernel
theorem dX0_feed_48 : decode cX0_feed 48 = .ok (.i2b, 1) := by decide +kernel
theorem dX0_feed_49 : decode cX0_feed 49 = .ok (.bastore, 1) := by decide +kernel
theorem dX0_feed_50 : decode cX0_feed 50 = .ok (.aload_n 0, 1) := by decide +kernel
theorem dX0_feed_51 : decode cX0_feed 51 = .ok (.dup, 1) := by decide +kernel
theorem dX0_feed_52 : decode cX0_feed 52 = .ok (.getfield 29, 3) := by decide +kernel
theorem dX0_feed_55 : decode cX0_feed 55 = .ok (.iconst 1, 1) := by decide +kernel
theorem dX0_feed_56 : decode cX0_feed 56 = .ok (.iadd, 1) := by decide +kernel
theorem dX0_feed_57 : decode cX0_feed 57 = .ok (.putfield 29, 3) := by decide +kernel
theorem dX0_feed_60 : decode cX0_feed 60 = .ok (.iinc 3 1, 3) := by decide +kernel
theorem dX0_feed_63 : decode cX0_feed 63 = .ok (.goto (-37), 3) := by decide +kernel
theorem dX0_feed_66 : decode cX0_feed 66 = .ok (.aload_n 0, 1) := by decide +kernel
theorem dX0_feed_67 : decode cX0_feed 67 = .ok (.getfield 29, 3) := by decide +kernel
theorem dX0_feed_70 : decode cX0_feed 70 = .ok (.ireturn, 1) := by decide +kernel
set_option maxRecDepth 20000 in
theorem ggX0_put_X0_placesLeft : GoodIn wsX0_put wsX0_placesLeft := goodIn_r _ [11, 5, 42, 43, 44, 45, 46, 47, 48, 49, 50] (by decide +kernel) (by decide +kernel)
set_option maxRecDepth 20000 in
theorem gX0_put_X0_placesLeft : GoodIn wsX0_put (wsV RX0 37 RX0 yX0_placesLeft wsX0_placesLeft) := goodIn_app (goodIn_of _ (by decide +kernel)) ggX0_put_X0_placesLeft
set_option maxRecDepth 20000 in
theorem ggX0_put_X0_noteBeginning : GoodIn wsX0_put wsX0_noteBeginning := goodIn_r _ [15, 5, 16, 42, 43, 44, 45, 46, 47, 48, 49, 50] (by decide +kernel) (by decide +kernel)
set_option maxRecDepth 20000 in
theorem gX0_put_X0_noteBeginning : GoodIn wsX0_put (wsV RX0 41 RX0 yX0_noteBeginning wsX0_noteBeginning) := goodIn_app (goodIn_of _ (by decide +kernel)) ggX0_put_X0_noteBeginning
set_option maxRecDepth 20000 in
theorem ggX0_put_X0_appendRow : GoodIn wsX0_put wsX0_appendRow := goodIn_r _ [20, 2, 21, 22, 23, 24, 10, 25, 16, 5, 26, 27, 28, 29, 30, 31, 32, 33, 34, 35, 36, 37, 38, 39, 40, 41, 42, 43, 44, 45, 46, 47, 48, 49, 50] (by decide +kernel) (by decide +kernel)
set_option maxRecDepth 20000 in
theorem gX0_put_X0_appendRow : GoodIn wsX0_put (wsV RX0 47 RX0 yX0_appendRow wsX0_appendRow) := goodIn_app (goodIn_of _ (by decide +kernel)) ggX0_put_X0_appendRow
theorem dX0_put_0 : decode cX0_put 0 = .ok (.iload_n 1, 1) := by decide +kernel
theorem dX0_put_1 : decode cX0_put 1 = .ok (.ifCond .lt 20, 3) := by decide +kernel
theorem dX0_put_4 : decode cX0_put 4 = .ok (.iload_n 1, 1) := by decide +kernel
theorem dX0_put_5 : decode cX0_put 5 = .ok (.sipush 255, 3) := by decide +kernel
theorem dX0_put_8 : decode cX0_put 8 = .ok (.if_icmp .gt 13, 3) := by decide +kernel
theorem dX0_put_11 : decode cX0_put 11 = .ok (.iload_n 2, 1) := by decide +kernel
theorem dX0_put_12 : decode cX0_put 12 = .ok (.ifCond .lt 9, 3) := by decide +kernel
theorem dX0_put_15 : decode cX0_put 15 = .ok (.iload_n 2, 1) := by decide +kernel
theorem dX0_put_16 : decode cX0_put 16 = .ok (.ldc 33, 2) := by decide +kernel
theorem dX0_put_18 : decode cX0_put 18 = .ok (.if_icmp .le 5, 3) := by decide +kernel
theorem dX0_put_21 : decode cX0_put 21 = .ok (.iconst (-1), 1) := by decide +kernel
theorem dX0_put_22 : decode cX0_put 22 = .ok (.ireturn, 1) := by decide +kernel
theorem dX0_put_23 : decode cX0_put 23 = .ok (.bipush 6, 2) := by decide +kernel
theorem dX0_put_25 : decode cX0_put 25 = .ok (.aload_n 0, 1) := by decide +kernel
theorem dX0_put_26 : decode cX0_put 26 = .ok (.getfield 29, 3) := by decide +kernel
theorem dX0_put_29 : decode cX0_put 29 = .ok (.iadd, 1) := by decide +kernel
theorem dX0_put_30 : decode cX0_put 30 = .ok (.istore_n 3, 1) := by decide +kernel
theorem dX0_put_31 : decode cX0_put 31 = .ok (.aload_n 0, 1) := by decide +kernel
theorem dX0_put_32 : decode cX0_put 32 = .ok (.getfield 34, 3) := by decide +kernel
theorem dX0_put_35 : decode cX0_put 35 = .ok (.sipush 200, 3) := by decide +kernel
theorem dX0_put_38 : decode cX0_put 38 = .ok (.if_icmp .ge 11, 3) := by decide +kernel
theorem dX0_put_41 : decode cX0_put 41 = .ok (.iload_n 3, 1) := by decide +kernel
theorem dX0_put_42 : decode cX0_put 42 = .ok (.aload_n 0, 1) := by decide +kernel
theorem dX0_put_43 : decode cX0_put 43 = .ok (.invokevirtual 37, 3) := by decide +kernel
theorem dX0_put_46 : decode cX0_put 46 = .ok (.if_icmp .le 5, 3) := by decide +kernel
theorem dX0_put_49 : decode cX0_put 49 = .ok (.iconst (-1), 1) := by decide +kernel
theorem dX0_put_50 : decode cX0_put 50 = .ok (.ireturn, 1) := by decide +kernel
theorem dX0_put_51 : decode cX0_put 51 = .ok (.aload_n 0, 1) := by decide +kernel
theorem dX0_put_52 : decode cX0_put 52 = .ok (.invokevirtual 41, 3) := by decide +kernel
theorem dX0_put_55 : decode cX0_put 55 = .ok (.aload_n 0, 1) := by decide +kernel
theorem dX0_put_56 : decode cX0_put 56 = .ok (.getfield 16, 3) := by decide +kernel
theorem dX0_put_59 : decode cX0_put 59 = .ok (.aload_n 0, 1) := by decide +kernel
theorem dX0_put_60 : decode cX0_put 60 = .ok (.getfield 34, 3) := by decide +kernel
theorem dX0_put_63 : decode cX0_put 63 = .ok (.aload_n 0, 1) := by decide +kernel
theorem dX0_put_64 : decode cX0_put 64 = .ok (.getfield 44, 3) := by decide +kernel
theorem dX0_put_67 : decode cX0_put 67 = .ok (.iastore, 1) := by decide +kernel
theorem dX0_put_68 : decode cX0_put 68 = .ok (.aload_n 0, 1) := by decide +kernel
theorem dX0_put_69 : decode cX0_put 69 = .ok (.getfield 20, 3) := by decide +kernel
theorem dX0_put_72 : decode cX0_put 72 = .ok (.aload_n 0, 1) := by decide +kernel
theorem dX0_put_73 : decode cX0_put 73 = .ok (.getfield 34, 3) := by decide +kernel
theorem dX0_put_76 : decode cX0_put 76 = .ok (.iload_n 3, 1) := by decide +kernel
theorem dX0_put_77 : decode cX0_put 77 = .ok (.iastore, 1) := by decide +kernel
theorem dX0_put_78 : decode cX0_put 78 = .ok (.aload_n 0, 1) := by decide +kernel
theorem dX0_put_79 : decode cX0_put 79 = .ok (.iload_n 1, 1) := by decide +kernel
theorem dX0_put_80 : decode cX0_put 80 = .ok (.iload_n 2, 1) := by decide +kernel
theorem dX0_put_81 : decode cX0_put 81 = .ok (.invokevirtual 47, 3) := by decide +kernel
theorem dX0_put_84 : decode cX0_put 84 = .ok (.aload_n 0, 1) := by decide +kernel
theorem dX0_put_85 : decode cX0_put 85 = .ok (.iconst 0, 1) := by decide +kernel
theorem dX0_put_86 : decode cX0_put 86 = .ok (.putfield 29, 3) := by decide +kernel
theorem dX0_put_89 : decode cX0_put 89 = .ok (.aload_n 0, 1) := by decide +kernel
theorem dX0_put_90 : decode cX0_put 90 = .ok (.dup, 1) := by decide +kernel
theorem dX0_put_91 : decode cX0_put 91 = .ok (.getfield 34, 3) := by decide +kernel
theorem dX0_put_94 : decode cX0_put 94 = .ok (.iconst 1, 1) := by decide +kernel
theorem dX0_put_95 : decode cX0_put 95 = .ok (.iadd, 1) := by decide +kernel
theorem dX0_put_96 : decode cX0_put 96 = .ok (.putfield 34, 3) := by decide +kernel
theorem dX0_put_99 : decode cX0_put 99 = .ok (.aload_n 0, 1) := by decide +kernel
theorem dX0_put_100 : decode cX0_put 100 = .ok (.getfield 34, 3) := by decide +kernel
theorem dX0_put_103 : decode cX0_put 103 = .ok (.iconst 1, 1) := by decide +kernel
theorem dX0_put_104 : decode cX0_put 104 = .ok (.isub, 1) := by decide +kernel
theorem dX0_put_105 : decode cX0_put 105 = .ok (.ireturn, 1) := by decide +kernel
set_option maxRecDepth 20000 in
theorem ggX0_close_X0_writeBlock : GoodIn wsX0_close wsX0_writeBlock := goodIn_r _ [6, 7, 8, 9, 10, 5, 11, 12, 13, 14, 15, 16, 17, 18, 19, 20, 21, 22, 23, 24, 25] (by decide +kernel) (by decide +kernel)
set_option maxRecDepth 20000 in
theorem gX0_close_X0_writeBlock : GoodIn wsX0_close (wsV RX0 51 RX0 yX0_writeBlock wsX0_writeBlock) := goodIn_app (goodIn_of _ (by decide +kernel)) ggX0_close_X0_writeBlock
theorem dX0_close_0 : decode cX0_close 0 = .ok (.aload_n 0, 1) := by decide +kernel
theorem dX0_close_1 : decode cX0_close 1 = .ok (.getfield 44, 3) := by decide +kernel
theorem dX0_close_4 : decode cX0_close 4 = .ok (.bipush 56, 2) := by decide +kernel
theorem dX0_close_6 : decode cX0_close 6 = .ok (.irem, 1) := by decide +kernel
theorem dX0_close_7 : decode cX0_close 7 = .ok (.istore_n 1, 1) := by decide +kernel
theorem dX0_close_8 : decode cX0_close 8 = .ok (.iload_n 1, 1) := by decide +kernel
theorem dX0_close_9 : decode cX0_close 9 = .ok (.ifCond .ne 5, 3) := by decide +kernel
theorem dX0_close_12 : decode cX0_close 12 = .ok (.iconst 0, 1) := by decide +kernel
theorem dX0_close_13 : decode cX0_close 13 = .ok (.ireturn, 1) := by decide +kernel
theorem dX0_close_14 : decode cX0_close 14 = .ok (.aload_n 0, 1) := by decide +kernel
theorem dX0_close_15 : decode cX0_close 15 = .ok (.aload_n 0, 1) := by decide +kernel
theorem dX0_close_16 : decode cX0_close 16 = .ok (.getfield 44, 3) := by decide +kernel
theorem dX0_close_19 : decode cX0_close 19 = .ok (.bipush 56, 2) := by decide +kernel
theorem dX0_close_21 : decode cX0_close 21 = .ok (.idiv, 1) := by decide +kernel
theorem dX0_close_22 : decode cX0_close 22 = .ok (.iload_n 1, 1) := by decide +kernel
theorem dX0_close_23 : decode cX0_close 23 = .ok (.invokevirtual 51, 3) := by decide +kernel
theorem dX0_close_26 : decode cX0_close 26 = .ok (.aload_n 0, 1) := by decide +kernel
theorem dX0_close_27 : decode cX0_close 27 = .ok (.dup, 1) := by decide +kernel
theorem dX0_close_28 : decode cX0_close 28 = .ok (.getfield 44, 3) := by decide +kernel
theorem dX0_close_31 : decode cX0_close 31 = .ok (.bipush 56, 2) := by decide +kernel
theorem dX0_close_33 : decode cX0_close 33 = .ok (.iload_n 1, 1) := by decide +kernel
theorem dX0_close_34 : decode cX0_close 34 = .ok (.isub, 1) := by decide +kernel
theorem dX0_close_35 : decode cX0_close 35 = .ok (.iadd, 1) := by decide +kernel
theorem dX0_close_36 : decode cX0_close 36 = .ok (.putfield 44, 3) := by decide +kernel
theorem dX0_close_39 : decode cX0_close 39 = .ok (.iconst 1, 1) := by decide +kernel
theorem dX0_close_40 : decode cX0_close 40 = .ok (.ireturn, 1) := by decide +kernel
set_option maxRecDepth 20000 in
theorem ggX0_spoil_X0_isWritten : GoodIn wsX0_spoil wsX0_isWritten := goodIn_r _ [7, 8, 9, 10, 6, 11, 12, 21, 22, 23, 24, 25, 26, 27, 28, 29] (by decide +kernel) (by decide +kernel)
set_option maxRecDepth 20000 in
theorem gX0_spoil_X0_isWritten : GoodIn wsX0_spoil (wsV RX0 54 RX0 yX0_isWritten wsX0_isWritten) := goodIn_app (goodIn_of _ (by decide +kernel)) ggX0_spoil_X0_isWritten
set_option maxRecDepth 20000 in
theorem ggX0_spoil_X0_isInBlock : GoodIn wsX0_spoil wsX0_isInBlock := goodIn_r _ [15] (by decide +kernel) (by decide +kernel)
set_option maxRecDepth 20000 in
theorem gX0_spoil_X0_isInBlock : GoodIn wsX0_spoil (va_wsS RX0 58 yX0_isInBlock wsX0_isInBlock) := goodIn_app (goodIn_of _ (by decide +kernel)) ggX0_spoil_X0_isInBlock
set_option maxRecDepth 20000 in
theorem ggX0_spoil_X0_addToByte : GoodIn wsX0_spoil wsX0_addToByte := goodIn_r _ [19, 20, 21, 22, 23, 24, 25, 26, 27, 28, 29] (by decide +kernel) (by decide +kernel)
set_option maxRecDepth 20000 in
theorem gX0_spoil_X0_addToByte : GoodIn wsX0_spoil (wsV RX0 61 RX0 yX0_addToByte wsX0_addToByte) := goodIn_app (goodIn_of _ (by decide +kernel)) ggX0_spoil_X0_addToByte
theorem dX0_spoil_0 : decode cX0_spoil 0 = .ok (.aload_n 0, 1) := by decide +kernel
theorem dX0_spoil_1 : decode cX0_spoil 1 = .ok (.iload_n 1, 1) := by decide +kernel
theorem dX0_spoil_2 : decode cX0_spoil 2 = .ok (.invokevirtual 54, 3) := by decide +kernel
theorem dX0_spoil_5 : decode cX0_spoil 5 = .ok (.ifCond .eq 31, 3) := by decide +kernel
theorem dX0_spoil_8 : decode cX0_spoil 8 = .ok (.iload_n 2, 1) := by decide +kernel
theorem dX0_spoil_9 : decode cX0_spoil 9 = .ok (.invokestatic 58, 3) := by decide +kernel
theorem dX0_spoil_12 : decode cX0_spoil 12 = .ok (.ifCond .eq 24, 3) := by decide +kernel
theorem dX0_spoil_15 : decode cX0_spoil 15 = .ok (.iload_n 3, 1) := by decide +kernel
theorem dX0_spoil_16 : decode cX0_spoil 16 = .ok (.iconst 1, 1) := by decide +kernel
theorem dX0_spoil_17 : decode cX0_spoil 17 = .ok (.if_icmp .lt 19, 3) := by decide +kernel
theorem dX0_spoil_20 : decode cX0_spoil 20 = .ok (.iload_n 3, 1) := by decide +kernel
theorem dX0_spoil_21 : decode cX0_spoil 21 = .ok (.sipush 255, 3) := by decide +kernel
theorem dX0_spoil_24 : decode cX0_spoil 24 = .ok (.if_icmp .gt 12, 3) := by decide +kernel
theorem dX0_spoil_27 : decode cX0_spoil 27 = .ok (.aload_n 0, 1) := by decide +kernel
theorem dX0_spoil_28 : decode cX0_spoil 28 = .ok (.getfield 23, 3) := by decide +kernel
theorem dX0_spoil_31 : decode cX0_spoil 31 = .ok (.iload_n 1, 1) := by decide +kernel
theorem dX0_spoil_32 : decode cX0_spoil 32 = .ok (.iaload, 1) := by decide +kernel
theorem dX0_spoil_33 : decode cX0_spoil 33 = .ok (.ifCond .eq 5, 3) := by decide +kernel
theorem dX0_spoil_36 : decode cX0_spoil 36 = .ok (.iconst 0, 1) := by decide +kernel
theorem dX0_spoil_37 : decode cX0_spoil 37 = .ok (.ireturn, 1) := by decide +kernel
theorem dX0_spoil_38 : decode cX0_spoil 38 = .ok (.aload_n 0, 1) := by decide +kernel
theorem dX0_spoil_39 : decode cX0_spoil 39 = .ok (.iload_n 1, 1) := by decide +kernel
theorem dX0_spoil_40 : decode cX0_spoil 40 = .ok (.bipush 64, 2) := by decide +kernel
theorem dX0_spoil_42 : decode cX0_spoil 42 = .ok (.imul, 1) := by decide +kernel
theorem dX0_spoil_43 : decode cX0_spoil 43 = .ok (.iload_n 2, 1) := by decide +kernel
theorem dX0_spoil_44 : decode cX0_spoil 44 = .ok (.iadd, 1) := by decide +kernel
theorem dX0_spoil_45 : decode cX0_spoil 45 = .ok (.iload_n 3, 1) := by decide +kernel
theorem dX0_spoil_46 : decode cX0_spoil 46 = .ok (.invokevirtual 61, 3) := by decide +kernel
theorem dX0_spoil_49 : decode cX0_spoil 49 = .ok (.aload_n 0, 1) := by decide +kernel
theorem dX0_spoil_50 : decode cX0_spoil 50 = .ok (.getfield 23, 3) := by decide +kernel
theorem dX0_spoil_53 : decode cX0_spoil 53 = .ok (.iload_n 1, 1) := by decide +kernel
theorem dX0_spoil_54 : decode cX0_spoil 54 = .ok (.iload_n 3, 1) := by decide +kernel
theorem dX0_spoil_55 : decode cX0_spoil 55 = .ok (.iastore, 1) := by decide +kernel
theorem dX0_spoil_56 : decode cX0_spoil 56 = .ok (.aload_n 0, 1) := by decide +kernel
theorem dX0_spoil_57 : decode cX0_spoil 57 = .ok (.getfield 26, 3) := by decide +kernel
theorem dX0_spoil_60 : decode cX0_spoil 60 = .ok (.iload_n 1, 1) := by decide +kernel
theorem dX0_spoil_61 : decode cX0_spoil 61 = .ok (.iload_n 2, 1) := by decide +kernel
theorem dX0_spoil_62 : decode cX0_spoil 62 = .ok (.iastore, 1) := by decide +kernel
theorem dX0_spoil_63 : decode cX0_spoil 63 = .ok (.iconst 1, 1) := by decide +kernel
theorem dX0_spoil_64 : decode cX0_spoil 64 = .ok (.ireturn, 1) := by decide +kernel
set_option maxRecDepth 20000 in
theorem ggX0_heal_X0_isWritten : GoodIn wsX0_heal wsX0_isWritten := goodIn_r _ [7, 8, 9, 10, 6, 11, 12, 18, 19, 20, 21, 22, 23, 24, 25, 26] (by decide +kernel) (by decide +kernel)
set_option maxRecDepth 20000 in
theorem gX0_heal_X0_isWritten : GoodIn wsX0_heal (wsV RX0 54 RX0 yX0_isWritten wsX0_isWritten) := goodIn_app (goodIn_of _ (by decide +kernel)) ggX0_heal_X0_isWritten
set_option maxRecDepth 20000 in
theorem ggX0_heal_X0_addToByte : GoodIn wsX0_heal wsX0_addToByte := goodIn_r _ [16, 17, 18, 19, 20, 21, 22, 23, 24, 25, 26] (by decide +kernel) (by decide +kernel)
set_option maxRecDepth 20000 in
theorem gX0_heal_X0_addToByte : GoodIn wsX0_heal (wsV RX0 61 RX0 yX0_addToByte wsX0_addToByte) := goodIn_app (goodIn_of _ (by decide +kernel)) ggX0_heal_X0_addToByte
theorem dX0_heal_0 : decode cX0_heal 0 = .ok (.aload_n 0, 1) := by decide +kernel
theorem dX0_heal_1 : decode cX0_heal 1 = .ok (.iload_n 1, 1) := by decide +kernel
theorem dX0_heal_2 : decode cX0_heal 2 = .ok (.invokevirtual 54, 3) := by decide +kernel
theorem dX0_heal_5 : decode cX0_heal 5 = .ok (.ifCond .eq 12, 3) := by decide +kernel
theorem dX0_heal_8 : decode cX0_heal 8 = .ok (.aload_n 0, 1) := by decide +kernel
theorem dX0_heal_9 : decode cX0_heal 9 = .ok (.getfield 23, 3) := by decide +kernel
theorem dX0_heal_12 : decode cX0_heal 12 = .ok (.iload_n 1, 1) := by decide +kernel
theorem dX0_heal_13 : decode cX0_heal 13 = .ok (.iaload, 1) := by decide +kernel
theorem dX0_heal_14 : decode cX0_heal 14 = .ok (.ifCond .ne 5, 3) := by decide +kernel
theorem dX0_heal_17 : decode cX0_heal 17 = .ok (.iconst 0, 1) := by decide +kernel
theorem dX0_heal_18 : decode cX0_heal 18 = .ok (.ireturn, 1) := by decide +kernel
theorem dX0_heal_19 : decode cX0_heal 19 = .ok (.aload_n 0, 1) := by decide +kernel
theorem dX0_heal_20 : decode cX0_heal 20 = .ok (.iload_n 1, 1) := by decide +kernel
theorem dX0_heal_21 : decode cX0_heal 21 = .ok (.bipush 64, 2) := by decide +kernel
theorem dX0_heal_23 : decode cX0_heal 23 = .ok (.imul, 1) := by decide +kernel
theorem dX0_heal_24 : decode cX0_heal 24 = .ok (.aload_n 0, 1) := by decide +kernel
theorem dX0_heal_25 : decode cX0_heal 25 = .ok (.getfield 26, 3) := by decide +kernel
theorem dX0_heal_28 : decode cX0_heal 28 = .ok (.iload_n 1, 1) := by decide +kernel
theorem dX0_heal_29 : decode cX0_heal 29 = .ok (.iaload, 1) := by decide +kernel
theorem dX0_heal_30 : decode cX0_heal 30 = .ok (.iadd, 1) := by decide +kernel
theorem dX0_heal_31 : decode cX0_heal 31 = .ok (.aload_n 0, 1) := by decide +kernel
theorem dX0_heal_32 : decode cX0_heal 32 = .ok (.getfield 23, 3) := by decide +kernel
theorem dX0_heal_35 : decode cX0_heal 35 = .ok (.iload_n 1, 1) := by decide +kernel
theorem dX0_heal_36 : decode cX0_heal 36 = .ok (.iaload, 1) := by decide +kernel
theorem dX0_heal_37 : decode cX0_heal 37 = .ok (.ineg, 1) := by decide +kernel
theorem dX0_heal_38 : decode cX0_heal 38 = .ok (.invokevirtual 61, 3) := by decide +kernel
theorem dX0_heal_41 : decode cX0_heal 41 = .ok (.aload_n 0, 1) := by decide +kernel
theorem dX0_heal_42 : decode cX0_heal 42 = .ok (.getfield 23, 3) := by decide +kernel
theorem dX0_heal_45 : decode cX0_heal 45 = .ok (.iload_n 1, 1) := by decide +kernel
theorem dX0_heal_46 : decode cX0_heal 46 = .ok (.iconst 0, 1) := by decide +kernel
theorem dX0_heal_47 : decode cX0_heal 47 = .ok (.iastore, 1) := by decide +kernel
theorem dX0_heal_48 : decode cX0_heal 48 = .ok (.iconst 1, 1) := by decide +kernel
theorem dX0_heal_49 : decode cX0_heal 49 = .ok (.ireturn, 1) := by decide +kernel
set_option maxRecDepth 20000 in
theorem ggX0_byteOf_X0_isWritten : GoodIn wsX0_byteOf wsX0_isWritten := goodIn_r _ [6, 7, 8, 9, 5, 10, 11, 15, 16, 17, 18, 19, 20, 21, 22, 23] (by decide +kernel) (by decide +kernel)
set_option maxRecDepth 20000 in
theorem gX0_byteOf_X0_isWritten : GoodIn wsX0_byteOf (wsV RX0 54 RX0 yX0_isWritten wsX0_isWritten) := goodIn_app (goodIn_of _ (by decide +kernel)) ggX0_byteOf_X0_isWritten
set_option maxRecDepth 20000 in
theorem ggX0_byteOf_X0_isInBlock : GoodIn wsX0_byteOf wsX0_isInBlock := goodIn_r _ [14] (by decide +kernel) (by decide +kernel)
set_option maxRecDepth 20000 in
theorem gX0_byteOf_X0_isInBlock : GoodIn wsX0_byteOf (va_wsS RX0 58 yX0_isInBlock wsX0_isInBlock) := goodIn_app (goodIn_of _ (by decide +kernel)) ggX0_byteOf_X0_isInBlock
theorem dX0_byteOf_0 : decode cX0_byteOf 0 = .ok (.aload_n 0, 1) := by decide +kernel
theorem dX0_byteOf_1 : decode cX0_byteOf 1 = .ok (.iload_n 1, 1) := by decide +kernel
theorem dX0_byteOf_2 : decode cX0_byteOf 2 = .ok (.invokevirtual 54, 3) := by decide +kernel
theorem dX0_byteOf_5 : decode cX0_byteOf 5 = .ok (.ifCond .eq 10, 3) := by decide +kernel
theorem dX0_byteOf_8 : decode cX0_byteOf 8 = .ok (.iload_n 2, 1) := by decide +kernel
theorem dX0_byteOf_9 : decode cX0_byteOf 9 = .ok (.invokestatic 58, 3) := by decide +kernel
theorem dX0_byteOf_12 : decode cX0_byteOf 12 = .ok (.ifCond .ne 5, 3) := by decide +kernel
theorem dX0_byteOf_15 : decode cX0_byteOf 15 = .ok (.iconst (-1), 1) := by decide +kernel
theorem dX0_byteOf_16 : decode cX0_byteOf 16 = .ok (.ireturn, 1) := by decide +kernel
theorem dX0_byteOf_17 : decode cX0_byteOf 17 = .ok (.aload_n 0, 1) := by decide +kernel
theorem dX0_byteOf_18 : decode cX0_byteOf 18 = .ok (.getfield 13, 3) := by decide +kernel
theorem dX0_byteOf_21 : decode cX0_byteOf 21 = .ok (.iload_n 1, 1) := by decide +kernel
theorem dX0_byteOf_22 : decode cX0_byteOf 22 = .ok (.bipush 64, 2) := by decide +kernel
theorem dX0_byteOf_24 : decode cX0_byteOf 24 = .ok (.imul, 1) := by decide +kernel
theorem dX0_byteOf_25 : decode cX0_byteOf 25 = .ok (.iload_n 2, 1) := by decide +kernel
theorem dX0_byteOf_26 : decode cX0_byteOf 26 = .ok (.iadd, 1) := by decide +kernel
theorem dX0_byteOf_27 : decode cX0_byteOf 27 = .ok (.baload, 1) := by decide +kernel
theorem dX0_byteOf_28 : decode cX0_byteOf 28 = .ok (.sipush 255, 3) := by decide +kernel
theorem dX0_byteOf_31 : decode cX0_byteOf 31 = .ok (.iand, 1) := by decide +kernel
theorem dX0_byteOf_32 : decode cX0_byteOf 32 = .ok (.ireturn, 1) := by decide +kernel
set_option maxRecDepth 20000 in
theorem ggX0_good_X0_isWritten : GoodIn wsX0_good wsX0_isWritten := goodIn_r _ [6, 7, 8, 9, 5, 10, 11, 12, 13, 14, 15, 16, 17, 18, 19, 20] (by decide +kernel) (by decide +kernel)
set_option maxRecDepth 20000 in
theorem gX0_good_X0_isWritten : GoodIn wsX0_good (wsV RX0 54 RX0 yX0_isWritten wsX0_isWritten) := goodIn_app (goodIn_of _ (by decide +kernel)) ggX0_good_X0_isWritten
theorem dX0_good_0 : decode cX0_good 0 = .ok (.aload_n 0, 1) := by decide +kernel
theorem dX0_good_1 : decode cX0_good 1 = .ok (.iload_n 1, 1) := by decide +kernel
theorem dX0_good_2 : decode cX0_good 2 = .ok (.invokevirtual 54, 3) := by decide +kernel
theorem dX0_good_5 : decode cX0_good 5 = .ok (.ifCond .eq 16, 3) := by decide +kernel
theorem dX0_good_8 : decode cX0_good 8 = .ok (.aload_n 0, 1) := by decide +kernel
theorem dX0_good_9 : decode cX0_good 9 = .ok (.getfield 23, 3) := by decide +kernel
theorem dX0_good_12 : decode cX0_good 12 = .ok (.iload_n 1, 1) := by decide +kernel
theorem dX0_good_13 : decode cX0_good 13 = .ok (.iaload, 1) := by decide +kernel
theorem dX0_good_14 : decode cX0_good 14 = .ok (.ifCond .ne 7, 3) := by decide +kernel
theorem dX0_good_17 : decode cX0_good 17 = .ok (.iconst 1, 1) := by decide +kernel
theorem dX0_good_18 : decode cX0_good 18 = .ok (.goto 4, 3) := by decide +kernel
theorem dX0_good_21 : decode cX0_good 21 = .ok (.iconst 0, 1) := by decide +kernel
theorem dX0_good_22 : decode cX0_good 22 = .ok (.ireturn, 1) := by decide +kernel
set_option maxRecDepth 20000 in
theorem ggX0_read_X0_recordOfRead : GoodIn wsX0_read wsX0_recordOfRead := goodIn_r _ [7, 8, 9, 10, 11, 6, 12, 2, 1, 13, 14, 15, 16, 17, 18, 19, 20, 21, 22, 23, 24, 25, 26, 39, 40, 41, 42, 43, 44, 45, 46, 47] (by decide +kernel) (by decide +kernel)
set_option maxRecDepth 20000 in
theorem gX0_read_X0_recordOfRead : GoodIn wsX0_read (wsV RX0 64 RX0 yX0_recordOfRead wsX0_recordOfRead) := goodIn_app (goodIn_of _ (by decide +kernel)) ggX0_read_X0_recordOfRead
set_option maxRecDepth 20000 in
theorem ggX0_read_X0_rowByte : GoodIn wsX0_read wsX0_rowByte := goodIn_r _ [30, 31, 2, 32, 33, 6, 34, 39, 40, 41, 42, 43, 44, 45, 46, 47] (by decide +kernel) (by decide +kernel)
set_option maxRecDepth 20000 in
theorem gX0_read_X0_rowByte : GoodIn wsX0_read (wsV RX0 68 RX0 yX0_rowByte wsX0_rowByte) := goodIn_app (goodIn_of _ (by decide +kernel)) ggX0_read_X0_rowByte
set_option maxRecDepth 20000 in
theorem ggX0_read_X0_recordByte : GoodIn wsX0_read wsX0_recordByte := goodIn_r _ [38, 1, 27, 28, 29, 6, 30, 31, 2, 32, 33, 34, 39, 40, 41, 42, 43, 44, 45, 46, 47] (by decide +kernel) (by decide +kernel)
set_option maxRecDepth 20000 in
theorem gX0_read_X0_recordByte : GoodIn wsX0_read (wsV RX0 72 RX0 yX0_recordByte wsX0_recordByte) := goodIn_app (goodIn_of _ (by decide +kernel)) ggX0_read_X0_recordByte
theorem dX0_read_0 : decode cX0_read 0 = .ok (.aload_n 0, 1) := by decide +kernel
theorem dX0_read_1 : decode cX0_read 1 = .ok (.iload_n 1, 1) := by decide +kernel
theorem dX0_read_2 : decode cX0_read 2 = .ok (.invokevirtual 64, 3) := by decide +kernel
theorem dX0_read_5 : decode cX0_read 5 = .ok (.istore_n 3, 1) := by decide +kernel
theorem dX0_read_6 : decode cX0_read 6 = .ok (.iload_n 3, 1) := by decide +kernel
theorem dX0_read_7 : decode cX0_read 7 = .ok (.iconst (-1), 1) := by decide +kernel
theorem dX0_read_8 : decode cX0_read 8 = .ok (.if_icmp .eq 7, 3) := by decide +kernel
theorem dX0_read_11 : decode cX0_read 11 = .ok (.iload_n 2, 1) := by decide +kernel
theorem dX0_read_12 : decode cX0_read 12 = .ok (.ifCond .ge 5, 3) := by decide +kernel
theorem dX0_read_15 : decode cX0_read 15 = .ok (.iconst (-1), 1) := by decide +kernel
theorem dX0_read_16 : decode cX0_read 16 = .ok (.ireturn, 1) := by decide +kernel
theorem dX0_read_17 : decode cX0_read 17 = .ok (.iload_n 2, 1) := by decide +kernel
theorem dX0_read_18 : decode cX0_read 18 = .ok (.tableswitch 74 0 3 #[30, 37, 54, 64], 30) := by decide +kernel
theorem dX0_read_48 : decode cX0_read 48 = .ok (.aload_n 0, 1) := by decide +kernel
theorem dX0_read_49 : decode cX0_read 49 = .ok (.iload_n 3, 1) := by decide +kernel
theorem dX0_read_50 : decode cX0_read 50 = .ok (.iconst 0, 1) := by decide +kernel
theorem dX0_read_51 : decode cX0_read 51 = .ok (.invokevirtual 68, 3) := by decide +kernel
theorem dX0_read_54 : decode cX0_read 54 = .ok (.ireturn, 1) := by decide +kernel
theorem dX0_read_55 : decode cX0_read 55 = .ok (.aload_n 0, 1) := by decide +kernel
theorem dX0_read_56 : decode cX0_read 56 = .ok (.iload_n 3, 1) := by decide +kernel
theorem dX0_read_57 : decode cX0_read 57 = .ok (.iconst 1, 1) := by decide +kernel
theorem dX0_read_58 : decode cX0_read 58 = .ok (.invokevirtual 68, 3) := by decide +kernel
theorem dX0_read_61 : decode cX0_read 61 = .ok (.bipush 8, 2) := by decide +kernel
theorem dX0_read_63 : decode cX0_read 63 = .ok (.ishl, 1) := by decide +kernel
theorem dX0_read_64 : decode cX0_read 64 = .ok (.aload_n 0, 1) := by decide +kernel
theorem dX0_read_65 : decode cX0_read 65 = .ok (.iload_n 3, 1) := by decide +kernel
theorem dX0_read_66 : decode cX0_read 66 = .ok (.iconst 2, 1) := by decide +kernel
theorem dX0_read_67 : decode cX0_read 67 = .ok (.invokevirtual 68, 3) := by decide +kernel
theorem dX0_read_70 : decode cX0_read 70 = .ok (.ior, 1) := by decide +kernel
theorem dX0_read_71 : decode cX0_read 71 = .ok (.ireturn, 1) := by decide +kernel
theorem dX0_read_72 : decode cX0_read 72 = .ok (.aload_n 0, 1) := by decide +kernel
theorem dX0_read_73 : decode cX0_read 73 = .ok (.getfield 20, 3) := by decide +kernel
theorem dX0_read_76 : decode cX0_read 76 = .ok (.iload_n 3, 1) := by decide +kernel
theorem dX0_read_77 : decode cX0_read 77 = .ok (.iaload, 1) := by decide +kernel
theorem dX0_read_78 : decode cX0_read 78 = .ok (.bipush 6, 2) := by decide +kernel
theorem dX0_read_80 : decode cX0_read 80 = .ok (.isub, 1) := by decide +kernel
theorem dX0_read_81 : decode cX0_read 81 = .ok (.ireturn, 1) := by decide +kernel
theorem dX0_read_82 : decode cX0_read 82 = .ok (.aload_n 0, 1) := by decide +kernel
theorem dX0_read_83 : decode cX0_read 83 = .ok (.getfield 16, 3) := by decide +kernel
theorem dX0_read_86 : decode cX0_read 86 = .ok (.iload_n 3, 1) := by decide +kernel
theorem dX0_read_87 : decode cX0_read 87 = .ok (.iaload, 1) := by decide +kernel
theorem dX0_read_88 : decode cX0_read 88 = .ok (.bipush 56, 2) := by decide +kernel
theorem dX0_read_90 : decode cX0_read 90 = .ok (.idiv, 1) := by decide +kernel
theorem dX0_read_91 : decode cX0_read 91 = .ok (.ireturn, 1) := by decide +kernel
theorem dX0_read_92 : decode cX0_read 92 = .ok (.aload_n 0, 1) := by decide +kernel
theorem dX0_read_93 : decode cX0_read 93 = .ok (.iload_n 3, 1) := by decide +kernel
theorem dX0_read_94 : decode cX0_read 94 = .ok (.iload_n 2, 1) := by decide +kernel
theorem dX0_read_95 : decode cX0_read 95 = .ok (.iconst 4, 1) := by decide +kernel
theorem dX0_read_96 : decode cX0_read 96 = .ok (.isub, 1) := by decide +kernel
theorem dX0_read_97 : decode cX0_read 97 = .ok (.invokevirtual 72, 3) := by decide +kernel
theorem dX0_read_100 : decode cX0_read 100 = .ok (.ireturn, 1) := by decide +kernel
set_option maxRecDepth 20000 in
theorem ggX0_verify_X0_blocksWritten : GoodIn wsX0_verify wsX0_blocksWritten := goodIn_r _ [9, 10, 20, 21, 22, 23, 24, 25, 26, 27, 28] (by decide +kernel) (by decide +kernel)
set_option maxRecDepth 20000 in
theorem gX0_verify_X0_blocksWritten : GoodIn wsX0_verify (wsV RX0 80 RX0 yX0_blocksWritten wsX0_blocksWritten) := goodIn_app (goodIn_of _ (by decide +kernel)) ggX0_verify_X0_blocksWritten
set_option maxRecDepth 20000 in
theorem ggX0_verify_X0_good : GoodIn wsX0_verify wsX0_good := goodIn_r _ [14, 15, 16, 17, 18, 8, 19, 5, 6, 7, 9, 10, 20, 21, 22, 23, 24, 25, 26, 27, 28] (by decide +kernel) (by decide +kernel)
set_option maxRecDepth 20000 in
theorem gX0_verify_X0_good : GoodIn wsX0_verify (wsV RX0 83 RX0 yX0_good wsX0_good) := goodIn_app (goodIn_of _ (by decide +kernel)) ggX0_verify_X0_good
theorem dX0_verify_0 : decode cX0_verify 0 = .ok (.iload_n 1, 1) := by decide +kernel
theorem dX0_verify_1 : decode cX0_verify 1 = .ok (.iconst 0, 1) := by decide +kernel
theorem dX0_verify_2 : decode cX0_verify 2 = .ok (.invokestatic 75, 3) := by decide +kernel
theorem dX0_verify_5 : decode cX0_verify 5 = .ok (.istore_n 2, 1) := by decide +kernel
theorem dX0_verify_6 : decode cX0_verify 6 = .ok (.iload_n 2, 1) := by decide +kernel
theorem dX0_verify_7 : decode cX0_verify 7 = .ok (.aload_n 0, 1) := by decide +kernel
theorem dX0_verify_8 : decode cX0_verify 8 = .ok (.invokevirtual 80, 3) := by decide +kernel
theorem dX0_verify_11 : decode cX0_verify 11 = .ok (.if_icmp .ge 19, 3) := by decide +kernel
theorem dX0_verify_14 : decode cX0_verify 14 = .ok (.aload_n 0, 1) := by decide +kernel
theorem dX0_verify_15 : decode cX0_verify 15 = .ok (.iload_n 2, 1) := by decide +kernel
theorem dX0_verify_16 : decode cX0_verify 16 = .ok (.invokevirtual 83, 3) := by decide +kernel
theorem dX0_verify_19 : decode cX0_verify 19 = .ok (.ifCond .ne 5, 3) := by decide +kernel
theorem dX0_verify_22 : decode cX0_verify 22 = .ok (.iload_n 2, 1) := by decide +kernel
theorem dX0_verify_23 : decode cX0_verify 23 = .ok (.ireturn, 1) := by decide +kernel
theorem dX0_verify_24 : decode cX0_verify 24 = .ok (.iinc 2 1, 3) := by decide +kernel
theorem dX0_verify_27 : decode cX0_verify 27 = .ok (.goto (-21), 3) := by decide +kernel
theorem dX0_verify_30 : decode cX0_verify 30 = .ok (.iconst (-1), 1) := by decide +kernel
theorem dX0_verify_31 : decode cX0_verify 31 = .ok (.ireturn, 1) := by decide +kernel
set_option maxRecDepth 20000 in
theorem ggX0_count_X0_blocksWritten : GoodIn wsX0_count wsX0_blocksWritten := goodIn_r _ [8, 3, 36, 37, 38, 39, 40, 41, 42, 43, 44] (by decide +kernel) (by decide +kernel)
set_option maxRecDepth 20000 in
theorem gX0_count_X0_blocksWritten : GoodIn wsX0_count (wsV RX0 80 RX0 yX0_blocksWritten wsX0_blocksWritten) := goodIn_app (goodIn_of _ (by decide +kernel)) ggX0_count_X0_blocksWritten
set_option maxRecDepth 20000 in
theorem ggX0_count_X0_recordsRead : GoodIn wsX0_count wsX0_recordsRead := goodIn_r _ [12, 2, 13, 14, 15, 7, 16, 17, 18, 19, 20, 21, 22, 23, 24, 25, 26, 27, 4, 5, 6, 8, 3, 36, 37, 38, 39, 40, 41, 42, 43, 44] (by decide +kernel) (by decide +kernel)
set_option maxRecDepth 20000 in
theorem gX0_count_X0_recordsRead : GoodIn wsX0_count (wsV RX0 86 RX0 yX0_recordsRead wsX0_recordsRead) := goodIn_app (goodIn_of _ (by decide +kernel)) ggX0_count_X0_recordsRead
set_option maxRecDepth 20000 in
theorem ggX0_count_X0_blocksNotGood : GoodIn wsX0_count wsX0_blocksNotGood := goodIn_r _ [31, 4, 5, 6, 7, 8, 3, 19, 20, 21, 22, 23, 24, 25, 26, 27, 36, 37, 38, 39, 40, 41, 42, 43, 44] (by decide +kernel) (by decide +kernel)
set_option maxRecDepth 20000 in
theorem gX0_count_X0_blocksNotGood : GoodIn wsX0_count (wsV RX0 89 RX0 yX0_blocksNotGood wsX0_blocksNotGood) := goodIn_app (goodIn_of _ (by decide +kernel)) ggX0_count_X0_blocksNotGood
set_option maxRecDepth 20000 in
theorem ggX0_count_X0_placesLeft : GoodIn wsX0_count wsX0_placesLeft := goodIn_r _ [35, 3, 36, 37, 38, 39, 40, 41, 42, 43, 44] (by decide +kernel) (by decide +kernel)
set_option maxRecDepth 20000 in
theorem gX0_count_X0_placesLeft : GoodIn wsX0_count (wsV RX0 37 RX0 yX0_placesLeft wsX0_placesLeft) := goodIn_app (goodIn_of _ (by decide +kernel)) ggX0_count_X0_placesLeft
theorem dX0_count_0 : decode cX0_count 0 = .ok (.iload_n 1, 1) := by decide +kernel
theorem dX0_count_1 : decode cX0_count 1 = .ok (.tableswitch 81 0 6 #[43, 48, 53, 58, 66, 71, 76], 43) := by decide +kernel
theorem dX0_count_44 : decode cX0_count 44 = .ok (.aload_n 0, 1) := by decide +kernel
theorem dX0_count_45 : decode cX0_count 45 = .ok (.getfield 29, 3) := by decide +kernel
theorem dX0_count_48 : decode cX0_count 48 = .ok (.ireturn, 1) := by decide +kernel
theorem dX0_count_49 : decode cX0_count 49 = .ok (.aload_n 0, 1) := by decide +kernel
theorem dX0_count_50 : decode cX0_count 50 = .ok (.getfield 34, 3) := by decide +kernel
theorem dX0_count_53 : decode cX0_count 53 = .ok (.ireturn, 1) := by decide +kernel
theorem dX0_count_54 : decode cX0_count 54 = .ok (.aload_n 0, 1) := by decide +kernel
theorem dX0_count_55 : decode cX0_count 55 = .ok (.invokevirtual 80, 3) := by decide +kernel
theorem dX0_count_58 : decode cX0_count 58 = .ok (.ireturn, 1) := by decide +kernel
theorem dX0_count_59 : decode cX0_count 59 = .ok (.aload_n 0, 1) := by decide +kernel
theorem dX0_count_60 : decode cX0_count 60 = .ok (.getfield 44, 3) := by decide +kernel
theorem dX0_count_63 : decode cX0_count 63 = .ok (.bipush 56, 2) := by decide +kernel
theorem dX0_count_65 : decode cX0_count 65 = .ok (.irem, 1) := by decide +kernel
theorem dX0_count_66 : decode cX0_count 66 = .ok (.ireturn, 1) := by decide +kernel
theorem dX0_count_67 : decode cX0_count 67 = .ok (.aload_n 0, 1) := by decide +kernel
theorem dX0_count_68 : decode cX0_count 68 = .ok (.invokevirtual 86, 3) := by decide +kernel
theorem dX0_count_71 : decode cX0_count 71 = .ok (.ireturn, 1) := by decide +kernel
theorem dX0_count_72 : decode cX0_count 72 = .ok (.aload_n 0, 1) := by decide +kernel
theorem dX0_count_73 : decode cX0_count 73 = .ok (.invokevirtual 89, 3) := by decide +kernel
theorem dX0_count_76 : decode cX0_count 76 = .ok (.ireturn, 1) := by decide +kernel
theorem dX0_count_77 : decode cX0_count 77 = .ok (.aload_n 0, 1) := by decide +kernel
theorem dX0_count_78 : decode cX0_count 78 = .ok (.invokevirtual 37, 3) := by decide +kernel
theorem dX0_count_81 : decode cX0_count 81 = .ok (.ireturn, 1) := by decide +kernel
theorem dX0_count_82 : decode cX0_count 82 = .ok (.iconst (-1), 1) := by decide +kernel
theorem dX0_count_83 : decode cX0_count 83 = .ok (.ireturn, 1) := by decide +kernel
theorem dX0_blocksWritten_0 : decode cX0_blocksWritten 0 = .ok (.aload_n 0, 1) := by decide +kernel
theorem dX0_blocksWritten_1 : decode cX0_blocksWritten 1 = .ok (.getfield 44, 3) := by decide +kernel
theorem dX0_blocksWritten_4 : decode cX0_blocksWritten 4 = .ok (.bipush 56, 2) := by decide +kernel
theorem dX0_blocksWritten_6 : decode cX0_blocksWritten 6 = .ok (.idiv, 1) := by decide +kernel
theorem dX0_blocksWritten_7 : decode cX0_blocksWritten 7 = .ok (.ireturn, 1) := by decide +kernel
theorem dX0_placesLeft_0 : decode cX0_placesLeft 0 = .ok (.sipush 4480, 3) := by decide +kernel
theorem dX0_placesLeft_3 : decode cX0_placesLeft 3 = .ok (.aload_n 0, 1) := by decide +kernel
theorem dX0_placesLeft_4 : decode cX0_placesLeft 4 = .ok (.getfield 44, 3) := by decide +kernel
theorem dX0_placesLeft_7 : decode cX0_placesLeft 7 = .ok (.isub, 1) := by decide +kernel
theorem dX0_placesLeft_8 : decode cX0_placesLeft 8 = .ok (.ireturn, 1) := by decide +kernel
set_option maxRecDepth 20000 in
theorem ggX0_isWritten_X0_blocksWritten : GoodIn wsX0_isWritten wsX0_blocksWritten := goodIn_r _ [5, 6, 7, 8, 9, 10, 11, 12, 13, 14, 15] (by decide +kernel) (by decide +kernel)
set_option maxRecDepth 20000 in
theorem gX0_isWritten_X0_blocksWritten : GoodIn wsX0_isWritten (wsV RX0 80 RX0 yX0_blocksWritten wsX0_blocksWritten) := goodIn_app (goodIn_of _ (by decide +kernel)) ggX0_isWritten_X0_blocksWritten
theorem dX0_isWritten_0 : decode cX0_isWritten 0 = .ok (.iload_n 1, 1) := by decide +kernel
theorem dX0_isWritten_1 : decode cX0_isWritten 1 = .ok (.ifCond .lt 15, 3) := by decide +kernel
theorem dX0_isWritten_4 : decode cX0_isWritten 4 = .ok (.iload_n 1, 1) := by decide +kernel
theorem dX0_isWritten_5 : decode cX0_isWritten 5 = .ok (.aload_n 0, 1) := by decide +kernel
theorem dX0_isWritten_6 : decode cX0_isWritten 6 = .ok (.invokevirtual 80, 3) := by decide +kernel
theorem dX0_isWritten_9 : decode cX0_isWritten 9 = .ok (.if_icmp .ge 7, 3) := by decide +kernel
theorem dX0_isWritten_12 : decode cX0_isWritten 12 = .ok (.iconst 1, 1) := by decide +kernel
theorem dX0_isWritten_13 : decode cX0_isWritten 13 = .ok (.goto 4, 3) := by decide +kernel
theorem dX0_isWritten_16 : decode cX0_isWritten 16 = .ok (.iconst 0, 1) := by decide +kernel
theorem dX0_isWritten_17 : decode cX0_isWritten 17 = .ok (.ireturn, 1) := by decide +kernel
theorem dX0_isInBlock_0 : decode cX0_isInBlock 0 = .ok (.iload_n 0, 1) := by decide +kernel
theorem dX0_isInBlock_1 : decode cX0_isInBlock 1 = .ok (.ifCond .lt 13, 3) := by decide +kernel
theorem dX0_isInBlock_4 : decode cX0_isInBlock 4 = .ok (.iload_n 0, 1) := by decide +kernel
theorem dX0_isInBlock_5 : decode cX0_isInBlock 5 = .ok (.bipush 64, 2) := by decide +kernel
theorem dX0_isInBlock_7 : decode cX0_isInBlock 7 = .ok (.if_icmp .ge 7, 3) := by decide +kernel
theorem dX0_isInBlock_10 : decode cX0_isInBlock 10 = .ok (.iconst 1, 1) := by decide +kernel
theorem dX0_isInBlock_11 : decode cX0_isInBlock 11 = .ok (.goto 4, 3) := by decide +kernel
theorem dX0_isInBlock_14 : decode cX0_isInBlock 14 = .ok (.iconst 0, 1) := by decide +kernel
theorem dX0_isInBlock_15 : decode cX0_isInBlock 15 = .ok (.ireturn, 1) := by decide +kernel
theorem dX0_addToByte_0 : decode cX0_addToByte 0 = .ok (.aload_n 0, 1) := by decide +kernel
theorem dX0_addToByte_1 : decode cX0_addToByte 1 = .ok (.getfield 13, 3) := by decide +kernel
theorem dX0_addToByte_4 : decode cX0_addToByte 4 = .ok (.iload_n 1, 1) := by decide +kernel
theorem dX0_addToByte_5 : decode cX0_addToByte 5 = .ok (.aload_n 0, 1) := by decide +kernel
theorem dX0_addToByte_6 : decode cX0_addToByte 6 = .ok (.getfield 13, 3) := by decide +kernel
theorem dX0_addToByte_9 : decode cX0_addToByte 9 = .ok (.iload_n 1, 1) := by decide +kernel
theorem dX0_addToByte_10 : decode cX0_addToByte 10 = .ok (.baload, 1) := by decide +kernel
theorem dX0_addToByte_11 : decode cX0_addToByte 11 = .ok (.iload_n 2, 1) := by decide +kernel
theorem dX0_addToByte_12 : decode cX0_addToByte 12 = .ok (.iadd, 1) := by decide +kernel
theorem dX0_addToByte_13 : decode cX0_addToByte 13 = .ok (.i2b, 1) := by decide +kernel
theorem dX0_addToByte_14 : decode cX0_addToByte 14 = .ok (.bastore, 1) := by decide +kernel
theorem dX0_addToByte_15 : decode cX0_addToByte 15 = .ok (.return_, 1) := by decide +kernel
theorem dX0_indexOfPlace_0 : decode cX0_indexOfPlace 0 = .ok (.iload_n 0, 1) := by decide +kernel
theorem dX0_indexOfPlace_1 : decode cX0_indexOfPlace 1 = .ok (.bipush 56, 2) := by decide +kernel
theorem dX0_indexOfPlace_3 : decode cX0_indexOfPlace 3 = .ok (.idiv, 1) := by decide +kernel
theorem dX0_indexOfPlace_4 : decode cX0_indexOfPlace 4 = .ok (.bipush 64, 2) := by decide +kernel
theorem dX0_indexOfPlace_6 : decode cX0_indexOfPlace 6 = .ok (.imul, 1) := by decide +kernel
theorem dX0_indexOfPlace_7 : decode cX0_indexOfPlace 7 = .ok (.bipush 8, 2) := by decide +kernel
theorem dX0_indexOfPlace_9 : decode cX0_indexOfPlace 9 = .ok (.iadd, 1) := by decide +kernel
theorem dX0_indexOfPlace_10 : decode cX0_indexOfPlace 10 = .ok (.iload_n 0, 1) := by decide +kernel
theorem dX0_indexOfPlace_11 : decode cX0_indexOfPlace 11 = .ok (.bipush 56, 2) := by decide +kernel
theorem dX0_indexOfPlace_13 : decode cX0_indexOfPlace 13 = .ok (.irem, 1) := by decide +kernel
theorem dX0_indexOfPlace_14 : decode cX0_indexOfPlace 14 = .ok (.iadd, 1) := by decide +kernel
theorem dX0_indexOfPlace_15 : decode cX0_indexOfPlace 15 = .ok (.ireturn, 1) := by decide +kernel
theorem dX0_noteBeginning_0 : decode cX0_noteBeginning 0 = .ok (.aload_n 0, 1) := by decide +kernel
theorem dX0_noteBeginning_1 : decode cX0_noteBeginning 1 = .ok (.getfield 44, 3) := by decide +kernel
theorem dX0_noteBeginning_4 : decode cX0_noteBeginning 4 = .ok (.bipush 56, 2) := by decide +kernel
theorem dX0_noteBeginning_6 : decode cX0_noteBeginning 6 = .ok (.idiv, 1) := by decide +kernel
theorem dX0_noteBeginning_7 : decode cX0_noteBeginning 7 = .ok (.bipush 64, 2) := by decide +kernel
theorem dX0_noteBeginning_9 : decode cX0_noteBeginning 9 = .ok (.imul, 1) := by decide +kernel
theorem dX0_noteBeginning_10 : decode cX0_noteBeginning 10 = .ok (.iconst 3, 1) := by decide +kernel
theorem dX0_noteBeginning_11 : decode cX0_noteBeginning 11 = .ok (.iadd, 1) := by decide +kernel
theorem dX0_noteBeginning_12 : decode cX0_noteBeginning 12 = .ok (.istore_n 1, 1) := by decide +kernel
theorem dX0_noteBeginning_13 : decode cX0_noteBeginning 13 = .ok (.aload_n 0, 1) := by decide +kernel
theorem dX0_noteBeginning_14 : decode cX0_noteBeginning 14 = .ok (.getfield 13, 3) := by decide +kernel
theorem dX0_noteBeginning_17 : decode cX0_noteBeginning 17 = .ok (.iload_n 1, 1) := by decide +kernel
theorem dX0_noteBeginning_18 : decode cX0_noteBeginning 18 = .ok (.baload, 1) := by decide +kernel
theorem dX0_noteBeginning_19 : decode cX0_noteBeginning 19 = .ok (.iconst (-1), 1) := by decide +kernel
theorem dX0_noteBeginning_20 : decode cX0_noteBeginning 20 = .ok (.if_icmp .ne 17, 3) := by decide +kernel
theorem dX0_noteBeginning_23 : decode cX0_noteBeginning 23 = .ok (.aload_n 0, 1) := by decide +kernel
theorem dX0_noteBeginning_24 : decode cX0_noteBeginning 24 = .ok (.getfield 13, 3) := by decide +kernel
theorem dX0_noteBeginning_27 : decode cX0_noteBeginning 27 = .ok (.iload_n 1, 1) := by decide +kernel
theorem dX0_noteBeginning_28 : decode cX0_noteBeginning 28 = .ok (.aload_n 0, 1) := by decide +kernel
theorem dX0_noteBeginning_29 : decode cX0_noteBeginning 29 = .ok (.getfield 44, 3) := by decide +kernel
theorem dX0_noteBeginning_32 : decode cX0_noteBeginning 32 = .ok (.bipush 56, 2) := by decide +kernel
theorem dX0_noteBeginning_34 : decode cX0_noteBeginning 34 = .ok (.irem, 1) := by decide +kernel
theorem dX0_noteBeginning_35 : decode cX0_noteBeginning 35 = .ok (.i2b, 1) := by decide +kernel
theorem dX0_noteBeginning_36 : decode cX0_noteBeginning 36 = .ok (.bastore, 1) := by decide +kernel
theorem dX0_noteBeginning_37 : decode cX0_noteBeginning 37 = .ok (.return_, 1) := by decide +kernel
set_option maxRecDepth 20000 in
theorem ggX0_appendRow_X0_append : GoodIn wsX0_appendRow wsX0_append := goodIn_r _ [7, 8, 9, 10, 11, 6, 12, 13, 14, 15, 16, 17, 18, 19, 20, 21, 22, 23, 24, 25, 26, 27, 28, 29, 30, 31, 32, 33, 34] (by decide +kernel) (by decide +kernel)
set_option maxRecDepth 20000 in
theorem gX0_appendRow_X0_append : GoodIn wsX0_appendRow (wsV RX0 92 RX0 yX0_append wsX0_append) := goodIn_app (goodIn_of _ (by decide +kernel)) ggX0_appendRow_X0_append
theorem dX0_appendRow_0 : decode cX0_appendRow 0 = .ok (.aload_n 0, 1) := by decide +kernel
theorem dX0_appendRow_1 : decode cX0_appendRow 1 = .ok (.iload_n 1, 1) := by decide +kernel
theorem dX0_appendRow_2 : decode cX0_appendRow 2 = .ok (.invokevirtual 92, 3) := by decide +kernel
theorem dX0_appendRow_5 : decode cX0_appendRow 5 = .ok (.aload_n 0, 1) := by decide +kernel
theorem dX0_appendRow_6 : decode cX0_appendRow 6 = .ok (.iload_n 2, 1) := by decide +kernel
theorem dX0_appendRow_7 : decode cX0_appendRow 7 = .ok (.bipush 8, 2) := by decide +kernel
theorem dX0_appendRow_9 : decode cX0_appendRow 9 = .ok (.iushr, 1) := by decide +kernel
theorem dX0_appendRow_10 : decode cX0_appendRow 10 = .ok (.invokevirtual 92, 3) := by decide +kernel
theorem dX0_appendRow_13 : decode cX0_appendRow 13 = .ok (.aload_n 0, 1) := by decide +kernel
theorem dX0_appendRow_14 : decode cX0_appendRow 14 = .ok (.iload_n 2, 1) := by decide +kernel
theorem dX0_appendRow_15 : decode cX0_appendRow 15 = .ok (.invokevirtual 92, 3) := by decide +kernel
theorem dX0_appendRow_18 : decode cX0_appendRow 18 = .ok (.aload_n 0, 1) := by decide +kernel
theorem dX0_appendRow_19 : decode cX0_appendRow 19 = .ok (.aload_n 0, 1) := by decide +kernel
theorem dX0_appendRow_20 : decode cX0_appendRow 20 = .ok (.getfield 29, 3) := by decide +kernel
theorem dX0_appendRow_23 : decode cX0_appendRow 23 = .ok (.bipush 8, 2) := by decide +kernel
theorem dX0_appendRow_25 : decode cX0_appendRow 25 = .ok (.iushr, 1) := by decide +kernel
theorem dX0_appendRow_26 : decode cX0_appendRow 26 = .ok (.invokevirtual 92, 3) := by decide +kernel
theorem dX0_appendRow_29 : decode cX0_appendRow 29 = .ok (.aload_n 0, 1) := by decide +kernel
theorem dX0_appendRow_30 : decode cX0_appendRow 30 = .ok (.aload_n 0, 1) := by decide +kernel
theorem dX0_appendRow_31 : decode cX0_appendRow 31 = .ok (.getfield 29, 3) := by decide +kernel
theorem dX0_appendRow_34 : decode cX0_appendRow 34 = .ok (.invokevirtual 92, 3) := by decide +kernel
theorem dX0_appendRow_37 : decode cX0_appendRow 37 = .ok (.aload_n 0, 1) := by decide +kernel
theorem dX0_appendRow_38 : decode cX0_appendRow 38 = .ok (.bipush 90, 2) := by decide +kernel
theorem dX0_appendRow_40 : decode cX0_appendRow 40 = .ok (.invokevirtual 92, 3) := by decide +kernel
theorem dX0_appendRow_43 : decode cX0_appendRow 43 = .ok (.iconst 0, 1) := by decide +kernel
theorem dX0_appendRow_44 : decode cX0_appendRow 44 = .ok (.istore_n 3, 1) := by decide +kernel
theorem dX0_appendRow_45 : decode cX0_appendRow 45 = .ok (.iload_n 3, 1) := by decide +kernel
theorem dX0_appendRow_46 : decode cX0_appendRow 46 = .ok (.aload_n 0, 1) := by decide +kernel
theorem dX0_appendRow_47 : decode cX0_appendRow 47 = .ok (.getfield 29, 3) := by decide +kernel
theorem dX0_appendRow_50 : decode cX0_appendRow 50 = .ok (.if_icmp .ge 19, 3) := by decide +kernel
theorem dX0_appendRow_53 : decode cX0_appendRow 53 = .ok (.aload_n 0, 1) := by decide +kernel
theorem dX0_appendRow_54 : decode cX0_appendRow 54 = .ok (.aload_n 0, 1) := by decide +kernel
theorem dX0_appendRow_55 : decode cX0_appendRow 55 = .ok (.getfield 9, 3) := by decide +kernel
theorem dX0_appendRow_58 : decode cX0_appendRow 58 = .ok (.iload_n 3, 1) := by decide +kernel
theorem dX0_appendRow_59 : decode cX0_appendRow 59 = .ok (.baload, 1) := by decide +kernel
theorem dX0_appendRow_60 : decode cX0_appendRow 60 = .ok (.invokevirtual 92, 3) := by decide +kernel
theorem dX0_appendRow_63 : decode cX0_appendRow 63 = .ok (.iinc 3 1, 3) := by decide +kernel
theorem dX0_appendRow_66 : decode cX0_appendRow 66 = .ok (.goto (-21), 3) := by decide +kernel
theorem dX0_appendRow_69 : decode cX0_appendRow 69 = .ok (.return_, 1) := by decide +kernel
set_option maxRecDepth 20000 in
theorem ggX0_append_X0_indexOfPlace : GoodIn wsX0_append wsX0_indexOfPlace := goodIn_r _ [6] (by decide +kernel) (by decide +kernel)
set_option maxRecDepth 20000 in
theorem gX0_append_X0_indexOfPlace : GoodIn wsX0_append (va_wsS RX0 96 yX0_indexOfPlace wsX0_indexOfPlace) := goodIn_app (goodIn_of _ (by decide +kernel)) ggX0_append_X0_indexOfPlace
set_option maxRecDepth 20000 in
theorem ggX0_append_X0_writeBlock : GoodIn wsX0_append wsX0_writeBlock := goodIn_r _ [10, 1, 11, 12, 13, 5, 14, 15, 16, 17, 18, 19, 20, 21, 22, 23, 24, 25, 26, 27, 28] (by decide +kernel) (by decide +kernel)
set_option maxRecDepth 20000 in
theorem gX0_append_X0_writeBlock : GoodIn wsX0_append (wsV RX0 51 RX0 yX0_writeBlock wsX0_writeBlock) := goodIn_app (goodIn_of _ (by decide +kernel)) ggX0_append_X0_writeBlock
theorem dX0_append_0 : decode cX0_append 0 = .ok (.aload_n 0, 1) := by decide +kernel
theorem dX0_append_1 : decode cX0_append 1 = .ok (.getfield 13, 3) := by decide +kernel
theorem dX0_append_4 : decode cX0_append 4 = .ok (.aload_n 0, 1) := by decide +kernel
theorem dX0_append_5 : decode cX0_append 5 = .ok (.getfield 44, 3) := by decide +kernel
theorem dX0_append_8 : decode cX0_append 8 = .ok (.invokestatic 96, 3) := by decide +kernel
theorem dX0_append_11 : decode cX0_append 11 = .ok (.iload_n 1, 1) := by decide +kernel
theorem dX0_append_12 : decode cX0_append 12 = .ok (.i2b, 1) := by decide +kernel
theorem dX0_append_13 : decode cX0_append 13 = .ok (.bastore, 1) := by decide +kernel
theorem dX0_append_14 : decode cX0_append 14 = .ok (.aload_n 0, 1) := by decide +kernel
theorem dX0_append_15 : decode cX0_append 15 = .ok (.dup, 1) := by decide +kernel
theorem dX0_append_16 : decode cX0_append 16 = .ok (.getfield 44, 3) := by decide +kernel
theorem dX0_append_19 : decode cX0_append 19 = .ok (.iconst 1, 1) := by decide +kernel
theorem dX0_append_20 : decode cX0_append 20 = .ok (.iadd, 1) := by decide +kernel
theorem dX0_append_21 : decode cX0_append 21 = .ok (.putfield 44, 3) := by decide +kernel
theorem dX0_append_24 : decode cX0_append 24 = .ok (.aload_n 0, 1) := by decide +kernel
theorem dX0_append_25 : decode cX0_append 25 = .ok (.getfield 44, 3) := by decide +kernel
theorem dX0_append_28 : decode cX0_append 28 = .ok (.bipush 56, 2) := by decide +kernel
theorem dX0_append_30 : decode cX0_append 30 = .ok (.irem, 1) := by decide +kernel
theorem dX0_append_31 : decode cX0_append 31 = .ok (.ifCond .ne 18, 3) := by decide +kernel
theorem dX0_append_34 : decode cX0_append 34 = .ok (.aload_n 0, 1) := by decide +kernel
theorem dX0_append_35 : decode cX0_append 35 = .ok (.aload_n 0, 1) := by decide +kernel
theorem dX0_append_36 : decode cX0_append 36 = .ok (.getfield 44, 3) := by decide +kernel
theorem dX0_append_39 : decode cX0_append 39 = .ok (.bipush 56, 2) := by decide +kernel
theorem dX0_append_41 : decode cX0_append 41 = .ok (.idiv, 1) := by decide +kernel
theorem dX0_append_42 : decode cX0_append 42 = .ok (.iconst 1, 1) := by decide +kernel
theorem dX0_append_43 : decode cX0_append 43 = .ok (.isub, 1) := by decide +kernel
theorem dX0_append_44 : decode cX0_append 44 = .ok (.bipush 56, 2) := by decide +kernel
theorem dX0_append_46 : decode cX0_append 46 = .ok (.invokevirtual 51, 3) := by decide +kernel
theorem dX0_append_49 : decode cX0_append 49 = .ok (.return_, 1) := by decide +kernel
set_option maxRecDepth 20000 in
theorem ggX0_writeBlock_X0_sumOfBlock : GoodIn wsX0_writeBlock wsX0_sumOfBlock := goodIn_r _ [6, 7, 8, 9, 5, 10, 1, 11, 12, 13, 14, 15, 16, 17, 18, 19, 20] (by decide +kernel) (by decide +kernel)
set_option maxRecDepth 20000 in
theorem gX0_writeBlock_X0_sumOfBlock : GoodIn wsX0_writeBlock (wsV RX0 99 RX0 yX0_sumOfBlock wsX0_sumOfBlock) := goodIn_app (goodIn_of _ (by decide +kernel)) ggX0_writeBlock_X0_sumOfBlock
theorem dX0_writeBlock_0 : decode cX0_writeBlock 0 = .ok (.iload_n 1, 1) := by decide +kernel
theorem dX0_writeBlock_1 : decode cX0_writeBlock 1 = .ok (.bipush 64, 2) := by decide +kernel
theorem dX0_writeBlock_3 : decode cX0_writeBlock 3 = .ok (.imul, 1) := by decide +kernel
theorem dX0_writeBlock_4 : decode cX0_writeBlock 4 = .ok (.istore_n 3, 1) := by decide +kernel
theorem dX0_writeBlock_5 : decode cX0_writeBlock 5 = .ok (.aload_n 0, 1) := by decide +kernel
theorem dX0_writeBlock_6 : decode cX0_writeBlock 6 = .ok (.getfield 13, 3) := by decide +kernel
theorem dX0_writeBlock_9 : decode cX0_writeBlock 9 = .ok (.iload_n 3, 1) := by decide +kernel
theorem dX0_writeBlock_10 : decode cX0_writeBlock 10 = .ok (.iload_n 1, 1) := by decide +kernel
theorem dX0_writeBlock_11 : decode cX0_writeBlock 11 = .ok (.bipush 8, 2) := by decide +kernel
theorem dX0_writeBlock_13 : decode cX0_writeBlock 13 = .ok (.iushr, 1) := by decide +kernel
theorem dX0_writeBlock_14 : decode cX0_writeBlock 14 = .ok (.i2b, 1) := by decide +kernel
theorem dX0_writeBlock_15 : decode cX0_writeBlock 15 = .ok (.bastore, 1) := by decide +kernel
theorem dX0_writeBlock_16 : decode cX0_writeBlock 16 = .ok (.aload_n 0, 1) := by decide +kernel
theorem dX0_writeBlock_17 : decode cX0_writeBlock 17 = .ok (.getfield 13, 3) := by decide +kernel
theorem dX0_writeBlock_20 : decode cX0_writeBlock 20 = .ok (.iload_n 3, 1) := by decide +kernel
theorem dX0_writeBlock_21 : decode cX0_writeBlock 21 = .ok (.iconst 1, 1) := by decide +kernel
theorem dX0_writeBlock_22 : decode cX0_writeBlock 22 = .ok (.iadd, 1) := by decide +kernel
theorem dX0_writeBlock_23 : decode cX0_writeBlock 23 = .ok (.iload_n 1, 1) := by decide +kernel
theorem dX0_writeBlock_24 : decode cX0_writeBlock 24 = .ok (.i2b, 1) := by decide +kernel
theorem dX0_writeBlock_25 : decode cX0_writeBlock 25 = .ok (.bastore, 1) := by decide +kernel
theorem dX0_writeBlock_26 : decode cX0_writeBlock 26 = .ok (.aload_n 0, 1) := by decide +kernel
theorem dX0_writeBlock_27 : decode cX0_writeBlock 27 = .ok (.getfield 13, 3) := by decide +kernel
theorem dX0_writeBlock_30 : decode cX0_writeBlock 30 = .ok (.iload_n 3, 1) := by decide +kernel
theorem dX0_writeBlock_31 : decode cX0_writeBlock 31 = .ok (.iconst 2, 1) := by decide +kernel
theorem dX0_writeBlock_32 : decode cX0_writeBlock 32 = .ok (.iadd, 1) := by decide +kernel
theorem dX0_writeBlock_33 : decode cX0_writeBlock 33 = .ok (.iload_n 2, 1) := by decide +kernel
theorem dX0_writeBlock_34 : decode cX0_writeBlock 34 = .ok (.i2b, 1) := by decide +kernel
theorem dX0_writeBlock_35 : decode cX0_writeBlock 35 = .ok (.bastore, 1) := by decide +kernel
theorem dX0_writeBlock_36 : decode cX0_writeBlock 36 = .ok (.aload_n 0, 1) := by decide +kernel
theorem dX0_writeBlock_37 : decode cX0_writeBlock 37 = .ok (.iload_n 3, 1) := by decide +kernel
theorem dX0_writeBlock_38 : decode cX0_writeBlock 38 = .ok (.invokevirtual 99, 3) := by decide +kernel
theorem dX0_writeBlock_41 : decode cX0_writeBlock 41 = .ok (.istore 4, 2) := by decide +kernel
theorem dX0_writeBlock_43 : decode cX0_writeBlock 43 = .ok (.iconst 0, 1) := by decide +kernel
theorem dX0_writeBlock_44 : decode cX0_writeBlock 44 = .ok (.istore 5, 2) := by decide +kernel
theorem dX0_writeBlock_46 : decode cX0_writeBlock 46 = .ok (.iload 5, 2) := by decide +kernel
theorem dX0_writeBlock_48 : decode cX0_writeBlock 48 = .ok (.iconst 4, 1) := by decide +kernel
theorem dX0_writeBlock_49 : decode cX0_writeBlock 49 = .ok (.if_icmp .ge 32, 3) := by decide +kernel
theorem dX0_writeBlock_52 : decode cX0_writeBlock 52 = .ok (.aload_n 0, 1) := by decide +kernel
theorem dX0_writeBlock_53 : decode cX0_writeBlock 53 = .ok (.getfield 13, 3) := by decide +kernel
theorem dX0_writeBlock_56 : decode cX0_writeBlock 56 = .ok (.iload_n 3, 1) := by decide +kernel
theorem dX0_writeBlock_57 : decode cX0_writeBlock 57 = .ok (.iconst 4, 1) := by decide +kernel
theorem dX0_writeBlock_58 : decode cX0_writeBlock 58 = .ok (.iadd, 1) := by decide +kernel
theorem dX0_writeBlock_59 : decode cX0_writeBlock 59 = .ok (.iload 5, 2) := by decide +kernel
theorem dX0_writeBlock_61 : decode cX0_writeBlock 61 = .ok (.iadd, 1) := by decide +kernel
theorem dX0_writeBlock_62 : decode cX0_writeBlock 62 = .ok (.iload 4, 2) := by decide +kernel
theorem dX0_writeBlock_64 : decode cX0_writeBlock 64 = .ok (.bipush 24, 2) := by decide +kernel
theorem dX0_writeBlock_66 : decode cX0_writeBlock 66 = .ok (.bipush 8, 2) := by decide +kernel
theorem dX0_writeBlock_68 : decode cX0_writeBlock 68 = .ok (.iload 5, 2) := by decide +kernel
theorem dX0_writeBlock_70 : decode cX0_writeBlock 70 = .ok (.imul, 1) := by decide +kernel
theorem dX0_writeBlock_71 : decode cX0_writeBlock 71 = .ok (.isub, 1) := by decide +kernel
theorem dX0_writeBlock_72 : decode cX0_writeBlock 72 = .ok (.iushr, 1) := by decide +kernel
theorem dX0_writeBlock_73 : decode cX0_writeBlock 73 = .ok (.i2b, 1) := by decide +kernel
theorem dX0_writeBlock_74 : decode cX0_writeBlock 74 = .ok (.bastore, 1) := by decide +kernel
theorem dX0_writeBlock_75 : decode cX0_writeBlock 75 = .ok (.iinc 5 1, 3) := by decide +kernel
theorem dX0_writeBlock_78 : decode cX0_writeBlock 78 = .ok (.goto (-32), 3) := by decide +kernel
theorem dX0_writeBlock_81 : decode cX0_writeBlock 81 = .ok (.return_, 1) := by decide +kernel
set_option maxRecDepth 20000 in
theorem ggX0_sumOfBlock_X0_crcOver : GoodIn wsX0_sumOfBlock wsX0_crcOver := goodIn_r _ [5, 6, 7, 8, 9, 10, 11, 12, 13, 14, 15, 16] (by decide +kernel) (by decide +kernel)
set_option maxRecDepth 20000 in
theorem gX0_sumOfBlock_X0_crcOver : GoodIn wsX0_sumOfBlock (wsV RX0 102 RX0 yX0_crcOver wsX0_crcOver) := goodIn_app (goodIn_of _ (by decide +kernel)) ggX0_sumOfBlock_X0_crcOver
theorem dX0_sumOfBlock_0 : decode cX0_sumOfBlock 0 = .ok (.aload_n 0, 1) := by decide +kernel
theorem dX0_sumOfBlock_1 : decode cX0_sumOfBlock 1 = .ok (.iconst (-1), 1) := by decide +kernel
theorem dX0_sumOfBlock_2 : decode cX0_sumOfBlock 2 = .ok (.iload_n 1, 1) := by decide +kernel
theorem dX0_sumOfBlock_3 : decode cX0_sumOfBlock 3 = .ok (.iload_n 1, 1) := by decide +kernel
theorem dX0_sumOfBlock_4 : decode cX0_sumOfBlock 4 = .ok (.iconst 4, 1) := by decide +kernel
theorem dX0_sumOfBlock_5 : decode cX0_sumOfBlock 5 = .ok (.iadd, 1) := by decide +kernel
theorem dX0_sumOfBlock_6 : decode cX0_sumOfBlock 6 = .ok (.invokevirtual 102, 3) := by decide +kernel
theorem dX0_sumOfBlock_9 : decode cX0_sumOfBlock 9 = .ok (.istore_n 2, 1) := by decide +kernel
theorem dX0_sumOfBlock_10 : decode cX0_sumOfBlock 10 = .ok (.aload_n 0, 1) := by decide +kernel
theorem dX0_sumOfBlock_11 : decode cX0_sumOfBlock 11 = .ok (.iload_n 2, 1) := by decide +kernel
theorem dX0_sumOfBlock_12 : decode cX0_sumOfBlock 12 = .ok (.iload_n 1, 1) := by decide +kernel
theorem dX0_sumOfBlock_13 : decode cX0_sumOfBlock 13 = .ok (.bipush 8, 2) := by decide +kernel
theorem dX0_sumOfBlock_15 : decode cX0_sumOfBlock 15 = .ok (.iadd, 1) := by decide +kernel
theorem dX0_sumOfBlock_16 : decode cX0_sumOfBlock 16 = .ok (.iload_n 1, 1) := by decide +kernel
theorem dX0_sumOfBlock_17 : decode cX0_sumOfBlock 17 = .ok (.bipush 64, 2) := by decide +kernel
theorem dX0_sumOfBlock_19 : decode cX0_sumOfBlock 19 = .ok (.iadd, 1) := by decide +kernel
theorem dX0_sumOfBlock_20 : decode cX0_sumOfBlock 20 = .ok (.invokevirtual 102, 3) := by decide +kernel
theorem dX0_sumOfBlock_23 : decode cX0_sumOfBlock 23 = .ok (.iconst (-1), 1) := by decide +kernel
theorem dX0_sumOfBlock_24 : decode cX0_sumOfBlock 24 = .ok (.ixor, 1) := by decide +kernel
theorem dX0_sumOfBlock_25 : decode cX0_sumOfBlock 25 = .ok (.ireturn, 1) := by decide +kernel
theorem dX0_crcOver_0 : decode cX0_crcOver 0 = .ok (.iload_n 1, 1) := by decide +kernel
theorem dX0_crcOver_1 : decode cX0_crcOver 1 = .ok (.istore 4, 2) := by decide +kernel
theorem dX0_crcOver_3 : decode cX0_crcOver 3 = .ok (.iload_n 2, 1) := by decide +kernel
theorem dX0_crcOver_4 : decode cX0_crcOver 4 = .ok (.istore 5, 2) := by decide +kernel
theorem dX0_crcOver_6 : decode cX0_crcOver 6 = .ok (.iload 5, 2) := by decide +kernel
theorem dX0_crcOver_8 : decode cX0_crcOver 8 = .ok (.iload_n 3, 1) := by decide +kernel
theorem dX0_crcOver_9 : decode cX0_crcOver 9 = .ok (.if_icmp .ge 64, 3) := by decide +kernel
theorem dX0_crcOver_12 : decode cX0_crcOver 12 = .ok (.iload 4, 2) := by decide +kernel
theorem dX0_crcOver_14 : decode cX0_crcOver 14 = .ok (.aload_n 0, 1) := by decide +kernel
theorem dX0_crcOver_15 : decode cX0_crcOver 15 = .ok (.getfield 13, 3) := by decide +kernel
theorem dX0_crcOver_18 : decode cX0_crcOver 18 = .ok (.iload 5, 2) := by decide +kernel
theorem dX0_crcOver_20 : decode cX0_crcOver 20 = .ok (.baload, 1) := by decide +kernel
theorem dX0_crcOver_21 : decode cX0_crcOver 21 = .ok (.sipush 255, 3) := by decide +kernel
theorem dX0_crcOver_24 : decode cX0_crcOver 24 = .ok (.iand, 1) := by decide +kernel
theorem dX0_crcOver_25 : decode cX0_crcOver 25 = .ok (.ixor, 1) := by decide +kernel
theorem dX0_crcOver_26 : decode cX0_crcOver 26 = .ok (.istore 4, 2) := by decide +kernel
theorem dX0_crcOver_28 : decode cX0_crcOver 28 = .ok (.iconst 0, 1) := by decide +kernel
theorem dX0_crcOver_29 : decode cX0_crcOver 29 = .ok (.istore 6, 2) := by decide +kernel
theorem dX0_crcOver_31 : decode cX0_crcOver 31 = .ok (.iload 6, 2) := by decide +kernel
theorem dX0_crcOver_33 : decode cX0_crcOver 33 = .ok (.bipush 8, 2) := by decide +kernel
theorem dX0_crcOver_35 : decode cX0_crcOver 35 = .ok (.if_icmp .ge 32, 3) := by decide +kernel
theorem dX0_crcOver_38 : decode cX0_crcOver 38 = .ok (.iload 4, 2) := by decide +kernel
theorem dX0_crcOver_40 : decode cX0_crcOver 40 = .ok (.iconst 1, 1) := by decide +kernel
theorem dX0_crcOver_41 : decode cX0_crcOver 41 = .ok (.iand, 1) := by decide +kernel
theorem dX0_crcOver_42 : decode cX0_crcOver 42 = .ok (.ifCond .eq 13, 3) := by decide +kernel
theorem dX0_crcOver_45 : decode cX0_crcOver 45 = .ok (.iload 4, 2) := by decide +kernel
theorem dX0_crcOver_47 : decode cX0_crcOver 47 = .ok (.iconst 1, 1) := by decide +kernel
theorem dX0_crcOver_48 : decode cX0_crcOver 48 = .ok (.iushr, 1) := by decide +kernel
theorem dX0_crcOver_49 : decode cX0_crcOver 49 = .ok (.ldc 106, 2) := by decide +kernel
theorem dX0_crcOver_51 : decode cX0_crcOver 51 = .ok (.ixor, 1) := by decide +kernel
theorem dX0_crcOver_52 : decode cX0_crcOver 52 = .ok (.goto 7, 3) := by decide +kernel
theorem dX0_crcOver_55 : decode cX0_crcOver 55 = .ok (.iload 4, 2) := by decide +kernel
theorem dX0_crcOver_57 : decode cX0_crcOver 57 = .ok (.iconst 1, 1) := by decide +kernel
theorem dX0_crcOver_58 : decode cX0_crcOver 58 = .ok (.iushr, 1) := by decide +kernel
theorem dX0_crcOver_59 : decode cX0_crcOver 59 = .ok (.istore 4, 2) := by decide +kernel
theorem dX0_crcOver_61 : decode cX0_crcOver 61 = .ok (.iinc 6 1, 3) := by decide +kernel
theorem dX0_crcOver_64 : decode cX0_crcOver 64 = .ok (.goto (-33), 3) := by decide +kernel
theorem dX0_crcOver_67 : decode cX0_crcOver 67 = .ok (.iinc 5 1, 3) := by decide +kernel
theorem dX0_crcOver_70 : decode cX0_crcOver 70 = .ok (.goto (-64), 3) := by decide +kernel
theorem dX0_crcOver_73 : decode cX0_crcOver 73 = .ok (.iload 4, 2) := by decide +kernel
theorem dX0_crcOver_75 : decode cX0_crcOver 75 = .ok (.ireturn, 1) := by decide +kernel
set_option maxRecDepth 20000 in
theorem ggX0_isRead_X0_good : GoodIn wsX0_isRead wsX0_good := goodIn_r _ [7, 8, 9, 10, 11, 6, 12, 13, 14, 15, 16, 17, 18, 19, 20, 21, 22, 23, 24, 25, 26] (by decide +kernel) (by decide +kernel)
set_option maxRecDepth 20000 in
theorem gX0_isRead_X0_good : GoodIn wsX0_isRead (wsV RX0 83 RX0 yX0_good wsX0_good) := goodIn_app (goodIn_of _ (by decide +kernel)) ggX0_isRead_X0_good
theorem dX0_isRead_0 : decode cX0_isRead 0 = .ok (.aload_n 0, 1) := by decide +kernel
theorem dX0_isRead_1 : decode cX0_isRead 1 = .ok (.getfield 16, 3) := by decide +kernel
theorem dX0_isRead_4 : decode cX0_isRead 4 = .ok (.iload_n 1, 1) := by decide +kernel
theorem dX0_isRead_5 : decode cX0_isRead 5 = .ok (.iaload, 1) := by decide +kernel
theorem dX0_isRead_6 : decode cX0_isRead 6 = .ok (.aload_n 0, 1) := by decide +kernel
theorem dX0_isRead_7 : decode cX0_isRead 7 = .ok (.getfield 20, 3) := by decide +kernel
theorem dX0_isRead_10 : decode cX0_isRead 10 = .ok (.iload_n 1, 1) := by decide +kernel
theorem dX0_isRead_11 : decode cX0_isRead 11 = .ok (.iaload, 1) := by decide +kernel
theorem dX0_isRead_12 : decode cX0_isRead 12 = .ok (.iadd, 1) := by decide +kernel
theorem dX0_isRead_13 : decode cX0_isRead 13 = .ok (.iconst 1, 1) := by decide +kernel
theorem dX0_isRead_14 : decode cX0_isRead 14 = .ok (.isub, 1) := by decide +kernel
theorem dX0_isRead_15 : decode cX0_isRead 15 = .ok (.bipush 56, 2) := by decide +kernel
theorem dX0_isRead_17 : decode cX0_isRead 17 = .ok (.idiv, 1) := by decide +kernel
theorem dX0_isRead_18 : decode cX0_isRead 18 = .ok (.istore_n 2, 1) := by decide +kernel
theorem dX0_isRead_19 : decode cX0_isRead 19 = .ok (.aload_n 0, 1) := by decide +kernel
theorem dX0_isRead_20 : decode cX0_isRead 20 = .ok (.getfield 16, 3) := by decide +kernel
theorem dX0_isRead_23 : decode cX0_isRead 23 = .ok (.iload_n 1, 1) := by decide +kernel
theorem dX0_isRead_24 : decode cX0_isRead 24 = .ok (.iaload, 1) := by decide +kernel
theorem dX0_isRead_25 : decode cX0_isRead 25 = .ok (.bipush 56, 2) := by decide +kernel
theorem dX0_isRead_27 : decode cX0_isRead 27 = .ok (.idiv, 1) := by decide +kernel
theorem dX0_isRead_28 : decode cX0_isRead 28 = .ok (.istore_n 3, 1) := by decide +kernel
theorem dX0_isRead_29 : decode cX0_isRead 29 = .ok (.iload_n 3, 1) := by decide +kernel
theorem dX0_isRead_30 : decode cX0_isRead 30 = .ok (.iload_n 2, 1) := by decide +kernel
theorem dX0_isRead_31 : decode cX0_isRead 31 = .ok (.if_icmp .gt 19, 3) := by decide +kernel
theorem dX0_isRead_34 : decode cX0_isRead 34 = .ok (.aload_n 0, 1) := by decide +kernel
theorem dX0_isRead_35 : decode cX0_isRead 35 = .ok (.iload_n 3, 1) := by decide +kernel
theorem dX0_isRead_36 : decode cX0_isRead 36 = .ok (.invokevirtual 83, 3) := by decide +kernel
theorem dX0_isRead_39 : decode cX0_isRead 39 = .ok (.ifCond .ne 5, 3) := by decide +kernel
theorem dX0_isRead_42 : decode cX0_isRead 42 = .ok (.iconst 0, 1) := by decide +kernel
theorem dX0_isRead_43 : decode cX0_isRead 43 = .ok (.ireturn, 1) := by decide +kernel
theorem dX0_isRead_44 : decode cX0_isRead 44 = .ok (.iinc 3 1, 3) := by decide +kernel
theorem dX0_isRead_47 : decode cX0_isRead 47 = .ok (.goto (-18), 3) := by decide +kernel
theorem dX0_isRead_50 : decode cX0_isRead 50 = .ok (.iconst 1, 1) := by decide +kernel
theorem dX0_isRead_51 : decode cX0_isRead 51 = .ok (.ireturn, 1) := by decide +kernel
set_option maxRecDepth 20000 in
theorem ggX0_recordOfRead_X0_isRead : GoodIn wsX0_recordOfRead wsX0_isRead := goodIn_r _ [6, 7, 8, 9, 10, 11, 5, 12, 13, 14, 15, 16, 17, 18, 19, 20, 21, 22, 23, 24, 25, 26, 27, 28, 29, 30, 31] (by decide +kernel) (by decide +kernel)
set_option maxRecDepth 20000 in
theorem gX0_recordOfRead_X0_isRead : GoodIn wsX0_recordOfRead (wsV RX0 107 RX0 yX0_isRead wsX0_isRead) := goodIn_app (goodIn_of _ (by decide +kernel)) ggX0_recordOfRead_X0_isRead
theorem dX0_recordOfRead_0 : decode cX0_recordOfRead 0 = .ok (.iconst 0, 1) := by decide +kernel
theorem dX0_recordOfRead_1 : decode cX0_recordOfRead 1 = .ok (.istore_n 2, 1) := by decide +kernel
theorem dX0_recordOfRead_2 : decode cX0_recordOfRead 2 = .ok (.iconst 0, 1) := by decide +kernel
theorem dX0_recordOfRead_3 : decode cX0_recordOfRead 3 = .ok (.istore_n 3, 1) := by decide +kernel
theorem dX0_recordOfRead_4 : decode cX0_recordOfRead 4 = .ok (.iload_n 3, 1) := by decide +kernel
theorem dX0_recordOfRead_5 : decode cX0_recordOfRead 5 = .ok (.aload_n 0, 1) := by decide +kernel
theorem dX0_recordOfRead_6 : decode cX0_recordOfRead 6 = .ok (.getfield 34, 3) := by decide +kernel
theorem dX0_recordOfRead_9 : decode cX0_recordOfRead 9 = .ok (.if_icmp .ge 27, 3) := by decide +kernel
theorem dX0_recordOfRead_12 : decode cX0_recordOfRead 12 = .ok (.aload_n 0, 1) := by decide +kernel
theorem dX0_recordOfRead_13 : decode cX0_recordOfRead 13 = .ok (.iload_n 3, 1) := by decide +kernel
theorem dX0_recordOfRead_14 : decode cX0_recordOfRead 14 = .ok (.invokevirtual 107, 3) := by decide +kernel
theorem dX0_recordOfRead_17 : decode cX0_recordOfRead 17 = .ok (.ifCond .eq 13, 3) := by decide +kernel
theorem dX0_recordOfRead_20 : decode cX0_recordOfRead 20 = .ok (.iload_n 2, 1) := by decide +kernel
theorem dX0_recordOfRead_21 : decode cX0_recordOfRead 21 = .ok (.iload_n 1, 1) := by decide +kernel
theorem dX0_recordOfRead_22 : decode cX0_recordOfRead 22 = .ok (.if_icmp .ne 5, 3) := by decide +kernel
theorem dX0_recordOfRead_25 : decode cX0_recordOfRead 25 = .ok (.iload_n 3, 1) := by decide +kernel
theorem dX0_recordOfRead_26 : decode cX0_recordOfRead 26 = .ok (.ireturn, 1) := by decide +kernel
theorem dX0_recordOfRead_27 : decode cX0_recordOfRead 27 = .ok (.iinc 2 1, 3) := by decide +kernel
theorem dX0_recordOfRead_30 : decode cX0_recordOfRead 30 = .ok (.iinc 3 1, 3) := by decide +kernel
theorem dX0_recordOfRead_33 : decode cX0_recordOfRead 33 = .ok (.goto (-29), 3) := by decide +kernel
theorem dX0_recordOfRead_36 : decode cX0_recordOfRead 36 = .ok (.iconst (-1), 1) := by decide +kernel
theorem dX0_recordOfRead_37 : decode cX0_recordOfRead 37 = .ok (.ireturn, 1) := by decide +kernel
set_option maxRecDepth 20000 in
theorem ggX0_recordsRead_X0_isRead : GoodIn wsX0_recordsRead wsX0_isRead := goodIn_r _ [6, 7, 8, 9, 10, 11, 5, 12, 13, 14, 15, 16, 17, 18, 19, 20, 21, 22, 23, 24, 25, 26, 27, 28, 29, 30, 31] (by decide +kernel) (by decide +kernel)
set_option maxRecDepth 20000 in
theorem gX0_recordsRead_X0_isRead : GoodIn wsX0_recordsRead (wsV RX0 107 RX0 yX0_isRead wsX0_isRead) := goodIn_app (goodIn_of _ (by decide +kernel)) ggX0_recordsRead_X0_isRead
theorem dX0_recordsRead_0 : decode cX0_recordsRead 0 = .ok (.iconst 0, 1) := by decide +kernel
theorem dX0_recordsRead_1 : decode cX0_recordsRead 1 = .ok (.istore_n 1, 1) := by decide +kernel
theorem dX0_recordsRead_2 : decode cX0_recordsRead 2 = .ok (.iconst 0, 1) := by decide +kernel
theorem dX0_recordsRead_3 : decode cX0_recordsRead 3 = .ok (.istore_n 2, 1) := by decide +kernel
theorem dX0_recordsRead_4 : decode cX0_recordsRead 4 = .ok (.iload_n 2, 1) := by decide +kernel
theorem dX0_recordsRead_5 : decode cX0_recordsRead 5 = .ok (.aload_n 0, 1) := by decide +kernel
theorem dX0_recordsRead_6 : decode cX0_recordsRead 6 = .ok (.getfield 34, 3) := by decide +kernel
theorem dX0_recordsRead_9 : decode cX0_recordsRead 9 = .ok (.if_icmp .ge 20, 3) := by decide +kernel
theorem dX0_recordsRead_12 : decode cX0_recordsRead 12 = .ok (.aload_n 0, 1) := by decide +kernel
theorem dX0_recordsRead_13 : decode cX0_recordsRead 13 = .ok (.iload_n 2, 1) := by decide +kernel
theorem dX0_recordsRead_14 : decode cX0_recordsRead 14 = .ok (.invokevirtual 107, 3) := by decide +kernel
theorem dX0_recordsRead_17 : decode cX0_recordsRead 17 = .ok (.ifCond .eq 6, 3) := by decide +kernel
theorem dX0_recordsRead_20 : decode cX0_recordsRead 20 = .ok (.iinc 1 1, 3) := by decide +kernel
theorem dX0_recordsRead_23 : decode cX0_recordsRead 23 = .ok (.iinc 2 1, 3) := by decide +kernel
theorem dX0_recordsRead_26 : decode cX0_recordsRead 26 = .ok (.goto (-22), 3) := by decide +kernel
theorem dX0_recordsRead_29 : decode cX0_recordsRead 29 = .ok (.iload_n 1, 1) := by decide +kernel
theorem dX0_recordsRead_30 : decode cX0_recordsRead 30 = .ok (.ireturn, 1) := by decide +kernel
set_option maxRecDepth 20000 in
theorem ggX0_recordByte_X0_rowByte : GoodIn wsX0_recordByte wsX0_rowByte := goodIn_r _ [6, 7, 8, 9, 10, 5, 11, 12, 13, 14, 15, 16, 17, 18, 19, 20] (by decide +kernel) (by decide +kernel)
set_option maxRecDepth 20000 in
theorem gX0_recordByte_X0_rowByte : GoodIn wsX0_recordByte (wsV RX0 68 RX0 yX0_rowByte wsX0_rowByte) := goodIn_app (goodIn_of _ (by decide +kernel)) ggX0_recordByte_X0_rowByte
theorem dX0_recordByte_0 : decode cX0_recordByte 0 = .ok (.iload_n 2, 1) := by decide +kernel
theorem dX0_recordByte_1 : decode cX0_recordByte 1 = .ok (.ifCond .lt 16, 3) := by decide +kernel
theorem dX0_recordByte_4 : decode cX0_recordByte 4 = .ok (.iload_n 2, 1) := by decide +kernel
theorem dX0_recordByte_5 : decode cX0_recordByte 5 = .ok (.aload_n 0, 1) := by decide +kernel
theorem dX0_recordByte_6 : decode cX0_recordByte 6 = .ok (.getfield 20, 3) := by decide +kernel
theorem dX0_recordByte_9 : decode cX0_recordByte 9 = .ok (.iload_n 1, 1) := by decide +kernel
theorem dX0_recordByte_10 : decode cX0_recordByte 10 = .ok (.iaload, 1) := by decide +kernel
theorem dX0_recordByte_11 : decode cX0_recordByte 11 = .ok (.bipush 6, 2) := by decide +kernel
theorem dX0_recordByte_13 : decode cX0_recordByte 13 = .ok (.isub, 1) := by decide +kernel
theorem dX0_recordByte_14 : decode cX0_recordByte 14 = .ok (.if_icmp .lt 5, 3) := by decide +kernel
theorem dX0_recordByte_17 : decode cX0_recordByte 17 = .ok (.iconst (-1), 1) := by decide +kernel
theorem dX0_recordByte_18 : decode cX0_recordByte 18 = .ok (.ireturn, 1) := by decide +kernel
theorem dX0_recordByte_19 : decode cX0_recordByte 19 = .ok (.aload_n 0, 1) := by decide +kernel
theorem dX0_recordByte_20 : decode cX0_recordByte 20 = .ok (.iload_n 1, 1) := by decide +kernel
theorem dX0_recordByte_21 : decode cX0_recordByte 21 = .ok (.bipush 6, 2) := by decide +kernel
theorem dX0_recordByte_23 : decode cX0_recordByte 23 = .ok (.iload_n 2, 1) := by decide +kernel
theorem dX0_recordByte_24 : decode cX0_recordByte 24 = .ok (.iadd, 1) := by decide +kernel
theorem dX0_recordByte_25 : decode cX0_recordByte 25 = .ok (.invokevirtual 68, 3) := by decide +kernel
theorem dX0_recordByte_28 : decode cX0_recordByte 28 = .ok (.ireturn, 1) := by decide +kernel
set_option maxRecDepth 20000 in
theorem ggX0_rowByte_X0_indexOfPlace : GoodIn wsX0_rowByte wsX0_indexOfPlace := goodIn_r _ [6] (by decide +kernel) (by decide +kernel)
set_option maxRecDepth 20000 in
theorem gX0_rowByte_X0_indexOfPlace : GoodIn wsX0_rowByte (va_wsS RX0 96 yX0_indexOfPlace wsX0_indexOfPlace) := goodIn_app (goodIn_of _ (by decide +kernel)) ggX0_rowByte_X0_indexOfPlace
theorem dX0_rowByte_0 : decode cX0_rowByte 0 = .ok (.aload_n 0, 1) := by decide +kernel
theorem dX0_rowByte_1 : decode cX0_rowByte 1 = .ok (.getfield 13, 3) := by decide +kernel
theorem dX0_rowByte_4 : decode cX0_rowByte 4 = .ok (.aload_n 0, 1) := by decide +kernel
theorem dX0_rowByte_5 : decode cX0_rowByte 5 = .ok (.getfield 16, 3) := by decide +kernel
theorem dX0_rowByte_8 : decode cX0_rowByte 8 = .ok (.iload_n 1, 1) := by decide +kernel
theorem dX0_rowByte_9 : decode cX0_rowByte 9 = .ok (.iaload, 1) := by decide +kernel
theorem dX0_rowByte_10 : decode cX0_rowByte 10 = .ok (.iload_n 2, 1) := by decide +kernel
theorem dX0_rowByte_11 : decode cX0_rowByte 11 = .ok (.iadd, 1) := by decide +kernel
theorem dX0_rowByte_12 : decode cX0_rowByte 12 = .ok (.invokestatic 96, 3) := by decide +kernel
theorem dX0_rowByte_15 : decode cX0_rowByte 15 = .ok (.baload, 1) := by decide +kernel
theorem dX0_rowByte_16 : decode cX0_rowByte 16 = .ok (.sipush 255, 3) := by decide +kernel
theorem dX0_rowByte_19 : decode cX0_rowByte 19 = .ok (.iand, 1) := by decide +kernel
theorem dX0_rowByte_20 : decode cX0_rowByte 20 = .ok (.ireturn, 1) := by decide +kernel
set_option maxRecDepth 20000 in
theorem ggX0_blocksNotGood_X0_blocksWritten : GoodIn wsX0_blocksNotGood wsX0_blocksWritten := goodIn_r _ [5, 6, 16, 17, 18, 19, 20, 21, 22, 23, 24] (by decide +kernel) (by decide +kernel)
set_option maxRecDepth 20000 in
theorem gX0_blocksNotGood_X0_blocksWritten : GoodIn wsX0_blocksNotGood (wsV RX0 80 RX0 yX0_blocksWritten wsX0_blocksWritten) := goodIn_app (goodIn_of _ (by decide +kernel)) ggX0_blocksNotGood_X0_blocksWritten
set_option maxRecDepth 20000 in
theorem ggX0_blocksNotGood_X0_good : GoodIn wsX0_blocksNotGood wsX0_good := goodIn_r _ [10, 11, 12, 13, 14, 4, 15, 1, 2, 3, 5, 6, 16, 17, 18, 19, 20, 21, 22, 23, 24] (by decide +kernel) (by decide +kernel)
set_option maxRecDepth 20000 in
theorem gX0_blocksNotGood_X0_good : GoodIn wsX0_blocksNotGood (wsV RX0 83 RX0 yX0_good wsX0_good) := goodIn_app (goodIn_of _ (by decide +kernel)) ggX0_blocksNotGood_X0_good
theorem dX0_blocksNotGood_0 : decode cX0_blocksNotGood 0 = .ok (.iconst 0, 1) := by decide +kernel
theorem dX0_blocksNotGood_1 : decode cX0_blocksNotGood 1 = .ok (.istore_n 1, 1) := by decide +kernel
theorem dX0_blocksNotGood_2 : decode cX0_blocksNotGood 2 = .ok (.iconst 0, 1) := by decide +kernel
theorem dX0_blocksNotGood_3 : decode cX0_blocksNotGood 3 = .ok (.istore_n 2, 1) := by decide +kernel
theorem dX0_blocksNotGood_4 : decode cX0_blocksNotGood 4 = .ok (.iload_n 2, 1) := by decide +kernel
theorem dX0_blocksNotGood_5 : decode cX0_blocksNotGood 5 = .ok (.aload_n 0, 1) := by decide +kernel
theorem dX0_blocksNotGood_6 : decode cX0_blocksNotGood 6 = .ok (.invokevirtual 80, 3) := by decide +kernel
theorem dX0_blocksNotGood_9 : decode cX0_blocksNotGood 9 = .ok (.if_icmp .ge 20, 3) := by decide +kernel
theorem dX0_blocksNotGood_12 : decode cX0_blocksNotGood 12 = .ok (.aload_n 0, 1) := by decide +kernel
theorem dX0_blocksNotGood_13 : decode cX0_blocksNotGood 13 = .ok (.iload_n 2, 1) := by decide +kernel
theorem dX0_blocksNotGood_14 : decode cX0_blocksNotGood 14 = .ok (.invokevirtual 83, 3) := by decide +kernel
theorem dX0_blocksNotGood_17 : decode cX0_blocksNotGood 17 = .ok (.ifCond .ne 6, 3) := by decide +kernel
theorem dX0_blocksNotGood_20 : decode cX0_blocksNotGood 20 = .ok (.iinc 1 1, 3) := by decide +kernel
theorem dX0_blocksNotGood_23 : decode cX0_blocksNotGood 23 = .ok (.iinc 2 1, 3) := by decide +kernel
theorem dX0_blocksNotGood_26 : decode cX0_blocksNotGood 26 = .ok (.goto (-22), 3) := by decide +kernel
theorem dX0_blocksNotGood_29 : decode cX0_blocksNotGood 29 = .ok (.iload_n 1, 1) := by decide +kernel
theorem dX0_blocksNotGood_30 : decode cX0_blocksNotGood 30 = .ok (.ireturn, 1) := by decide +kernel
theorem dL_law_0 : decode cL_law 0 = .ok (.new 7, 3) := by decide +kernel
theorem dL_law_3 : decode cL_law 3 = .ok (.dup, 1) := by decide +kernel
theorem dL_law_4 : decode cL_law 4 = .ok (.invokespecial 9, 3) := by decide +kernel
theorem dL_law_7 : decode cL_law 7 = .ok (.astore_n 1, 1) := by decide +kernel
theorem dL_law_8 : decode cL_law 8 = .ok (.new 10, 3) := by decide +kernel
theorem dL_law_11 : decode cL_law 11 = .ok (.dup, 1) := by decide +kernel
theorem dL_law_12 : decode cL_law 12 = .ok (.invokespecial 12, 3) := by decide +kernel
theorem dL_law_15 : decode cL_law 15 = .ok (.astore_n 2, 1) := by decide +kernel
theorem dL_law_16 : decode cL_law 16 = .ok (.iconst 0, 1) := by decide +kernel
theorem dL_law_17 : decode cL_law 17 = .ok (.istore_n 3, 1) := by decide +kernel
theorem dL_law_18 : decode cL_law 18 = .ok (.iload_n 3, 1) := by decide +kernel
theorem dL_law_19 : decode cL_law 19 = .ok (.aload_n 0, 1) := by decide +kernel
theorem dL_law_20 : decode cL_law 20 = .ok (.arraylength, 1) := by decide +kernel
theorem dL_law_21 : decode cL_law 21 = .ok (.iconst 4, 1) := by decide +kernel
theorem dL_law_22 : decode cL_law 22 = .ok (.isub, 1) := by decide +kernel
theorem dL_law_23 : decode cL_law 23 = .ok (.if_icmp .gt 351, 3) := by decide +kernel
theorem dL_law_26 : decode cL_law 26 = .ok (.aload_n 0, 1) := by decide +kernel
theorem dL_law_27 : decode cL_law 27 = .ok (.iload_n 3, 1) := by decide +kernel
theorem dL_law_28 : decode cL_law 28 = .ok (.iaload, 1) := by decide +kernel
theorem dL_law_29 : decode cL_law 29 = .ok (.bipush 15, 2) := by decide +kernel
theorem dL_law_31 : decode cL_law 31 = .ok (.iand, 1) := by decide +kernel
theorem dL_law_32 : decode cL_law 32 = .ok (.tableswitch 336 0 9 #[56, 89, 122, 135, 178, 201, 234, 257, 290, 313], 56) := by decide +kernel
theorem dL_law_88 : decode cL_law 88 = .ok (.aload_n 1, 1) := by decide +kernel
theorem dL_law_89 : decode cL_law 89 = .ok (.aload_n 0, 1) := by decide +kernel
theorem dL_law_90 : decode cL_law 90 = .ok (.iload_n 3, 1) := by decide +kernel
theorem dL_law_91 : decode cL_law 91 = .ok (.iconst 1, 1) := by decide +kernel
theorem dL_law_92 : decode cL_law 92 = .ok (.iadd, 1) := by decide +kernel
theorem dL_law_93 : decode cL_law 93 = .ok (.iaload, 1) := by decide +kernel
theorem dL_law_94 : decode cL_law 94 = .ok (.aload_n 0, 1) := by decide +kernel
theorem dL_law_95 : decode cL_law 95 = .ok (.iload_n 3, 1) := by decide +kernel
theorem dL_law_96 : decode cL_law 96 = .ok (.iconst 2, 1) := by decide +kernel
theorem dL_law_97 : decode cL_law 97 = .ok (.iadd, 1) := by decide +kernel
theorem dL_law_98 : decode cL_law 98 = .ok (.iaload, 1) := by decide +kernel
theorem dL_law_99 : decode cL_law 99 = .ok (.invokevirtual 13, 3) := by decide +kernel
theorem dL_law_102 : decode cL_law 102 = .ok (.aload_n 2, 1) := by decide +kernel
theorem dL_law_103 : decode cL_law 103 = .ok (.aload_n 0, 1) := by decide +kernel
theorem dL_law_104 : decode cL_law 104 = .ok (.iload_n 3, 1) := by decide +kernel
theorem dL_law_105 : decode cL_law 105 = .ok (.iconst 1, 1) := by decide +kernel
theorem dL_law_106 : decode cL_law 106 = .ok (.iadd, 1) := by decide +kernel
theorem dL_law_107 : decode cL_law 107 = .ok (.iaload, 1) := by decide +kernel
theorem dL_law_108 : decode cL_law 108 = .ok (.aload_n 0, 1) := by decide +kernel
theorem dL_law_109 : decode cL_law 109 = .ok (.iload_n 3, 1) := by decide +kernel
theorem dL_law_110 : decode cL_law 110 = .ok (.iconst 2, 1) := by decide +kernel
theorem dL_law_111 : decode cL_law 111 = .ok (.iadd, 1) := by decide +kernel
theorem dL_law_112 : decode cL_law 112 = .ok (.iaload, 1) := by decide +kernel
theorem dL_law_113 : decode cL_law 113 = .ok (.invokevirtual 17, 3) := by decide +kernel
theorem dL_law_116 : decode cL_law 116 = .ok (.if_icmp .eq 252, 3) := by decide +kernel
theorem dL_law_119 : decode cL_law 119 = .ok (.iconst 0, 1) := by decide +kernel
theorem dL_law_120 : decode cL_law 120 = .ok (.ireturn, 1) := by decide +kernel
theorem dL_law_121 : decode cL_law 121 = .ok (.aload_n 1, 1) := by decide +kernel
theorem dL_law_122 : decode cL_law 122 = .ok (.aload_n 0, 1) := by decide +kernel
theorem dL_law_123 : decode cL_law 123 = .ok (.iload_n 3, 1) := by decide +kernel
theorem dL_law_124 : decode cL_law 124 = .ok (.iconst 1, 1) := by decide +kernel
theorem dL_law_125 : decode cL_law 125 = .ok (.iadd, 1) := by decide +kernel
theorem dL_law_126 : decode cL_law 126 = .ok (.iaload, 1) := by decide +kernel
theorem dL_law_127 : decode cL_law 127 = .ok (.aload_n 0, 1) := by decide +kernel
theorem dL_law_128 : decode cL_law 128 = .ok (.iload_n 3, 1) := by decide +kernel
theorem dL_law_129 : decode cL_law 129 = .ok (.iconst 2, 1) := by decide +kernel
theorem dL_law_130 : decode cL_law 130 = .ok (.iadd, 1) := by decide +kernel
theorem dL_law_131 : decode cL_law 131 = .ok (.iaload, 1) := by decide +kernel
theorem dL_law_132 : decode cL_law 132 = .ok (.invokevirtual 18, 3) := by decide +kernel
theorem dL_law_135 : decode cL_law 135 = .ok (.aload_n 2, 1) := by decide +kernel
theorem dL_law_136 : decode cL_law 136 = .ok (.aload_n 0, 1) := by decide +kernel
theorem dL_law_137 : decode cL_law 137 = .ok (.iload_n 3, 1) := by decide +kernel
theorem dL_law_138 : decode cL_law 138 = .ok (.iconst 1, 1) := by decide +kernel
theorem dL_law_139 : decode cL_law 139 = .ok (.iadd, 1) := by decide +kernel
theorem dL_law_140 : decode cL_law 140 = .ok (.iaload, 1) := by decide +kernel
theorem dL_law_141 : decode cL_law 141 = .ok (.aload_n 0, 1) := by decide +kernel
theorem dL_law_142 : decode cL_law 142 = .ok (.iload_n 3, 1) := by decide +kernel
theorem dL_law_143 : decode cL_law 143 = .ok (.iconst 2, 1) := by decide +kernel
theorem dL_law_144 : decode cL_law 144 = .ok (.iadd, 1) := by decide +kernel
theorem dL_law_145 : decode cL_law 145 = .ok (.iaload, 1) := by decide +kernel
theorem dL_law_146 : decode cL_law 146 = .ok (.invokevirtual 21, 3) := by decide +kernel
theorem dL_law_149 : decode cL_law 149 = .ok (.if_icmp .eq 219, 3) := by decide +kernel
theorem dL_law_152 : decode cL_law 152 = .ok (.iconst 0, 1) := by decide +kernel
theorem dL_law_153 : decode cL_law 153 = .ok (.ireturn, 1) := by decide +kernel
theorem dL_law_154 : decode cL_law 154 = .ok (.aload_n 1, 1) := by decide +kernel
theorem dL_law_155 : decode cL_law 155 = .ok (.invokevirtual 22, 3) := by decide +kernel
theorem dL_law_158 : decode cL_law 158 = .ok (.aload_n 2, 1) := by decide +kernel
theorem dL_law_159 : decode cL_law 159 = .ok (.invokevirtual 26, 3) := by decide +kernel
theorem dL_law_162 : decode cL_law 162 = .ok (.if_icmp .eq 206, 3) := by decide +kernel
theorem dL_law_165 : decode cL_law 165 = .ok (.iconst 0, 1) := by decide +kernel
theorem dL_law_166 : decode cL_law 166 = .ok (.ireturn, 1) := by decide +kernel
theorem dL_law_167 : decode cL_law 167 = .ok (.aload_n 1, 1) := by decide +kernel
theorem dL_law_168 : decode cL_law 168 = .ok (.aload_n 0, 1) := by decide +kernel
theorem dL_law_169 : decode cL_law 169 = .ok (.iload_n 3, 1) := by decide +kernel
theorem dL_law_170 : decode cL_law 170 = .ok (.iconst 1, 1) := by decide +kernel
theorem dL_law_171 : decode cL_law 171 = .ok (.iadd, 1) := by decide +kernel
theorem dL_law_172 : decode cL_law 172 = .ok (.iaload, 1) := by decide +kernel
theorem dL_law_173 : decode cL_law 173 = .ok (.aload_n 0, 1) := by decide +kernel
theorem dL_law_174 : decode cL_law 174 = .ok (.iload_n 3, 1) := by decide +kernel
theorem dL_law_175 : decode cL_law 175 = .ok (.iconst 2, 1) := by decide +kernel
theorem dL_law_176 : decode cL_law 176 = .ok (.iadd, 1) := by decide +kernel
theorem dL_law_177 : decode cL_law 177 = .ok (.iaload, 1) := by decide +kernel
theorem dL_law_178 : decode cL_law 178 = .ok (.aload_n 0, 1) := by decide +kernel
theorem dL_law_179 : decode cL_law 179 = .ok (.iload_n 3, 1) := by decide +kernel
theorem dL_law_180 : decode cL_law 180 = .ok (.iconst 3, 1) := by decide +kernel
theorem dL_law_181 : decode cL_law 181 = .ok (.iadd, 1) := by decide +kernel
theorem dL_law_182 : decode cL_law 182 = .ok (.iaload, 1) := by decide +kernel
theorem dL_law_183 : decode cL_law 183 = .ok (.invokevirtual 27, 3) := by decide +kernel
theorem dL_law_186 : decode cL_law 186 = .ok (.aload_n 2, 1) := by decide +kernel
theorem dL_law_187 : decode cL_law 187 = .ok (.aload_n 0, 1) := by decide +kernel
theorem dL_law_188 : decode cL_law 188 = .ok (.iload_n 3, 1) := by decide +kernel
theorem dL_law_189 : decode cL_law 189 = .ok (.iconst 1, 1) := by decide +kernel
theorem dL_law_190 : decode cL_law 190 = .ok (.iadd, 1) := by decide +kernel
theorem dL_law_191 : decode cL_law 191 = .ok (.iaload, 1) := by decide +kernel
theorem dL_law_192 : decode cL_law 192 = .ok (.aload_n 0, 1) := by decide +kernel
theorem dL_law_193 : decode cL_law 193 = .ok (.iload_n 3, 1) := by decide +kernel
theorem dL_law_194 : decode cL_law 194 = .ok (.iconst 2, 1) := by decide +kernel
theorem dL_law_195 : decode cL_law 195 = .ok (.iadd, 1) := by decide +kernel
theorem dL_law_196 : decode cL_law 196 = .ok (.iaload, 1) := by decide +kernel
theorem dL_law_197 : decode cL_law 197 = .ok (.aload_n 0, 1) := by decide +kernel
theorem dL_law_198 : decode cL_law 198 = .ok (.iload_n 3, 1) := by decide +kernel
theorem dL_law_199 : decode cL_law 199 = .ok (.iconst 3, 1) := by decide +kernel
theorem dL_law_200 : decode cL_law 200 = .ok (.iadd, 1) := by decide +kernel
theorem dL_law_201 : decode cL_law 201 = .ok (.iaload, 1) := by decide +kernel
theorem dL_law_202 : decode cL_law 202 = .ok (.invokevirtual 31, 3) := by decide +kernel
theorem dL_law_205 : decode cL_law 205 = .ok (.if_icmp .eq 163, 3) := by decide +kernel
theorem dL_law_208 : decode cL_law 208 = .ok (.iconst 0, 1) := by decide +kernel
theorem dL_law_209 : decode cL_law 209 = .ok (.ireturn, 1) := by decide +kernel
theorem dL_law_210 : decode cL_law 210 = .ok (.aload_n 1, 1) := by decide +kernel
theorem dL_law_211 : decode cL_law 211 = .ok (.aload_n 0, 1) := by decide +kernel
theorem dL_law_212 : decode cL_law 212 = .ok (.iload_n 3, 1) := by decide +kernel
theorem dL_law_213 : decode cL_law 213 = .ok (.iconst 1, 1) := by decide +kernel
theorem dL_law_214 : decode cL_law 214 = .ok (.iadd, 1) := by decide +kernel
theorem dL_law_215 : decode cL_law 215 = .ok (.iaload, 1) := by decide +kernel
theorem dL_law_216 : decode cL_law 216 = .ok (.invokevirtual 32, 3) := by decide +kernel
theorem dL_law_219 : decode cL_law 219 = .ok (.aload_n 2, 1) := by decide +kernel
theorem dL_law_220 : decode cL_law 220 = .ok (.aload_n 0, 1) := by decide +kernel
theorem dL_law_221 : decode cL_law 221 = .ok (.iload_n 3, 1) := by decide +kernel
theorem dL_law_222 : decode cL_law 222 = .ok (.iconst 1, 1) := by decide +kernel
theorem dL_law_223 : decode cL_law 223 = .ok (.iadd, 1) := by decide +kernel
theorem dL_law_224 : decode cL_law 224 = .ok (.iaload, 1) := by decide +kernel
theorem dL_law_225 : decode cL_law 225 = .ok (.invokevirtual 36, 3) := by decide +kernel
theorem dL_law_228 : decode cL_law 228 = .ok (.if_icmp .eq 140, 3) := by decide +kernel
theorem dL_law_231 : decode cL_law 231 = .ok (.iconst 0, 1) := by decide +kernel
theorem dL_law_232 : decode cL_law 232 = .ok (.ireturn, 1) := by decide +kernel
theorem dL_law_233 : decode cL_law 233 = .ok (.aload_n 1, 1) := by decide +kernel
theorem dL_law_234 : decode cL_law 234 = .ok (.aload_n 0, 1) := by decide +kernel
theorem dL_law_235 : decode cL_law 235 = .ok (.iload_n 3, 1) := by decide +kernel
theorem dL_law_236 : decode cL_law 236 = .ok (.iconst 1, 1) := by decide +kernel
theorem dL_law_237 : decode cL_law 237 = .ok (.iadd, 1) := by decide +kernel
theorem dL_law_238 : decode cL_law 238 = .ok (.iaload, 1) := by decide +kernel
theorem dL_law_239 : decode cL_law 239 = .ok (.aload_n 0, 1) := by decide +kernel
theorem dL_law_240 : decode cL_law 240 = .ok (.iload_n 3, 1) := by decide +kernel
theorem dL_law_241 : decode cL_law 241 = .ok (.iconst 2, 1) := by decide +kernel
theorem dL_law_242 : decode cL_law 242 = .ok (.iadd, 1) := by decide +kernel
theorem dL_law_243 : decode cL_law 243 = .ok (.iaload, 1) := by decide +kernel
theorem dL_law_244 : decode cL_law 244 = .ok (.invokevirtual 37, 3) := by decide +kernel
theorem dL_law_247 : decode cL_law 247 = .ok (.aload_n 2, 1) := by decide +kernel
theorem dL_law_248 : decode cL_law 248 = .ok (.aload_n 0, 1) := by decide +kernel
theorem dL_law_249 : decode cL_law 249 = .ok (.iload_n 3, 1) := by decide +kernel
theorem dL_law_250 : decode cL_law 250 = .ok (.iconst 1, 1) := by decide +kernel
theorem dL_law_251 : decode cL_law 251 = .ok (.iadd, 1) := by decide +kernel
theorem dL_law_252 : decode cL_law 252 = .ok (.iaload, 1) := by decide +kernel
theorem dL_law_253 : decode cL_law 253 = .ok (.aload_n 0, 1) := by decide +kernel
theorem dL_law_254 : decode cL_law 254 = .ok (.iload_n 3, 1) := by decide +kernel
theorem dL_law_255 : decode cL_law 255 = .ok (.iconst 2, 1) := by decide +kernel
theorem dL_law_256 : decode cL_law 256 = .ok (.iadd, 1) := by decide +kernel
theorem dL_law_257 : decode cL_law 257 = .ok (.iaload, 1) := by decide +kernel
theorem dL_law_258 : decode cL_law 258 = .ok (.invokevirtual 40, 3) := by decide +kernel
theorem dL_law_261 : decode cL_law 261 = .ok (.if_icmp .eq 107, 3) := by decide +kernel
theorem dL_law_264 : decode cL_law 264 = .ok (.iconst 0, 1) := by decide +kernel
theorem dL_law_265 : decode cL_law 265 = .ok (.ireturn, 1) := by decide +kernel
theorem dL_law_266 : decode cL_law 266 = .ok (.aload_n 1, 1) := by decide +kernel
theorem dL_law_267 : decode cL_law 267 = .ok (.aload_n 0, 1) := by decide +kernel
theorem dL_law_268 : decode cL_law 268 = .ok (.iload_n 3, 1) := by decide +kernel
theorem dL_law_269 : decode cL_law 269 = .ok (.iconst 1, 1) := by decide +kernel
theorem dL_law_270 : decode cL_law 270 = .ok (.iadd, 1) := by decide +kernel
theorem dL_law_271 : decode cL_law 271 = .ok (.iaload, 1) := by decide +kernel
theorem dL_law_272 : decode cL_law 272 = .ok (.invokevirtual 41, 3) := by decide +kernel
theorem dL_law_275 : decode cL_law 275 = .ok (.aload_n 2, 1) := by decide +kernel
theorem dL_law_276 : decode cL_law 276 = .ok (.aload_n 0, 1) := by decide +kernel
theorem dL_law_277 : decode cL_law 277 = .ok (.iload_n 3, 1) := by decide +kernel
theorem dL_law_278 : decode cL_law 278 = .ok (.iconst 1, 1) := by decide +kernel
theorem dL_law_279 : decode cL_law 279 = .ok (.iadd, 1) := by decide +kernel
theorem dL_law_280 : decode cL_law 280 = .ok (.iaload, 1) := by decide +kernel
theorem dL_law_281 : decode cL_law 281 = .ok (.invokevirtual 44, 3) := by decide +kernel
theorem dL_law_284 : decode cL_law 284 = .ok (.if_icmp .eq 84, 3) := by decide +kernel
theorem dL_law_287 : decode cL_law 287 = .ok (.iconst 0, 1) := by decide +kernel
theorem dL_law_288 : decode cL_law 288 = .ok (.ireturn, 1) := by decide +kernel
theorem dL_law_289 : decode cL_law 289 = .ok (.aload_n 1, 1) := by decide +kernel
theorem dL_law_290 : decode cL_law 290 = .ok (.aload_n 0, 1) := by decide +kernel
theorem dL_law_291 : decode cL_law 291 = .ok (.iload_n 3, 1) := by decide +kernel
theorem dL_law_292 : decode cL_law 292 = .ok (.iconst 1, 1) := by decide +kernel
theorem dL_law_293 : decode cL_law 293 = .ok (.iadd, 1) := by decide +kernel
theorem dL_law_294 : decode cL_law 294 = .ok (.iaload, 1) := by decide +kernel
theorem dL_law_295 : decode cL_law 295 = .ok (.aload_n 0, 1) := by decide +kernel
theorem dL_law_296 : decode cL_law 296 = .ok (.iload_n 3, 1) := by decide +kernel
theorem dL_law_297 : decode cL_law 297 = .ok (.iconst 2, 1) := by decide +kernel
theorem dL_law_298 : decode cL_law 298 = .ok (.iadd, 1) := by decide +kernel
theorem dL_law_299 : decode cL_law 299 = .ok (.iaload, 1) := by decide +kernel
theorem dL_law_300 : decode cL_law 300 = .ok (.invokevirtual 45, 3) := by decide +kernel
theorem dL_law_303 : decode cL_law 303 = .ok (.aload_n 2, 1) := by decide +kernel
theorem dL_law_304 : decode cL_law 304 = .ok (.aload_n 0, 1) := by decide +kernel
theorem dL_law_305 : decode cL_law 305 = .ok (.iload_n 3, 1) := by decide +kernel
theorem dL_law_306 : decode cL_law 306 = .ok (.iconst 1, 1) := by decide +kernel
theorem dL_law_307 : decode cL_law 307 = .ok (.iadd, 1) := by decide +kernel
theorem dL_law_308 : decode cL_law 308 = .ok (.iaload, 1) := by decide +kernel
theorem dL_law_309 : decode cL_law 309 = .ok (.aload_n 0, 1) := by decide +kernel
theorem dL_law_310 : decode cL_law 310 = .ok (.iload_n 3, 1) := by decide +kernel
theorem dL_law_311 : decode cL_law 311 = .ok (.iconst 2, 1) := by decide +kernel
theorem dL_law_312 : decode cL_law 312 = .ok (.iadd, 1) := by decide +kernel
theorem dL_law_313 : decode cL_law 313 = .ok (.iaload, 1) := by decide +kernel
theorem dL_law_314 : decode cL_law 314 = .ok (.invokevirtual 48, 3) := by decide +kernel
theorem dL_law_317 : decode cL_law 317 = .ok (.if_icmp .eq 51, 3) := by decide +kernel
theorem dL_law_320 : decode cL_law 320 = .ok (.iconst 0, 1) := by decide +kernel
theorem dL_law_321 : decode cL_law 321 = .ok (.ireturn, 1) := by decide +kernel
theorem dL_law_322 : decode cL_law 322 = .ok (.aload_n 1, 1) := by decide +kernel
theorem dL_law_323 : decode cL_law 323 = .ok (.aload_n 0, 1) := by decide +kernel
theorem dL_law_324 : decode cL_law 324 = .ok (.iload_n 3, 1) := by decide +kernel
theorem dL_law_325 : decode cL_law 325 = .ok (.iconst 1, 1) := by decide +kernel
theorem dL_law_326 : decode cL_law 326 = .ok (.iadd, 1) := by decide +kernel
theorem dL_law_327 : decode cL_law 327 = .ok (.iaload, 1) := by decide +kernel
theorem dL_law_328 : decode cL_law 328 = .ok (.invokevirtual 49, 3) := by decide +kernel
theorem dL_law_331 : decode cL_law 331 = .ok (.aload_n 2, 1) := by decide +kernel
theorem dL_law_332 : decode cL_law 332 = .ok (.aload_n 0, 1) := by decide +kernel
theorem dL_law_333 : decode cL_law 333 = .ok (.iload_n 3, 1) := by decide +kernel
theorem dL_law_334 : decode cL_law 334 = .ok (.iconst 1, 1) := by decide +kernel
theorem dL_law_335 : decode cL_law 335 = .ok (.iadd, 1) := by decide +kernel
theorem dL_law_336 : decode cL_law 336 = .ok (.iaload, 1) := by decide +kernel
theorem dL_law_337 : decode cL_law 337 = .ok (.invokevirtual 53, 3) := by decide +kernel
theorem dL_law_340 : decode cL_law 340 = .ok (.if_icmp .eq 28, 3) := by decide +kernel
theorem dL_law_343 : decode cL_law 343 = .ok (.iconst 0, 1) := by decide +kernel
theorem dL_law_344 : decode cL_law 344 = .ok (.ireturn, 1) := by decide +kernel
theorem dL_law_345 : decode cL_law 345 = .ok (.aload_n 1, 1) := by decide +kernel
theorem dL_law_346 : decode cL_law 346 = .ok (.aload_n 0, 1) := by decide +kernel
theorem dL_law_347 : decode cL_law 347 = .ok (.iload_n 3, 1) := by decide +kernel
theorem dL_law_348 : decode cL_law 348 = .ok (.iconst 1, 1) := by decide +kernel
theorem dL_law_349 : decode cL_law 349 = .ok (.iadd, 1) := by decide +kernel
theorem dL_law_350 : decode cL_law 350 = .ok (.iaload, 1) := by decide +kernel
theorem dL_law_351 : decode cL_law 351 = .ok (.invokevirtual 54, 3) := by decide +kernel
theorem dL_law_354 : decode cL_law 354 = .ok (.aload_n 2, 1) := by decide +kernel
theorem dL_law_355 : decode cL_law 355 = .ok (.aload_n 0, 1) := by decide +kernel
theorem dL_law_356 : decode cL_law 356 = .ok (.iload_n 3, 1) := by decide +kernel
theorem dL_law_357 : decode cL_law 357 = .ok (.iconst 1, 1) := by decide +kernel
theorem dL_law_358 : decode cL_law 358 = .ok (.iadd, 1) := by decide +kernel
theorem dL_law_359 : decode cL_law 359 = .ok (.iaload, 1) := by decide +kernel
theorem dL_law_360 : decode cL_law 360 = .ok (.invokevirtual 57, 3) := by decide +kernel
theorem dL_law_363 : decode cL_law 363 = .ok (.if_icmp .eq 5, 3) := by decide +kernel
theorem dL_law_366 : decode cL_law 366 = .ok (.iconst 0, 1) := by decide +kernel
theorem dL_law_367 : decode cL_law 367 = .ok (.ireturn, 1) := by decide +kernel
theorem dL_law_368 : decode cL_law 368 = .ok (.iinc 3 4, 3) := by decide +kernel
theorem dL_law_371 : decode cL_law 371 = .ok (.goto (-353), 3) := by decide +kernel
theorem dL_law_374 : decode cL_law 374 = .ok (.iconst 1, 1) := by decide +kernel
theorem dL_law_375 : decode cL_law 375 = .ok (.ireturn, 1) := by decide +kernel
abbrev vwCl : List vw_C := [(RX0, TX0, 9), (RX1, TX1, 19)]
end
section
abbrev cM_init : ByteArray := prog_3_method_1_code
def yM_init : MethodName := ⟨RX1, "<init>", "()V"⟩
abbrev cM_feed : ByteArray := prog_3_method_3_code
def yM_feed : MethodName := ⟨RX1, "feed", "(II)I"⟩
abbrev cM_room : ByteArray := prog_3_method_4_code
def yM_room : MethodName := ⟨RX1, "room", "()I"⟩
abbrev cM_add : ByteArray := prog_3_method_5_code
def yM_add : MethodName := ⟨RX1, "add", "(IZ)V"⟩
abbrev cM_write : ByteArray := prog_3_method_6_code
def yM_write : MethodName := ⟨RX1, "write", "()V"⟩
abbrev cM_put : ByteArray := prog_3_method_7_code
def yM_put : MethodName := ⟨RX1, "put", "(II)I"⟩
abbrev cM_close : ByteArray := prog_3_method_8_code
def yM_close : MethodName := ⟨RX1, "close", "()Z"⟩
abbrev cM_plain : ByteArray := prog_3_method_9_code
def yM_plain : MethodName := ⟨RX1, "plain", "(II)I"⟩
abbrev cM_sum : ByteArray := prog_3_method_10_code
def yM_sum : MethodName := ⟨RX1, "sum", "(I)I"⟩
abbrev cM_isWritten : ByteArray := prog_3_method_11_code
def yM_isWritten : MethodName := ⟨RX1, "isWritten", "(I)Z"⟩
abbrev cM_byteOf : ByteArray := prog_3_method_12_code
def yM_byteOf : MethodName := ⟨RX1, "byteOf", "(II)I"⟩
abbrev cM_spoil : ByteArray := prog_3_method_13_code
def yM_spoil : MethodName := ⟨RX1, "spoil", "(III)Z"⟩
abbrev cM_heal : ByteArray := prog_3_method_14_code
def yM_heal : MethodName := ⟨RX1, "heal", "(I)Z"⟩
abbrev cM_isGood : ByteArray := prog_3_method_15_code
def yM_isGood : MethodName := ⟨RX1, "isGood", "(I)Z"⟩
abbrev cM_good : ByteArray := prog_3_method_16_code
def yM_good : MethodName := ⟨RX1, "good", "(I)Z"⟩
abbrev cM_isRead : ByteArray := prog_3_method_17_code
def yM_isRead : MethodName := ⟨RX1, "isRead", "(I)Z"⟩
abbrev cM_read : ByteArray := prog_3_method_18_code
def yM_read : MethodName := ⟨RX1, "read", "(II)I"⟩
abbrev cM_verify : ByteArray := prog_3_method_19_code
def yM_verify : MethodName := ⟨RX1, "verify", "(I)I"⟩
abbrev cM_count : ByteArray := prog_3_method_20_code
def yM_count : MethodName := ⟨RX1, "count", "(I)I"⟩
def wsM_init : List Cond := .code yM_init cM_init 1 none :: ([.arrayClass .int, .fieldLink RX1 7 "BlockTapeModel" "tape" "[I", .fieldLink RX1 13 "BlockTapeModel" "stream" "[I", .fieldLink RX1 16 "BlockTapeModel" "index" "[I", .fieldLink RX1 19 "BlockTapeModel" "length" "[I", .fieldLink RX1 22 "BlockTapeModel" "begin" "[I", .fieldLink RX1 25 "BlockTapeModel" "fromBlock" "[I", .fieldLink RX1 28 "BlockTapeModel" "toBlock" "[I", .fieldLink RX1 31 "BlockTapeModel" "bytes" "[I", .fieldLink RX1 34 "BlockTapeModel" "data" "[I", .fieldLink RX1 37 "BlockTapeModel" "uses" "[I", .fieldLink RX1 40 "BlockTapeModel" "first" "[I", .fieldLink RX1 43 "BlockTapeModel" "spoilt" "[I", .fieldLink RX1 46 "BlockTapeModel" "spoiltBy" "[I", .methodLink RX1 1 objectInit, .instanceMethod objectInit, .code objectInit ⟨#[0xb1]⟩ 1 none] ++ wsX10)
def wsM_feed : List Cond := .code yM_feed cM_feed 4 (some .int) :: ([.fieldLink RX1 49 "BlockTapeModel" "thrown" "I", .fieldLink RX1 53 "BlockTapeModel" "taped" "I", .fieldLink RX1 7 "BlockTapeModel" "tape" "[I"] ++ wsX10)
def wsM_room : List Cond := .code yM_room cM_room 1 (some .int) :: ([.fieldLink RX1 56 "BlockTapeModel" "written" "I", .fieldLink RX1 59 "BlockTapeModel" "used" "I"] ++ wsX10)
def wsM_add : List Cond := .code yM_add cM_add 3 none :: ([.fieldLink RX1 59 "BlockTapeModel" "used" "I", .fieldLink RX1 40 "BlockTapeModel" "first" "[I", .fieldLink RX1 56 "BlockTapeModel" "written" "I", .fieldLink RX1 43 "BlockTapeModel" "spoilt" "[I", .fieldLink RX1 34 "BlockTapeModel" "data" "[I", .methodLink RX1 62 yM_write, .instanceMethod yM_write, .selects RX1 yM_write yM_write, .initialized RX1, .code yM_write cM_write 1 none, .fieldLink RX1 37 "BlockTapeModel" "uses" "[I"] ++ wsX10)
def wsM_write : List Cond := .code yM_write cM_write 1 none :: ([.fieldLink RX1 37 "BlockTapeModel" "uses" "[I", .fieldLink RX1 56 "BlockTapeModel" "written" "I", .fieldLink RX1 59 "BlockTapeModel" "used" "I"] ++ wsX10)
def wsM_put_r1 : List Cond := [Cond.fieldLink RX1 49 "BlockTapeModel" "thrown" "I", Cond.constant RX1 65 (65535), Cond.fieldLink RX1 66 "BlockTapeModel" "records" "I", Cond.fieldLink RX1 53 "BlockTapeModel" "taped" "I", Cond.fieldLink RX1 13 "BlockTapeModel" "stream" "[I", Cond.fieldLink RX1 16 "BlockTapeModel" "index" "[I", Cond.fieldLink RX1 19 "BlockTapeModel" "length" "[I", Cond.fieldLink RX1 22 "BlockTapeModel" "begin" "[I", Cond.fieldLink RX1 73 "BlockTapeModel" "kept" "I", Cond.fieldLink RX1 25 "BlockTapeModel" "fromBlock" "[I", Cond.fieldLink RX1 56 "BlockTapeModel" "written" "I", Cond.fieldLink RX1 28 "BlockTapeModel" "toBlock" "[I", Cond.fieldLink RX1 31 "BlockTapeModel" "bytes" "[I", Cond.fieldLink RX1 7 "BlockTapeModel" "tape" "[I", Cond.methodLink RX1 69 yM_room, Cond.instanceMethod yM_room, Cond.selects RX1 yM_room yM_room, Cond.initialized RX1, Cond.code yM_room cM_room 1 (some .int), Cond.fieldLink RX1 59 "BlockTapeModel" "used" "I"]
def wsM_put_r2 : List Cond := [Cond.methodLink RX1 76 yM_add, Cond.instanceMethod yM_add, Cond.selects RX1 yM_add yM_add, Cond.code yM_add cM_add 3 none, Cond.fieldLink RX1 40 "BlockTapeModel" "first" "[I", Cond.fieldLink RX1 43 "BlockTapeModel" "spoilt" "[I", Cond.fieldLink RX1 34 "BlockTapeModel" "data" "[I", Cond.methodLink RX1 62 yM_write, Cond.instanceMethod yM_write, Cond.selects RX1 yM_write yM_write, Cond.code yM_write cM_write 1 none, Cond.fieldLink RX1 37 "BlockTapeModel" "uses" "[I"]
def wsM_put : List Cond := .code yM_put cM_put 5 (some .int) :: ((wsM_put_r1 ++ wsM_put_r2) ++ wsX10)
def wsM_close : List Cond := .code yM_close cM_close 2 (some .boolean) :: ([.fieldLink RX1 49 "BlockTapeModel" "thrown" "I", .fieldLink RX1 59 "BlockTapeModel" "used" "I", .fieldLink RX1 34 "BlockTapeModel" "data" "[I", .fieldLink RX1 56 "BlockTapeModel" "written" "I", .methodLink RX1 62 yM_write, .instanceMethod yM_write, .selects RX1 yM_write yM_write, .initialized RX1, .code yM_write cM_write 1 none, .fieldLink RX1 37 "BlockTapeModel" "uses" "[I"] ++ wsX10)
def wsM_plain : List Cond := .code yM_plain cM_plain 3 (some .int) :: ([.fieldLink RX1 37 "BlockTapeModel" "uses" "[I", .fieldLink RX1 40 "BlockTapeModel" "first" "[I", .fieldLink RX1 34 "BlockTapeModel" "data" "[I"] ++ wsX10)
def wsM_sum : List Cond := .code yM_sum cM_sum 5 (some .int) :: ([.constant RX1 84 (-306674912), .methodLink RX1 80 yM_plain, .instanceMethod yM_plain, .selects RX1 yM_plain yM_plain, .initialized RX1, .code yM_plain cM_plain 3 (some .int), .fieldLink RX1 37 "BlockTapeModel" "uses" "[I", .fieldLink RX1 40 "BlockTapeModel" "first" "[I", .fieldLink RX1 34 "BlockTapeModel" "data" "[I"] ++ wsX10)
def wsM_isWritten : List Cond := .code yM_isWritten cM_isWritten 2 (some .boolean) :: ([.fieldLink RX1 56 "BlockTapeModel" "written" "I"] ++ wsX10)
def wsM_byteOf_r1 : List Cond := [Cond.fieldLink RX1 49 "BlockTapeModel" "thrown" "I", Cond.fieldLink RX1 43 "BlockTapeModel" "spoilt" "[I", Cond.fieldLink RX1 46 "BlockTapeModel" "spoiltBy" "[I", Cond.methodLink RX1 85 yM_isWritten, Cond.instanceMethod yM_isWritten, Cond.selects RX1 yM_isWritten yM_isWritten, Cond.initialized RX1, Cond.code yM_isWritten cM_isWritten 2 (some .boolean), Cond.fieldLink RX1 56 "BlockTapeModel" "written" "I", Cond.methodLink RX1 89 yM_sum, Cond.instanceMethod yM_sum, Cond.selects RX1 yM_sum yM_sum, Cond.code yM_sum cM_sum 5 (some .int), Cond.constant RX1 84 (-306674912), Cond.methodLink RX1 80 yM_plain, Cond.instanceMethod yM_plain, Cond.selects RX1 yM_plain yM_plain, Cond.code yM_plain cM_plain 3 (some .int), Cond.fieldLink RX1 37 "BlockTapeModel" "uses" "[I", Cond.fieldLink RX1 40 "BlockTapeModel" "first" "[I"]
def wsM_byteOf_r2 : List Cond := [Cond.fieldLink RX1 34 "BlockTapeModel" "data" "[I"]
def wsM_byteOf : List Cond := .code yM_byteOf cM_byteOf 4 (some .int) :: ((wsM_byteOf_r1 ++ wsM_byteOf_r2) ++ wsX10)
def wsM_spoil : List Cond := .code yM_spoil cM_spoil 4 (some .boolean) :: ([.fieldLink RX1 49 "BlockTapeModel" "thrown" "I", .fieldLink RX1 43 "BlockTapeModel" "spoilt" "[I", .fieldLink RX1 46 "BlockTapeModel" "spoiltBy" "[I", .methodLink RX1 85 yM_isWritten, .instanceMethod yM_isWritten, .selects RX1 yM_isWritten yM_isWritten, .initialized RX1, .code yM_isWritten cM_isWritten 2 (some .boolean), .fieldLink RX1 56 "BlockTapeModel" "written" "I"] ++ wsX10)
def wsM_heal : List Cond := .code yM_heal cM_heal 2 (some .boolean) :: ([.fieldLink RX1 49 "BlockTapeModel" "thrown" "I", .fieldLink RX1 43 "BlockTapeModel" "spoilt" "[I", .methodLink RX1 85 yM_isWritten, .instanceMethod yM_isWritten, .selects RX1 yM_isWritten yM_isWritten, .initialized RX1, .code yM_isWritten cM_isWritten 2 (some .boolean), .fieldLink RX1 56 "BlockTapeModel" "written" "I"] ++ wsX10)
def wsM_isGood : List Cond := .code yM_isGood cM_isGood 2 (some .boolean) :: ([.fieldLink RX1 43 "BlockTapeModel" "spoilt" "[I", .methodLink RX1 85 yM_isWritten, .instanceMethod yM_isWritten, .selects RX1 yM_isWritten yM_isWritten, .initialized RX1, .code yM_isWritten cM_isWritten 2 (some .boolean), .fieldLink RX1 56 "BlockTapeModel" "written" "I"] ++ wsX10)
def wsM_good : List Cond := .code yM_good cM_good 2 (some .boolean) :: ([.fieldLink RX1 49 "BlockTapeModel" "thrown" "I", .methodLink RX1 93 yM_isGood, .instanceMethod yM_isGood, .selects RX1 yM_isGood yM_isGood, .initialized RX1, .code yM_isGood cM_isGood 2 (some .boolean), .fieldLink RX1 43 "BlockTapeModel" "spoilt" "[I", .methodLink RX1 85 yM_isWritten, .instanceMethod yM_isWritten, .selects RX1 yM_isWritten yM_isWritten, .code yM_isWritten cM_isWritten 2 (some .boolean), .fieldLink RX1 56 "BlockTapeModel" "written" "I"] ++ wsX10)
def wsM_isRead : List Cond := .code yM_isRead cM_isRead 3 (some .boolean) :: ([.fieldLink RX1 25 "BlockTapeModel" "fromBlock" "[I", .fieldLink RX1 28 "BlockTapeModel" "toBlock" "[I", .methodLink RX1 93 yM_isGood, .instanceMethod yM_isGood, .selects RX1 yM_isGood yM_isGood, .initialized RX1, .code yM_isGood cM_isGood 2 (some .boolean), .fieldLink RX1 43 "BlockTapeModel" "spoilt" "[I", .methodLink RX1 85 yM_isWritten, .instanceMethod yM_isWritten, .selects RX1 yM_isWritten yM_isWritten, .code yM_isWritten cM_isWritten 2 (some .boolean), .fieldLink RX1 56 "BlockTapeModel" "written" "I"] ++ wsX10)
def wsM_read_r1 : List Cond := [Cond.fieldLink RX1 49 "BlockTapeModel" "thrown" "I", Cond.fieldLink RX1 66 "BlockTapeModel" "records" "I", Cond.fieldLink RX1 13 "BlockTapeModel" "stream" "[I", Cond.fieldLink RX1 16 "BlockTapeModel" "index" "[I", Cond.fieldLink RX1 19 "BlockTapeModel" "length" "[I", Cond.fieldLink RX1 25 "BlockTapeModel" "fromBlock" "[I", Cond.fieldLink RX1 31 "BlockTapeModel" "bytes" "[I", Cond.fieldLink RX1 22 "BlockTapeModel" "begin" "[I", Cond.methodLink RX1 96 yM_isRead, Cond.instanceMethod yM_isRead, Cond.selects RX1 yM_isRead yM_isRead, Cond.initialized RX1, Cond.code yM_isRead cM_isRead 3 (some .boolean), Cond.fieldLink RX1 28 "BlockTapeModel" "toBlock" "[I", Cond.methodLink RX1 93 yM_isGood, Cond.instanceMethod yM_isGood, Cond.selects RX1 yM_isGood yM_isGood, Cond.code yM_isGood cM_isGood 2 (some .boolean), Cond.fieldLink RX1 43 "BlockTapeModel" "spoilt" "[I", Cond.methodLink RX1 85 yM_isWritten]
def wsM_read_r2 : List Cond := [Cond.instanceMethod yM_isWritten, Cond.selects RX1 yM_isWritten yM_isWritten, Cond.code yM_isWritten cM_isWritten 2 (some .boolean), Cond.fieldLink RX1 56 "BlockTapeModel" "written" "I"]
def wsM_read : List Cond := .code yM_read cM_read 5 (some .int) :: ((wsM_read_r1 ++ wsM_read_r2) ++ wsX10)
def wsM_verify : List Cond := .code yM_verify cM_verify 3 (some .int) :: ([.fieldLink RX1 49 "BlockTapeModel" "thrown" "I", .fieldLink RX1 56 "BlockTapeModel" "written" "I", .methodLink RX1 93 yM_isGood, .instanceMethod yM_isGood, .selects RX1 yM_isGood yM_isGood, .initialized RX1, .code yM_isGood cM_isGood 2 (some .boolean), .fieldLink RX1 43 "BlockTapeModel" "spoilt" "[I", .methodLink RX1 85 yM_isWritten, .instanceMethod yM_isWritten, .selects RX1 yM_isWritten yM_isWritten, .code yM_isWritten cM_isWritten 2 (some .boolean)] ++ wsX10)
def wsM_count_r1 : List Cond := [Cond.fieldLink RX1 49 "BlockTapeModel" "thrown" "I", Cond.fieldLink RX1 53 "BlockTapeModel" "taped" "I", Cond.fieldLink RX1 66 "BlockTapeModel" "records" "I", Cond.fieldLink RX1 56 "BlockTapeModel" "written" "I", Cond.fieldLink RX1 59 "BlockTapeModel" "used" "I", Cond.methodLink RX1 96 yM_isRead, Cond.instanceMethod yM_isRead, Cond.selects RX1 yM_isRead yM_isRead, Cond.initialized RX1, Cond.code yM_isRead cM_isRead 3 (some .boolean), Cond.fieldLink RX1 25 "BlockTapeModel" "fromBlock" "[I", Cond.fieldLink RX1 28 "BlockTapeModel" "toBlock" "[I", Cond.methodLink RX1 93 yM_isGood, Cond.instanceMethod yM_isGood, Cond.selects RX1 yM_isGood yM_isGood, Cond.code yM_isGood cM_isGood 2 (some .boolean), Cond.fieldLink RX1 43 "BlockTapeModel" "spoilt" "[I", Cond.methodLink RX1 85 yM_isWritten, Cond.instanceMethod yM_isWritten, Cond.selects RX1 yM_isWritten yM_isWritten]
def wsM_count_r2 : List Cond := [Cond.code yM_isWritten cM_isWritten 2 (some .boolean), Cond.methodLink RX1 69 yM_room, Cond.instanceMethod yM_room, Cond.selects RX1 yM_room yM_room, Cond.code yM_room cM_room 1 (some .int)]
def wsM_count : List Cond := .code yM_count cM_count 4 (some .int) :: ((wsM_count_r1 ++ wsM_count_r2) ++ wsX10)
set_option maxRecDepth 20000 in
theorem gM_add_M_write : GoodIn wsM_add (wsV RX1 62 RX1 yM_write wsM_write) := goodIn_app (goodIn_of _ (by decide +kernel)) (goodIn_r _ [10, 11, 3, 1, 12, 13, 14, 15, 16, 17, 18, 19, 20, 21, 22, 23, 24, 25, 26, 27, 28, 29, 30] (by decide +kernel) (by decide +kernel))
set_option maxRecDepth 20000 in
theorem gM_put_M_room : GoodIn wsM_put (wsV RX1 69 RX1 yM_room wsM_room) := goodIn_app (goodIn_of _ (by decide +kernel)) (goodIn_r _ [19, 11, 20, 33, 34, 35, 36, 37, 38, 39, 40, 41, 42, 43, 44, 45, 46, 47, 48, 49, 50, 51] (by decide +kernel) (by decide +kernel))
set_option maxRecDepth 20000 in
theorem gM_put_M_add : GoodIn wsM_put (wsV RX1 76 RX1 yM_add wsM_add) := goodIn_app (goodIn_of _ (by decide +kernel)) (goodIn_r _ [24, 20, 25, 11, 26, 27, 28, 29, 30, 18, 31, 32, 33, 34, 35, 36, 37, 38, 39, 40, 41, 42, 43, 44, 45, 46, 47, 48, 49, 50, 51] (by decide +kernel) (by decide +kernel))
set_option maxRecDepth 20000 in
theorem gM_close_M_write : GoodIn wsM_close (wsV RX1 62 RX1 yM_write wsM_write) := goodIn_app (goodIn_of _ (by decide +kernel)) (goodIn_r _ [9, 10, 4, 2, 11, 12, 13, 14, 15, 16, 17, 18, 19, 20, 21, 22, 23, 24, 25, 26, 27, 28, 29] (by decide +kernel) (by decide +kernel))
set_option maxRecDepth 20000 in
theorem gM_sum_M_plain : GoodIn wsM_sum (wsV RX1 80 RX1 yM_plain wsM_plain) := goodIn_app (goodIn_of _ (by decide +kernel)) (goodIn_r _ [6, 7, 8, 9, 10, 11, 12, 13, 14, 15, 16, 17, 18, 19, 20, 21, 22, 23, 24, 25, 26, 27, 28] (by decide +kernel) (by decide +kernel))
set_option maxRecDepth 20000 in
theorem gM_byteOf_M_isWritten : GoodIn wsM_byteOf (wsV RX1 85 RX1 yM_isWritten wsM_isWritten) := goodIn_app (goodIn_of _ (by decide +kernel)) (goodIn_r _ [8, 9, 22, 23, 24, 25, 26, 27, 28, 29, 30, 31, 32, 33, 34, 35, 36, 37, 38, 39, 40] (by decide +kernel) (by decide +kernel))
set_option maxRecDepth 20000 in
theorem gM_byteOf_M_sum : GoodIn wsM_byteOf (wsV RX1 89 RX1 yM_sum wsM_sum) := goodIn_app (goodIn_of _ (by decide +kernel)) (goodIn_r _ [13, 14, 15, 16, 17, 7, 18, 19, 20, 21, 22, 23, 24, 25, 26, 27, 28, 29, 30, 31, 32, 33, 34, 35, 36, 37, 38, 39, 40] (by decide +kernel) (by decide +kernel))
set_option maxRecDepth 20000 in
theorem gM_byteOf_M_plain : GoodIn wsM_byteOf (wsV RX1 80 RX1 yM_plain wsM_plain) := goodIn_app (goodIn_of _ (by decide +kernel)) (goodIn_r _ [18, 19, 20, 21, 22, 23, 24, 25, 26, 27, 28, 29, 30, 31, 32, 33, 34, 35, 36, 37, 38, 39, 40] (by decide +kernel) (by decide +kernel))
set_option maxRecDepth 20000 in
theorem gM_spoil_M_isWritten : GoodIn wsM_spoil (wsV RX1 85 RX1 yM_isWritten wsM_isWritten) := goodIn_app (goodIn_of _ (by decide +kernel)) (goodIn_r _ [8, 9, 10, 11, 12, 13, 14, 15, 16, 17, 18, 19, 20, 21, 22, 23, 24, 25, 26, 27, 28] (by decide +kernel) (by decide +kernel))
set_option maxRecDepth 20000 in
theorem gM_heal_M_isWritten : GoodIn wsM_heal (wsV RX1 85 RX1 yM_isWritten wsM_isWritten) := goodIn_app (goodIn_of _ (by decide +kernel)) (goodIn_r _ [7, 8, 9, 10, 11, 12, 13, 14, 15, 16, 17, 18, 19, 20, 21, 22, 23, 24, 25, 26, 27] (by decide +kernel) (by decide +kernel))
set_option maxRecDepth 20000 in
theorem gM_isGood_M_isWritten : GoodIn wsM_isGood (wsV RX1 85 RX1 yM_isWritten wsM_isWritten) := goodIn_app (goodIn_of _ (by decide +kernel)) (goodIn_r _ [6, 7, 8, 9, 10, 11, 12, 13, 14, 15, 16, 17, 18, 19, 20, 21, 22, 23, 24, 25, 26] (by decide +kernel) (by decide +kernel))
set_option maxRecDepth 20000 in
theorem gM_good_M_isGood : GoodIn wsM_good (wsV RX1 93 RX1 yM_isGood wsM_isGood) := goodIn_app (goodIn_of _ (by decide +kernel)) (goodIn_r _ [6, 7, 8, 9, 10, 5, 11, 12, 13, 14, 15, 16, 17, 18, 19, 20, 21, 22, 23, 24, 25, 26, 27, 28, 29, 30, 31] (by decide +kernel) (by decide +kernel))
set_option maxRecDepth 20000 in
theorem gM_isRead_M_isGood : GoodIn wsM_isRead (wsV RX1 93 RX1 yM_isGood wsM_isGood) := goodIn_app (goodIn_of _ (by decide +kernel)) (goodIn_r _ [7, 8, 9, 10, 11, 6, 12, 13, 14, 15, 16, 17, 18, 19, 20, 21, 22, 23, 24, 25, 26, 27, 28, 29, 30, 31, 32] (by decide +kernel) (by decide +kernel))
set_option maxRecDepth 20000 in
theorem gM_read_M_isRead : GoodIn wsM_read (wsV RX1 96 RX1 yM_isRead wsM_isRead) := goodIn_app (goodIn_of _ (by decide +kernel)) (goodIn_r _ [13, 6, 14, 15, 16, 17, 12, 18, 19, 20, 21, 22, 23, 24, 25, 26, 27, 28, 29, 30, 31, 32, 33, 34, 35, 36, 37, 38, 39, 40, 41, 42, 43] (by decide +kernel) (by decide +kernel))
set_option maxRecDepth 20000 in
theorem gM_verify_M_isGood : GoodIn wsM_verify (wsV RX1 93 RX1 yM_isGood wsM_isGood) := goodIn_app (goodIn_of _ (by decide +kernel)) (goodIn_r _ [7, 8, 9, 10, 11, 6, 12, 2, 13, 14, 15, 16, 17, 18, 19, 20, 21, 22, 23, 24, 25, 26, 27, 28, 29, 30, 31] (by decide +kernel) (by decide +kernel))
set_option maxRecDepth 20000 in
theorem gM_count_M_isRead : GoodIn wsM_count (wsV RX1 96 RX1 yM_isRead wsM_isRead) := goodIn_app (goodIn_of _ (by decide +kernel)) (goodIn_r _ [10, 11, 12, 13, 14, 15, 9, 16, 17, 18, 19, 20, 21, 4, 26, 27, 28, 29, 30, 31, 32, 33, 34, 35, 36, 37, 38, 39, 40, 41, 42, 43, 44] (by decide +kernel) (by decide +kernel))
set_option maxRecDepth 20000 in
theorem gM_count_M_isGood : GoodIn wsM_count (wsV RX1 93 RX1 yM_isGood wsM_isGood) := goodIn_app (goodIn_of _ (by decide +kernel)) (goodIn_r _ [16, 17, 18, 19, 20, 9, 21, 4, 26, 27, 28, 29, 30, 31, 32, 33, 34, 35, 36, 37, 38, 39, 40, 41, 42, 43, 44] (by decide +kernel) (by decide +kernel))
set_option maxRecDepth 20000 in
theorem gM_count_M_room : GoodIn wsM_count (wsV RX1 69 RX1 yM_room wsM_room) := goodIn_app (goodIn_of _ (by decide +kernel)) (goodIn_r _ [25, 4, 5, 26, 27, 28, 29, 30, 31, 32, 33, 34, 35, 36, 37, 38, 39, 40, 41, 42, 43, 44] (by decide +kernel) (by decide +kernel))
theorem dM_init_0 : decode cM_init 0 = .ok (.aload_n 0, 1) := by decide +kernel
theorem dM_init_1 : decode cM_init 1 = .ok (.invokespecial 1, 3) := by decide +kernel
theorem dM_init_4 : decode cM_init 4 = .ok (.aload_n 0, 1) := by decide +kernel
theorem dM_init_5 : decode cM_init 5 = .ok (.sipush 300, 3) := by decide +kernel
theorem dM_init_8 : decode cM_init 8 = .ok (.newarray .int, 2) := by decide +kernel
theorem dM_init_10 : decode cM_init 10 = .ok (.putfield 7, 3) := by decide +kernel
theorem dM_init_13 : decode cM_init 13 = .ok (.aload_n 0, 1) := by decide +kernel
theorem dM_init_14 : decode cM_init 14 = .ok (.sipush 200, 3) := by decide +kernel
theorem dM_init_17 : decode cM_init 17 = .ok (.newarray .int, 2) := by decide +kernel
theorem dM_init_19 : decode cM_init 19 = .ok (.putfield 13, 3) := by decide +kernel
theorem dM_init_22 : decode cM_init 22 = .ok (.aload_n 0, 1) := by decide +kernel
theorem dM_init_23 : decode cM_init 23 = .ok (.sipush 200, 3) := by decide +kernel
theorem dM_init_26 : decode cM_init 26 = .ok (.newarray .int, 2) := by decide +kernel
theorem dM_init_28 : decode cM_init 28 = .ok (.putfield 16, 3) := by decide +kernel
theorem dM_init_31 : decode cM_init 31 = .ok (.aload_n 0, 1) := by decide +kernel
theorem dM_init_32 : decode cM_init 32 = .ok (.sipush 200, 3) := by decide +kernel
theorem dM_init_35 : decode cM_init 35 = .ok (.newarray .int, 2) := by decide +kernel
theorem dM_init_37 : decode cM_init 37 = .ok (.putfield 19, 3) := by decide +kernel
theorem dM_init_40 : decode cM_init 40 = .ok (.aload_n 0, 1) := by decide +kernel
theorem dM_init_41 : decode cM_init 41 = .ok (.sipush 200, 3) := by decide +kernel
theorem dM_init_44 : decode cM_init 44 = .ok (.newarray .int, 2) := by decide +kernel
theorem dM_init_46 : decode cM_init 46 = .ok (.putfield 22, 3) := by decide +kernel
theorem dM_init_49 : decode cM_init 49 = .ok (.aload_n 0, 1) := by decide +kernel
theorem dM_init_50 : decode cM_init 50 = .ok (.sipush 200, 3) := by decide +kernel
theorem dM_init_53 : decode cM_init 53 = .ok (.newarray .int, 2) := by decide +kernel
theorem dM_init_55 : decode cM_init 55 = .ok (.putfield 25, 3) := by decide +kernel
theorem dM_init_58 : decode cM_init 58 = .ok (.aload_n 0, 1) := by decide +kernel
theorem dM_init_59 : decode cM_init 59 = .ok (.sipush 200, 3) := by decide +kernel
theorem dM_init_62 : decode cM_init 62 = .ok (.newarray .int, 2) := by decide +kernel
theorem dM_init_64 : decode cM_init 64 = .ok (.putfield 28, 3) := by decide +kernel
theorem dM_init_67 : decode cM_init 67 = .ok (.aload_n 0, 1) := by decide +kernel
theorem dM_init_68 : decode cM_init 68 = .ok (.sipush 4480, 3) := by decide +kernel
theorem dM_init_71 : decode cM_init 71 = .ok (.newarray .int, 2) := by decide +kernel
theorem dM_init_73 : decode cM_init 73 = .ok (.putfield 31, 3) := by decide +kernel
theorem dM_init_76 : decode cM_init 76 = .ok (.aload_n 0, 1) := by decide +kernel
theorem dM_init_77 : decode cM_init 77 = .ok (.sipush 4480, 3) := by decide +kernel
theorem dM_init_80 : decode cM_init 80 = .ok (.newarray .int, 2) := by decide +kernel
theorem dM_init_82 : decode cM_init 82 = .ok (.putfield 34, 3) := by decide +kernel
theorem dM_init_85 : decode cM_init 85 = .ok (.aload_n 0, 1) := by decide +kernel
theorem dM_init_86 : decode cM_init 86 = .ok (.bipush 80, 2) := by decide +kernel
theorem dM_init_88 : decode cM_init 88 = .ok (.newarray .int, 2) := by decide +kernel
theorem dM_init_90 : decode cM_init 90 = .ok (.putfield 37, 3) := by decide +kernel
theorem dM_init_93 : decode cM_init 93 = .ok (.aload_n 0, 1) := by decide +kernel
theorem dM_init_94 : decode cM_init 94 = .ok (.bipush 80, 2) := by decide +kernel
theorem dM_init_96 : decode cM_init 96 = .ok (.newarray .int, 2) := by decide +kernel
theorem dM_init_98 : decode cM_init 98 = .ok (.putfield 40, 3) := by decide +kernel
theorem dM_init_101 : decode cM_init 101 = .ok (.aload_n 0, 1) := by decide +kernel
theorem dM_init_102 : decode cM_init 102 = .ok (.bipush 80, 2) := by decide +kernel
theorem dM_init_104 : decode cM_init 104 = .ok (.newarray .int, 2) := by decide +kernel
theorem dM_init_106 : decode cM_init 106 = .ok (.putfield 43, 3) := by decide +kernel
theorem dM_init_109 : decode cM_init 109 = .ok (.aload_n 0, 1) := by decide +kernel
theorem dM_init_110 : decode cM_init 110 = .ok (.bipush 80, 2) := by decide +kernel
theorem dM_init_112 : decode cM_init 112 = .ok (.newarray .int, 2) := by decide +kernel
theorem dM_init_114 : decode cM_init 114 = .ok (.putfield 46, 3) := by decide +kernel
theorem dM_init_117 : decode cM_init 117 = .ok (.return_, 1) := by decide +kernel
theorem dM_feed_0 : decode cM_feed 0 = .ok (.aload_n 0, 1) := by decide +kernel
theorem dM_feed_1 : decode cM_feed 1 = .ok (.iconst 0, 1) := by decide +kernel
theorem dM_feed_2 : decode cM_feed 2 = .ok (.putfield 49, 3) := by decide +kernel
theorem dM_feed_5 : decode cM_feed 5 = .ok (.iload_n 2, 1) := by decide +kernel
theorem dM_feed_6 : decode cM_feed 6 = .ok (.iconst 1, 1) := by decide +kernel
theorem dM_feed_7 : decode cM_feed 7 = .ok (.if_icmp .lt 20, 3) := by decide +kernel
theorem dM_feed_10 : decode cM_feed 10 = .ok (.iload_n 2, 1) := by decide +kernel
theorem dM_feed_11 : decode cM_feed 11 = .ok (.iconst 4, 1) := by decide +kernel
theorem dM_feed_12 : decode cM_feed 12 = .ok (.if_icmp .gt 15, 3) := by decide +kernel
theorem dM_feed_15 : decode cM_feed 15 = .ok (.aload_n 0, 1) := by decide +kernel
theorem dM_feed_16 : decode cM_feed 16 = .ok (.getfield 53, 3) := by decide +kernel
theorem dM_feed_19 : decode cM_feed 19 = .ok (.iload_n 2, 1) := by decide +kernel
theorem dM_feed_20 : decode cM_feed 20 = .ok (.iadd, 1) := by decide +kernel
theorem dM_feed_21 : decode cM_feed 21 = .ok (.sipush 300, 3) := by decide +kernel
theorem dM_feed_24 : decode cM_feed 24 = .ok (.if_icmp .le 5, 3) := by decide +kernel
theorem dM_feed_27 : decode cM_feed 27 = .ok (.iconst (-1), 1) := by decide +kernel
theorem dM_feed_28 : decode cM_feed 28 = .ok (.ireturn, 1) := by decide +kernel
theorem dM_feed_29 : decode cM_feed 29 = .ok (.iconst 0, 1) := by decide +kernel
theorem dM_feed_30 : decode cM_feed 30 = .ok (.istore_n 3, 1) := by decide +kernel
theorem dM_feed_31 : decode cM_feed 31 = .ok (.iload_n 3, 1) := by decide +kernel
theorem dM_feed_32 : decode cM_feed 32 = .ok (.iload_n 2, 1) := by decide +kernel
theorem dM_feed_33 : decode cM_feed 33 = .ok (.if_icmp .ge 41, 3) := by decide +kernel
theorem dM_feed_36 : decode cM_feed 36 = .ok (.aload_n 0, 1) := by decide +kernel
theorem dM_feed_37 : decode cM_feed 37 = .ok (.getfield 7, 3) := by decide +kernel
theorem dM_feed_40 : decode cM_feed 40 = .ok (.aload_n 0, 1) := by decide +kernel
theorem dM_feed_41 : decode cM_feed 41 = .ok (.getfield 53, 3) := by decide +kernel
theorem dM_feed_44 : decode cM_feed 44 = .ok (.iload_n 1, 1) := by decide +kernel
theorem dM_feed_45 : decode cM_feed 45 = .ok (.bipush 24, 2) := by decide +kernel
theorem dM_feed_47 : decode cM_feed 47 = .ok (.bipush 8, 2) := by decide +kernel
theorem dM_feed_49 : decode cM_feed 49 = .ok (.iload_n 3, 1) := by decide +kernel
theorem dM_feed_50 : decode cM_feed 50 = .ok (.imul, 1) := by decide +kernel
theorem dM_feed_51 : decode cM_feed 51 = .ok (.isub, 1) := by decide +kernel
theorem dM_feed_52 : decode cM_feed 52 = .ok (.ishr, 1) := by decide +kernel
theorem dM_feed_53 : decode cM_feed 53 = .ok (.sipush 255, 3) := by decide +kernel
theorem dM_feed_56 : decode cM_feed 56 = .ok (.iand, 1) := by decide +kernel
theorem dM_feed_57 : decode cM_feed 57 = .ok (.iastore, 1) := by decide +kernel
theorem dM_feed_58 : decode cM_feed 58 = .ok (.aload_n 0, 1) := by decide +kernel
theorem dM_feed_59 : decode cM_feed 59 = .ok (.dup, 1) := by decide +kernel
theorem dM_feed_60 : decode cM_feed 60 = .ok (.getfield 53, 3) := by decide +kernel
theorem dM_feed_63 : decode cM_feed 63 = .ok (.iconst 1, 1) := by decide +kernel
theorem dM_feed_64 : decode cM_feed 64 = .ok (.iadd, 1) := by decide +kernel
theorem dM_feed_65 : decode cM_feed 65 = .ok (.putfield 53, 3) := by decide +kernel
theorem dM_feed_68 : decode cM_feed 68 = .ok (.iinc 3 1, 3) := by decide +kernel
theorem dM_feed_71 : decode cM_feed 71 = .ok (.goto (-40), 3) := by decide +kernel
theorem dM_feed_74 : decode cM_feed 74 = .ok (.aload_n 0, 1) := by decide +kernel
theorem dM_feed_75 : decode cM_feed 75 = .ok (.getfield 53, 3) := by decide +kernel
theorem dM_feed_78 : decode cM_feed 78 = .ok (.ireturn, 1) := by decide +kernel
theorem dM_room_0 : decode cM_room 0 = .ok (.bipush 56, 2) := by decide +kernel
theorem dM_room_2 : decode cM_room 2 = .ok (.bipush 80, 2) := by decide +kernel
theorem dM_room_4 : decode cM_room 4 = .ok (.aload_n 0, 1) := by decide +kernel
theorem dM_room_5 : decode cM_room 5 = .ok (.getfield 56, 3) := by decide +kernel
theorem dM_room_8 : decode cM_room 8 = .ok (.isub, 1) := by decide +kernel
theorem dM_room_9 : decode cM_room 9 = .ok (.imul, 1) := by decide +kernel
theorem dM_room_10 : decode cM_room 10 = .ok (.aload_n 0, 1) := by decide +kernel
theorem dM_room_11 : decode cM_room 11 = .ok (.getfield 59, 3) := by decide +kernel
theorem dM_room_14 : decode cM_room 14 = .ok (.isub, 1) := by decide +kernel
theorem dM_room_15 : decode cM_room 15 = .ok (.ireturn, 1) := by decide +kernel
theorem dM_add_0 : decode cM_add 0 = .ok (.aload_n 0, 1) := by decide +kernel
theorem dM_add_1 : decode cM_add 1 = .ok (.getfield 59, 3) := by decide +kernel
theorem dM_add_4 : decode cM_add 4 = .ok (.ifCond .ne 25, 3) := by decide +kernel
theorem dM_add_7 : decode cM_add 7 = .ok (.aload_n 0, 1) := by decide +kernel
theorem dM_add_8 : decode cM_add 8 = .ok (.getfield 40, 3) := by decide +kernel
theorem dM_add_11 : decode cM_add 11 = .ok (.aload_n 0, 1) := by decide +kernel
theorem dM_add_12 : decode cM_add 12 = .ok (.getfield 56, 3) := by decide +kernel
theorem dM_add_15 : decode cM_add 15 = .ok (.sipush 255, 3) := by decide +kernel
theorem dM_add_18 : decode cM_add 18 = .ok (.iastore, 1) := by decide +kernel
theorem dM_add_19 : decode cM_add 19 = .ok (.aload_n 0, 1) := by decide +kernel
theorem dM_add_20 : decode cM_add 20 = .ok (.getfield 43, 3) := by decide +kernel
theorem dM_add_23 : decode cM_add 23 = .ok (.aload_n 0, 1) := by decide +kernel
theorem dM_add_24 : decode cM_add 24 = .ok (.getfield 56, 3) := by decide +kernel
theorem dM_add_27 : decode cM_add 27 = .ok (.iconst (-1), 1) := by decide +kernel
theorem dM_add_28 : decode cM_add 28 = .ok (.iastore, 1) := by decide +kernel
theorem dM_add_29 : decode cM_add 29 = .ok (.iload_n 2, 1) := by decide +kernel
theorem dM_add_30 : decode cM_add 30 = .ok (.ifCond .eq 31, 3) := by decide +kernel
theorem dM_add_33 : decode cM_add 33 = .ok (.aload_n 0, 1) := by decide +kernel
theorem dM_add_34 : decode cM_add 34 = .ok (.getfield 40, 3) := by decide +kernel
theorem dM_add_37 : decode cM_add 37 = .ok (.aload_n 0, 1) := by decide +kernel
theorem dM_add_38 : decode cM_add 38 = .ok (.getfield 56, 3) := by decide +kernel
theorem dM_add_41 : decode cM_add 41 = .ok (.iaload, 1) := by decide +kernel
theorem dM_add_42 : decode cM_add 42 = .ok (.sipush 255, 3) := by decide +kernel
theorem dM_add_45 : decode cM_add 45 = .ok (.if_icmp .ne 16, 3) := by decide +kernel
theorem dM_add_48 : decode cM_add 48 = .ok (.aload_n 0, 1) := by decide +kernel
theorem dM_add_49 : decode cM_add 49 = .ok (.getfield 40, 3) := by decide +kernel
theorem dM_add_52 : decode cM_add 52 = .ok (.aload_n 0, 1) := by decide +kernel
theorem dM_add_53 : decode cM_add 53 = .ok (.getfield 56, 3) := by decide +kernel
theorem dM_add_56 : decode cM_add 56 = .ok (.aload_n 0, 1) := by decide +kernel
theorem dM_add_57 : decode cM_add 57 = .ok (.getfield 59, 3) := by decide +kernel
theorem dM_add_60 : decode cM_add 60 = .ok (.iastore, 1) := by decide +kernel
theorem dM_add_61 : decode cM_add 61 = .ok (.aload_n 0, 1) := by decide +kernel
theorem dM_add_62 : decode cM_add 62 = .ok (.getfield 34, 3) := by decide +kernel
theorem dM_add_65 : decode cM_add 65 = .ok (.bipush 56, 2) := by decide +kernel
theorem dM_add_67 : decode cM_add 67 = .ok (.aload_n 0, 1) := by decide +kernel
theorem dM_add_68 : decode cM_add 68 = .ok (.getfield 56, 3) := by decide +kernel
theorem dM_add_71 : decode cM_add 71 = .ok (.imul, 1) := by decide +kernel
theorem dM_add_72 : decode cM_add 72 = .ok (.aload_n 0, 1) := by decide +kernel
theorem dM_add_73 : decode cM_add 73 = .ok (.getfield 59, 3) := by decide +kernel
theorem dM_add_76 : decode cM_add 76 = .ok (.iadd, 1) := by decide +kernel
theorem dM_add_77 : decode cM_add 77 = .ok (.iload_n 1, 1) := by decide +kernel
theorem dM_add_78 : decode cM_add 78 = .ok (.sipush 255, 3) := by decide +kernel
theorem dM_add_81 : decode cM_add 81 = .ok (.iand, 1) := by decide +kernel
theorem dM_add_82 : decode cM_add 82 = .ok (.iastore, 1) := by decide +kernel
theorem dM_add_83 : decode cM_add 83 = .ok (.aload_n 0, 1) := by decide +kernel
theorem dM_add_84 : decode cM_add 84 = .ok (.dup, 1) := by decide +kernel
theorem dM_add_85 : decode cM_add 85 = .ok (.getfield 59, 3) := by decide +kernel
theorem dM_add_88 : decode cM_add 88 = .ok (.iconst 1, 1) := by decide +kernel
theorem dM_add_89 : decode cM_add 89 = .ok (.iadd, 1) := by decide +kernel
theorem dM_add_90 : decode cM_add 90 = .ok (.putfield 59, 3) := by decide +kernel
theorem dM_add_93 : decode cM_add 93 = .ok (.aload_n 0, 1) := by decide +kernel
theorem dM_add_94 : decode cM_add 94 = .ok (.getfield 59, 3) := by decide +kernel
theorem dM_add_97 : decode cM_add 97 = .ok (.bipush 56, 2) := by decide +kernel
theorem dM_add_99 : decode cM_add 99 = .ok (.if_icmp .ne 7, 3) := by decide +kernel
theorem dM_add_102 : decode cM_add 102 = .ok (.aload_n 0, 1) := by decide +kernel
theorem dM_add_103 : decode cM_add 103 = .ok (.invokevirtual 62, 3) := by decide +kernel
theorem dM_add_106 : decode cM_add 106 = .ok (.return_, 1) := by decide +kernel
theorem dM_write_0 : decode cM_write 0 = .ok (.aload_n 0, 1) := by decide +kernel
theorem dM_write_1 : decode cM_write 1 = .ok (.getfield 37, 3) := by decide +kernel
theorem dM_write_4 : decode cM_write 4 = .ok (.aload_n 0, 1) := by decide +kernel
theorem dM_write_5 : decode cM_write 5 = .ok (.getfield 56, 3) := by decide +kernel
theorem dM_write_8 : decode cM_write 8 = .ok (.aload_n 0, 1) := by decide +kernel
theorem dM_write_9 : decode cM_write 9 = .ok (.getfield 59, 3) := by decide +kernel
theorem dM_write_12 : decode cM_write 12 = .ok (.iastore, 1) := by decide +kernel
theorem dM_write_13 : decode cM_write 13 = .ok (.aload_n 0, 1) := by decide +kernel
theorem dM_write_14 : decode cM_write 14 = .ok (.dup, 1) := by decide +kernel
theorem dM_write_15 : decode cM_write 15 = .ok (.getfield 56, 3) := by decide +kernel
theorem dM_write_18 : decode cM_write 18 = .ok (.iconst 1, 1) := by decide +kernel
theorem dM_write_19 : decode cM_write 19 = .ok (.iadd, 1) := by decide +kernel
theorem dM_write_20 : decode cM_write 20 = .ok (.putfield 56, 3) := by decide +kernel
theorem dM_write_23 : decode cM_write 23 = .ok (.aload_n 0, 1) := by decide +kernel
theorem dM_write_24 : decode cM_write 24 = .ok (.iconst 0, 1) := by decide +kernel
theorem dM_write_25 : decode cM_write 25 = .ok (.putfield 59, 3) := by decide +kernel
theorem dM_write_28 : decode cM_write 28 = .ok (.return_, 1) := by decide +kernel
theorem dM_put_0 : decode cM_put 0 = .ok (.aload_n 0, 1) := by decide +kernel
theorem dM_put_1 : decode cM_put 1 = .ok (.iconst 0, 1) := by decide +kernel
theorem dM_put_2 : decode cM_put 2 = .ok (.putfield 49, 3) := by decide +kernel
theorem dM_put_5 : decode cM_put 5 = .ok (.iload_n 1, 1) := by decide +kernel
theorem dM_put_6 : decode cM_put 6 = .ok (.ifCond .lt 44, 3) := by decide +kernel
theorem dM_put_9 : decode cM_put 9 = .ok (.iload_n 1, 1) := by decide +kernel
theorem dM_put_10 : decode cM_put 10 = .ok (.sipush 255, 3) := by decide +kernel
theorem dM_put_13 : decode cM_put 13 = .ok (.if_icmp .gt 37, 3) := by decide +kernel
theorem dM_put_16 : decode cM_put 16 = .ok (.iload_n 2, 1) := by decide +kernel
theorem dM_put_17 : decode cM_put 17 = .ok (.ifCond .lt 33, 3) := by decide +kernel
theorem dM_put_20 : decode cM_put 20 = .ok (.iload_n 2, 1) := by decide +kernel
theorem dM_put_21 : decode cM_put 21 = .ok (.ldc 65, 2) := by decide +kernel
theorem dM_put_23 : decode cM_put 23 = .ok (.if_icmp .gt 27, 3) := by decide +kernel
theorem dM_put_26 : decode cM_put 26 = .ok (.aload_n 0, 1) := by decide +kernel
theorem dM_put_27 : decode cM_put 27 = .ok (.getfield 66, 3) := by decide +kernel
theorem dM_put_30 : decode cM_put 30 = .ok (.sipush 200, 3) := by decide +kernel
theorem dM_put_33 : decode cM_put 33 = .ok (.if_icmp .eq 17, 3) := by decide +kernel
theorem dM_put_36 : decode cM_put 36 = .ok (.aload_n 0, 1) := by decide +kernel
theorem dM_put_37 : decode cM_put 37 = .ok (.invokevirtual 69, 3) := by decide +kernel
theorem dM_put_40 : decode cM_put 40 = .ok (.bipush 6, 2) := by decide +kernel
theorem dM_put_42 : decode cM_put 42 = .ok (.aload_n 0, 1) := by decide +kernel
theorem dM_put_43 : decode cM_put 43 = .ok (.getfield 53, 3) := by decide +kernel
theorem dM_put_46 : decode cM_put 46 = .ok (.iadd, 1) := by decide +kernel
theorem dM_put_47 : decode cM_put 47 = .ok (.if_icmp .ge 5, 3) := by decide +kernel
theorem dM_put_50 : decode cM_put 50 = .ok (.iconst (-1), 1) := by decide +kernel
theorem dM_put_51 : decode cM_put 51 = .ok (.ireturn, 1) := by decide +kernel
theorem dM_put_52 : decode cM_put 52 = .ok (.aload_n 0, 1) := by decide +kernel
theorem dM_put_53 : decode cM_put 53 = .ok (.getfield 66, 3) := by decide +kernel
theorem dM_put_56 : decode cM_put 56 = .ok (.istore_n 3, 1) := by decide +kernel
theorem dM_put_57 : decode cM_put 57 = .ok (.aload_n 0, 1) := by decide +kernel
theorem dM_put_58 : decode cM_put 58 = .ok (.getfield 13, 3) := by decide +kernel
theorem dM_put_61 : decode cM_put 61 = .ok (.iload_n 3, 1) := by decide +kernel
theorem dM_put_62 : decode cM_put 62 = .ok (.iload_n 1, 1) := by decide +kernel
theorem dM_put_63 : decode cM_put 63 = .ok (.iastore, 1) := by decide +kernel
theorem dM_put_64 : decode cM_put 64 = .ok (.aload_n 0, 1) := by decide +kernel
theorem dM_put_65 : decode cM_put 65 = .ok (.getfield 16, 3) := by decide +kernel
theorem dM_put_68 : decode cM_put 68 = .ok (.iload_n 3, 1) := by decide +kernel
theorem dM_put_69 : decode cM_put 69 = .ok (.iload_n 2, 1) := by decide +kernel
theorem dM_put_70 : decode cM_put 70 = .ok (.iastore, 1) := by decide +kernel
theorem dM_put_71 : decode cM_put 71 = .ok (.aload_n 0, 1) := by decide +kernel
theorem dM_put_72 : decode cM_put 72 = .ok (.getfield 19, 3) := by decide +kernel
theorem dM_put_75 : decode cM_put 75 = .ok (.iload_n 3, 1) := by decide +kernel
theorem dM_put_76 : decode cM_put 76 = .ok (.aload_n 0, 1) := by decide +kernel
theorem dM_put_77 : decode cM_put 77 = .ok (.getfield 53, 3) := by decide +kernel
theorem dM_put_80 : decode cM_put 80 = .ok (.iastore, 1) := by decide +kernel
theorem dM_put_81 : decode cM_put 81 = .ok (.aload_n 0, 1) := by decide +kernel
theorem dM_put_82 : decode cM_put 82 = .ok (.getfield 22, 3) := by decide +kernel
theorem dM_put_85 : decode cM_put 85 = .ok (.iload_n 3, 1) := by decide +kernel
theorem dM_put_86 : decode cM_put 86 = .ok (.aload_n 0, 1) := by decide +kernel
theorem dM_put_87 : decode cM_put 87 = .ok (.getfield 73, 3) := by decide +kernel
theorem dM_put_90 : decode cM_put 90 = .ok (.iastore, 1) := by decide +kernel
theorem dM_put_91 : decode cM_put 91 = .ok (.aload_n 0, 1) := by decide +kernel
theorem dM_put_92 : decode cM_put 92 = .ok (.getfield 25, 3) := by decide +kernel
theorem dM_put_95 : decode cM_put 95 = .ok (.iload_n 3, 1) := by decide +kernel
theorem dM_put_96 : decode cM_put 96 = .ok (.aload_n 0, 1) := by decide +kernel
theorem dM_put_97 : decode cM_put 97 = .ok (.getfield 56, 3) := by decide +kernel
theorem dM_put_100 : decode cM_put 100 = .ok (.iastore, 1) := by decide +kernel
theorem dM_put_101 : decode cM_put 101 = .ok (.aload_n 0, 1) := by decide +kernel
theorem dM_put_102 : decode cM_put 102 = .ok (.iload_n 1, 1) := by decide +kernel
theorem dM_put_103 : decode cM_put 103 = .ok (.iconst 1, 1) := by decide +kernel
theorem dM_put_104 : decode cM_put 104 = .ok (.invokevirtual 76, 3) := by decide +kernel
theorem dM_put_107 : decode cM_put 107 = .ok (.aload_n 0, 1) := by decide +kernel
theorem dM_put_108 : decode cM_put 108 = .ok (.iload_n 2, 1) := by decide +kernel
theorem dM_put_109 : decode cM_put 109 = .ok (.bipush 8, 2) := by decide +kernel
theorem dM_put_111 : decode cM_put 111 = .ok (.ishr, 1) := by decide +kernel
theorem dM_put_112 : decode cM_put 112 = .ok (.iconst 0, 1) := by decide +kernel
theorem dM_put_113 : decode cM_put 113 = .ok (.invokevirtual 76, 3) := by decide +kernel
theorem dM_put_116 : decode cM_put 116 = .ok (.aload_n 0, 1) := by decide +kernel
theorem dM_put_117 : decode cM_put 117 = .ok (.iload_n 2, 1) := by decide +kernel
theorem dM_put_118 : decode cM_put 118 = .ok (.iconst 0, 1) := by decide +kernel
theorem dM_put_119 : decode cM_put 119 = .ok (.invokevirtual 76, 3) := by decide +kernel
theorem dM_put_122 : decode cM_put 122 = .ok (.aload_n 0, 1) := by decide +kernel
theorem dM_put_123 : decode cM_put 123 = .ok (.aload_n 0, 1) := by decide +kernel
theorem dM_put_124 : decode cM_put 124 = .ok (.getfield 53, 3) := by decide +kernel
theorem dM_put_127 : decode cM_put 127 = .ok (.bipush 8, 2) := by decide +kernel
theorem dM_put_129 : decode cM_put 129 = .ok (.ishr, 1) := by decide +kernel
theorem dM_put_130 : decode cM_put 130 = .ok (.iconst 0, 1) := by decide +kernel
theorem dM_put_131 : decode cM_put 131 = .ok (.invokevirtual 76, 3) := by decide +kernel
theorem dM_put_134 : decode cM_put 134 = .ok (.aload_n 0, 1) := by decide +kernel
theorem dM_put_135 : decode cM_put 135 = .ok (.aload_n 0, 1) := by decide +kernel
theorem dM_put_136 : decode cM_put 136 = .ok (.getfield 53, 3) := by decide +kernel
theorem dM_put_139 : decode cM_put 139 = .ok (.iconst 0, 1) := by decide +kernel
theorem dM_put_140 : decode cM_put 140 = .ok (.invokevirtual 76, 3) := by decide +kernel
theorem dM_put_143 : decode cM_put 143 = .ok (.aload_n 0, 1) := by decide +kernel
theorem dM_put_144 : decode cM_put 144 = .ok (.getfield 28, 3) := by decide +kernel
theorem dM_put_147 : decode cM_put 147 = .ok (.iload_n 3, 1) := by decide +kernel
theorem dM_put_148 : decode cM_put 148 = .ok (.aload_n 0, 1) := by decide +kernel
theorem dM_put_149 : decode cM_put 149 = .ok (.getfield 56, 3) := by decide +kernel
theorem dM_put_152 : decode cM_put 152 = .ok (.iastore, 1) := by decide +kernel
theorem dM_put_153 : decode cM_put 153 = .ok (.aload_n 0, 1) := by decide +kernel
theorem dM_put_154 : decode cM_put 154 = .ok (.bipush 90, 2) := by decide +kernel
theorem dM_put_156 : decode cM_put 156 = .ok (.iconst 0, 1) := by decide +kernel
theorem dM_put_157 : decode cM_put 157 = .ok (.invokevirtual 76, 3) := by decide +kernel
theorem dM_put_160 : decode cM_put 160 = .ok (.iconst 0, 1) := by decide +kernel
theorem dM_put_161 : decode cM_put 161 = .ok (.istore 4, 2) := by decide +kernel
theorem dM_put_163 : decode cM_put 163 = .ok (.iload 4, 2) := by decide +kernel
theorem dM_put_165 : decode cM_put 165 = .ok (.aload_n 0, 1) := by decide +kernel
theorem dM_put_166 : decode cM_put 166 = .ok (.getfield 53, 3) := by decide +kernel
theorem dM_put_169 : decode cM_put 169 = .ok (.if_icmp .ge 57, 3) := by decide +kernel
theorem dM_put_172 : decode cM_put 172 = .ok (.aload_n 0, 1) := by decide +kernel
theorem dM_put_173 : decode cM_put 173 = .ok (.getfield 31, 3) := by decide +kernel
theorem dM_put_176 : decode cM_put 176 = .ok (.aload_n 0, 1) := by decide +kernel
theorem dM_put_177 : decode cM_put 177 = .ok (.getfield 73, 3) := by decide +kernel
theorem dM_put_180 : decode cM_put 180 = .ok (.aload_n 0, 1) := by decide +kernel
theorem dM_put_181 : decode cM_put 181 = .ok (.getfield 7, 3) := by decide +kernel
theorem dM_put_184 : decode cM_put 184 = .ok (.iload 4, 2) := by decide +kernel
theorem dM_put_186 : decode cM_put 186 = .ok (.iaload, 1) := by decide +kernel
theorem dM_put_187 : decode cM_put 187 = .ok (.iastore, 1) := by decide +kernel
theorem dM_put_188 : decode cM_put 188 = .ok (.aload_n 0, 1) := by decide +kernel
theorem dM_put_189 : decode cM_put 189 = .ok (.dup, 1) := by decide +kernel
theorem dM_put_190 : decode cM_put 190 = .ok (.getfield 73, 3) := by decide +kernel
theorem dM_put_193 : decode cM_put 193 = .ok (.iconst 1, 1) := by decide +kernel
theorem dM_put_194 : decode cM_put 194 = .ok (.iadd, 1) := by decide +kernel
theorem dM_put_195 : decode cM_put 195 = .ok (.putfield 73, 3) := by decide +kernel
theorem dM_put_198 : decode cM_put 198 = .ok (.aload_n 0, 1) := by decide +kernel
theorem dM_put_199 : decode cM_put 199 = .ok (.getfield 28, 3) := by decide +kernel
theorem dM_put_202 : decode cM_put 202 = .ok (.iload_n 3, 1) := by decide +kernel
theorem dM_put_203 : decode cM_put 203 = .ok (.aload_n 0, 1) := by decide +kernel
theorem dM_put_204 : decode cM_put 204 = .ok (.getfield 56, 3) := by decide +kernel
theorem dM_put_207 : decode cM_put 207 = .ok (.iastore, 1) := by decide +kernel
theorem dM_put_208 : decode cM_put 208 = .ok (.aload_n 0, 1) := by decide +kernel
theorem dM_put_209 : decode cM_put 209 = .ok (.aload_n 0, 1) := by decide +kernel
theorem dM_put_210 : decode cM_put 210 = .ok (.getfield 7, 3) := by decide +kernel
theorem dM_put_213 : decode cM_put 213 = .ok (.iload 4, 2) := by decide +kernel
theorem dM_put_215 : decode cM_put 215 = .ok (.iaload, 1) := by decide +kernel
theorem dM_put_216 : decode cM_put 216 = .ok (.iconst 0, 1) := by decide +kernel
theorem dM_put_217 : decode cM_put 217 = .ok (.invokevirtual 76, 3) := by decide +kernel
theorem dM_put_220 : decode cM_put 220 = .ok (.iinc 4 1, 3) := by decide +kernel
theorem dM_put_223 : decode cM_put 223 = .ok (.goto (-60), 3) := by decide +kernel
theorem dM_put_226 : decode cM_put 226 = .ok (.aload_n 0, 1) := by decide +kernel
theorem dM_put_227 : decode cM_put 227 = .ok (.dup, 1) := by decide +kernel
theorem dM_put_228 : decode cM_put 228 = .ok (.getfield 66, 3) := by decide +kernel
theorem dM_put_231 : decode cM_put 231 = .ok (.iconst 1, 1) := by decide +kernel
theorem dM_put_232 : decode cM_put 232 = .ok (.iadd, 1) := by decide +kernel
theorem dM_put_233 : decode cM_put 233 = .ok (.putfield 66, 3) := by decide +kernel
theorem dM_put_236 : decode cM_put 236 = .ok (.aload_n 0, 1) := by decide +kernel
theorem dM_put_237 : decode cM_put 237 = .ok (.iconst 0, 1) := by decide +kernel
theorem dM_put_238 : decode cM_put 238 = .ok (.putfield 53, 3) := by decide +kernel
theorem dM_put_241 : decode cM_put 241 = .ok (.iload_n 3, 1) := by decide +kernel
theorem dM_put_242 : decode cM_put 242 = .ok (.ireturn, 1) := by decide +kernel
theorem dM_close_0 : decode cM_close 0 = .ok (.aload_n 0, 1) := by decide +kernel
theorem dM_close_1 : decode cM_close 1 = .ok (.iconst 0, 1) := by decide +kernel
theorem dM_close_2 : decode cM_close 2 = .ok (.putfield 49, 3) := by decide +kernel
theorem dM_close_5 : decode cM_close 5 = .ok (.aload_n 0, 1) := by decide +kernel
theorem dM_close_6 : decode cM_close 6 = .ok (.getfield 59, 3) := by decide +kernel
theorem dM_close_9 : decode cM_close 9 = .ok (.ifCond .ne 5, 3) := by decide +kernel
theorem dM_close_12 : decode cM_close 12 = .ok (.iconst 0, 1) := by decide +kernel
theorem dM_close_13 : decode cM_close 13 = .ok (.ireturn, 1) := by decide +kernel
theorem dM_close_14 : decode cM_close 14 = .ok (.aload_n 0, 1) := by decide +kernel
theorem dM_close_15 : decode cM_close 15 = .ok (.getfield 59, 3) := by decide +kernel
theorem dM_close_18 : decode cM_close 18 = .ok (.istore_n 1, 1) := by decide +kernel
theorem dM_close_19 : decode cM_close 19 = .ok (.iload_n 1, 1) := by decide +kernel
theorem dM_close_20 : decode cM_close 20 = .ok (.bipush 56, 2) := by decide +kernel
theorem dM_close_22 : decode cM_close 22 = .ok (.if_icmp .ge 24, 3) := by decide +kernel
theorem dM_close_25 : decode cM_close 25 = .ok (.aload_n 0, 1) := by decide +kernel
theorem dM_close_26 : decode cM_close 26 = .ok (.getfield 34, 3) := by decide +kernel
theorem dM_close_29 : decode cM_close 29 = .ok (.bipush 56, 2) := by decide +kernel
theorem dM_close_31 : decode cM_close 31 = .ok (.aload_n 0, 1) := by decide +kernel
theorem dM_close_32 : decode cM_close 32 = .ok (.getfield 56, 3) := by decide +kernel
theorem dM_close_35 : decode cM_close 35 = .ok (.imul, 1) := by decide +kernel
theorem dM_close_36 : decode cM_close 36 = .ok (.iload_n 1, 1) := by decide +kernel
theorem dM_close_37 : decode cM_close 37 = .ok (.iadd, 1) := by decide +kernel
theorem dM_close_38 : decode cM_close 38 = .ok (.iconst 0, 1) := by decide +kernel
theorem dM_close_39 : decode cM_close 39 = .ok (.iastore, 1) := by decide +kernel
theorem dM_close_40 : decode cM_close 40 = .ok (.iinc 1 1, 3) := by decide +kernel
theorem dM_close_43 : decode cM_close 43 = .ok (.goto (-24), 3) := by decide +kernel
theorem dM_close_46 : decode cM_close 46 = .ok (.aload_n 0, 1) := by decide +kernel
theorem dM_close_47 : decode cM_close 47 = .ok (.invokevirtual 62, 3) := by decide +kernel
theorem dM_close_50 : decode cM_close 50 = .ok (.iconst 1, 1) := by decide +kernel
theorem dM_close_51 : decode cM_close 51 = .ok (.ireturn, 1) := by decide +kernel
theorem dM_plain_0 : decode cM_plain 0 = .ok (.iload_n 2, 1) := by decide +kernel
theorem dM_plain_1 : decode cM_plain 1 = .ok (.iconst 2, 1) := by decide +kernel
theorem dM_plain_2 : decode cM_plain 2 = .ok (.if_icmp .ge 20, 3) := by decide +kernel
theorem dM_plain_5 : decode cM_plain 5 = .ok (.iload_n 2, 1) := by decide +kernel
theorem dM_plain_6 : decode cM_plain 6 = .ok (.ifCond .ne 10, 3) := by decide +kernel
theorem dM_plain_9 : decode cM_plain 9 = .ok (.iload_n 1, 1) := by decide +kernel
theorem dM_plain_10 : decode cM_plain 10 = .ok (.bipush 8, 2) := by decide +kernel
theorem dM_plain_12 : decode cM_plain 12 = .ok (.ishr, 1) := by decide +kernel
theorem dM_plain_13 : decode cM_plain 13 = .ok (.goto 8, 3) := by decide +kernel
theorem dM_plain_16 : decode cM_plain 16 = .ok (.iload_n 1, 1) := by decide +kernel
theorem dM_plain_17 : decode cM_plain 17 = .ok (.sipush 255, 3) := by decide +kernel
theorem dM_plain_20 : decode cM_plain 20 = .ok (.iand, 1) := by decide +kernel
theorem dM_plain_21 : decode cM_plain 21 = .ok (.ireturn, 1) := by decide +kernel
theorem dM_plain_22 : decode cM_plain 22 = .ok (.iload_n 2, 1) := by decide +kernel
theorem dM_plain_23 : decode cM_plain 23 = .ok (.iconst 4, 1) := by decide +kernel
theorem dM_plain_24 : decode cM_plain 24 = .ok (.if_icmp .ge 24, 3) := by decide +kernel
theorem dM_plain_27 : decode cM_plain 27 = .ok (.iload_n 2, 1) := by decide +kernel
theorem dM_plain_28 : decode cM_plain 28 = .ok (.iconst 2, 1) := by decide +kernel
theorem dM_plain_29 : decode cM_plain 29 = .ok (.if_icmp .ne 12, 3) := by decide +kernel
theorem dM_plain_32 : decode cM_plain 32 = .ok (.aload_n 0, 1) := by decide +kernel
theorem dM_plain_33 : decode cM_plain 33 = .ok (.getfield 37, 3) := by decide +kernel
theorem dM_plain_36 : decode cM_plain 36 = .ok (.iload_n 1, 1) := by decide +kernel
theorem dM_plain_37 : decode cM_plain 37 = .ok (.iaload, 1) := by decide +kernel
theorem dM_plain_38 : decode cM_plain 38 = .ok (.goto 9, 3) := by decide +kernel
theorem dM_plain_41 : decode cM_plain 41 = .ok (.aload_n 0, 1) := by decide +kernel
theorem dM_plain_42 : decode cM_plain 42 = .ok (.getfield 40, 3) := by decide +kernel
theorem dM_plain_45 : decode cM_plain 45 = .ok (.iload_n 1, 1) := by decide +kernel
theorem dM_plain_46 : decode cM_plain 46 = .ok (.iaload, 1) := by decide +kernel
theorem dM_plain_47 : decode cM_plain 47 = .ok (.ireturn, 1) := by decide +kernel
theorem dM_plain_48 : decode cM_plain 48 = .ok (.aload_n 0, 1) := by decide +kernel
theorem dM_plain_49 : decode cM_plain 49 = .ok (.getfield 34, 3) := by decide +kernel
theorem dM_plain_52 : decode cM_plain 52 = .ok (.bipush 56, 2) := by decide +kernel
theorem dM_plain_54 : decode cM_plain 54 = .ok (.iload_n 1, 1) := by decide +kernel
theorem dM_plain_55 : decode cM_plain 55 = .ok (.imul, 1) := by decide +kernel
theorem dM_plain_56 : decode cM_plain 56 = .ok (.iload_n 2, 1) := by decide +kernel
theorem dM_plain_57 : decode cM_plain 57 = .ok (.iadd, 1) := by decide +kernel
theorem dM_plain_58 : decode cM_plain 58 = .ok (.bipush 8, 2) := by decide +kernel
theorem dM_plain_60 : decode cM_plain 60 = .ok (.isub, 1) := by decide +kernel
theorem dM_plain_61 : decode cM_plain 61 = .ok (.iaload, 1) := by decide +kernel
theorem dM_plain_62 : decode cM_plain 62 = .ok (.ireturn, 1) := by decide +kernel
theorem dM_sum_0 : decode cM_sum 0 = .ok (.iconst (-1), 1) := by decide +kernel
theorem dM_sum_1 : decode cM_sum 1 = .ok (.istore_n 2, 1) := by decide +kernel
theorem dM_sum_2 : decode cM_sum 2 = .ok (.iconst 0, 1) := by decide +kernel
theorem dM_sum_3 : decode cM_sum 3 = .ok (.istore_n 3, 1) := by decide +kernel
theorem dM_sum_4 : decode cM_sum 4 = .ok (.iload_n 3, 1) := by decide +kernel
theorem dM_sum_5 : decode cM_sum 5 = .ok (.bipush 64, 2) := by decide +kernel
theorem dM_sum_7 : decode cM_sum 7 = .ok (.if_icmp .ge 68, 3) := by decide +kernel
theorem dM_sum_10 : decode cM_sum 10 = .ok (.iload_n 3, 1) := by decide +kernel
theorem dM_sum_11 : decode cM_sum 11 = .ok (.iconst 3, 1) := by decide +kernel
theorem dM_sum_12 : decode cM_sum 12 = .ok (.if_icmp .le 12, 3) := by decide +kernel
theorem dM_sum_15 : decode cM_sum 15 = .ok (.iload_n 3, 1) := by decide +kernel
theorem dM_sum_16 : decode cM_sum 16 = .ok (.bipush 8, 2) := by decide +kernel
theorem dM_sum_18 : decode cM_sum 18 = .ok (.if_icmp .ge 6, 3) := by decide +kernel
theorem dM_sum_21 : decode cM_sum 21 = .ok (.goto 48, 3) := by decide +kernel
theorem dM_sum_24 : decode cM_sum 24 = .ok (.iload_n 2, 1) := by decide +kernel
theorem dM_sum_25 : decode cM_sum 25 = .ok (.aload_n 0, 1) := by decide +kernel
theorem dM_sum_26 : decode cM_sum 26 = .ok (.iload_n 1, 1) := by decide +kernel
theorem dM_sum_27 : decode cM_sum 27 = .ok (.iload_n 3, 1) := by decide +kernel
theorem dM_sum_28 : decode cM_sum 28 = .ok (.invokevirtual 80, 3) := by decide +kernel
theorem dM_sum_31 : decode cM_sum 31 = .ok (.ixor, 1) := by decide +kernel
theorem dM_sum_32 : decode cM_sum 32 = .ok (.istore_n 2, 1) := by decide +kernel
theorem dM_sum_33 : decode cM_sum 33 = .ok (.iconst 0, 1) := by decide +kernel
theorem dM_sum_34 : decode cM_sum 34 = .ok (.istore 4, 2) := by decide +kernel
theorem dM_sum_36 : decode cM_sum 36 = .ok (.iload 4, 2) := by decide +kernel
theorem dM_sum_38 : decode cM_sum 38 = .ok (.bipush 8, 2) := by decide +kernel
theorem dM_sum_40 : decode cM_sum 40 = .ok (.if_icmp .ge 29, 3) := by decide +kernel
theorem dM_sum_43 : decode cM_sum 43 = .ok (.iload_n 2, 1) := by decide +kernel
theorem dM_sum_44 : decode cM_sum 44 = .ok (.iconst 1, 1) := by decide +kernel
theorem dM_sum_45 : decode cM_sum 45 = .ok (.iand, 1) := by decide +kernel
theorem dM_sum_46 : decode cM_sum 46 = .ok (.iconst 1, 1) := by decide +kernel
theorem dM_sum_47 : decode cM_sum 47 = .ok (.if_icmp .ne 12, 3) := by decide +kernel
theorem dM_sum_50 : decode cM_sum 50 = .ok (.iload_n 2, 1) := by decide +kernel
theorem dM_sum_51 : decode cM_sum 51 = .ok (.iconst 1, 1) := by decide +kernel
theorem dM_sum_52 : decode cM_sum 52 = .ok (.iushr, 1) := by decide +kernel
theorem dM_sum_53 : decode cM_sum 53 = .ok (.ldc 84, 2) := by decide +kernel
theorem dM_sum_55 : decode cM_sum 55 = .ok (.ixor, 1) := by decide +kernel
theorem dM_sum_56 : decode cM_sum 56 = .ok (.goto 6, 3) := by decide +kernel
theorem dM_sum_59 : decode cM_sum 59 = .ok (.iload_n 2, 1) := by decide +kernel
theorem dM_sum_60 : decode cM_sum 60 = .ok (.iconst 1, 1) := by decide +kernel
theorem dM_sum_61 : decode cM_sum 61 = .ok (.iushr, 1) := by decide +kernel
theorem dM_sum_62 : decode cM_sum 62 = .ok (.istore_n 2, 1) := by decide +kernel
theorem dM_sum_63 : decode cM_sum 63 = .ok (.iinc 4 1, 3) := by decide +kernel
theorem dM_sum_66 : decode cM_sum 66 = .ok (.goto (-30), 3) := by decide +kernel
theorem dM_sum_69 : decode cM_sum 69 = .ok (.iinc 3 1, 3) := by decide +kernel
theorem dM_sum_72 : decode cM_sum 72 = .ok (.goto (-68), 3) := by decide +kernel
theorem dM_sum_75 : decode cM_sum 75 = .ok (.iload_n 2, 1) := by decide +kernel
theorem dM_sum_76 : decode cM_sum 76 = .ok (.iconst (-1), 1) := by decide +kernel
theorem dM_sum_77 : decode cM_sum 77 = .ok (.ixor, 1) := by decide +kernel
theorem dM_sum_78 : decode cM_sum 78 = .ok (.ireturn, 1) := by decide +kernel
theorem dM_isWritten_0 : decode cM_isWritten 0 = .ok (.iload_n 1, 1) := by decide +kernel
theorem dM_isWritten_1 : decode cM_isWritten 1 = .ok (.ifCond .lt 15, 3) := by decide +kernel
theorem dM_isWritten_4 : decode cM_isWritten 4 = .ok (.iload_n 1, 1) := by decide +kernel
theorem dM_isWritten_5 : decode cM_isWritten 5 = .ok (.aload_n 0, 1) := by decide +kernel
theorem dM_isWritten_6 : decode cM_isWritten 6 = .ok (.getfield 56, 3) := by decide +kernel
theorem dM_isWritten_9 : decode cM_isWritten 9 = .ok (.if_icmp .ge 7, 3) := by decide +kernel
theorem dM_isWritten_12 : decode cM_isWritten 12 = .ok (.iconst 1, 1) := by decide +kernel
theorem dM_isWritten_13 : decode cM_isWritten 13 = .ok (.goto 4, 3) := by decide +kernel
theorem dM_isWritten_16 : decode cM_isWritten 16 = .ok (.iconst 0, 1) := by decide +kernel
theorem dM_isWritten_17 : decode cM_isWritten 17 = .ok (.ireturn, 1) := by decide +kernel
theorem dM_byteOf_0 : decode cM_byteOf 0 = .ok (.aload_n 0, 1) := by decide +kernel
theorem dM_byteOf_1 : decode cM_byteOf 1 = .ok (.iconst 0, 1) := by decide +kernel
theorem dM_byteOf_2 : decode cM_byteOf 2 = .ok (.putfield 49, 3) := by decide +kernel
theorem dM_byteOf_5 : decode cM_byteOf 5 = .ok (.aload_n 0, 1) := by decide +kernel
theorem dM_byteOf_6 : decode cM_byteOf 6 = .ok (.iload_n 1, 1) := by decide +kernel
theorem dM_byteOf_7 : decode cM_byteOf 7 = .ok (.invokevirtual 85, 3) := by decide +kernel
theorem dM_byteOf_10 : decode cM_byteOf 10 = .ok (.ifCond .eq 13, 3) := by decide +kernel
theorem dM_byteOf_13 : decode cM_byteOf 13 = .ok (.iload_n 2, 1) := by decide +kernel
theorem dM_byteOf_14 : decode cM_byteOf 14 = .ok (.ifCond .lt 9, 3) := by decide +kernel
theorem dM_byteOf_17 : decode cM_byteOf 17 = .ok (.iload_n 2, 1) := by decide +kernel
theorem dM_byteOf_18 : decode cM_byteOf 18 = .ok (.bipush 63, 2) := by decide +kernel
theorem dM_byteOf_20 : decode cM_byteOf 20 = .ok (.if_icmp .le 5, 3) := by decide +kernel
theorem dM_byteOf_23 : decode cM_byteOf 23 = .ok (.iconst (-1), 1) := by decide +kernel
theorem dM_byteOf_24 : decode cM_byteOf 24 = .ok (.ireturn, 1) := by decide +kernel
theorem dM_byteOf_25 : decode cM_byteOf 25 = .ok (.iload_n 2, 1) := by decide +kernel
theorem dM_byteOf_26 : decode cM_byteOf 26 = .ok (.iconst 3, 1) := by decide +kernel
theorem dM_byteOf_27 : decode cM_byteOf 27 = .ok (.if_icmp .le 29, 3) := by decide +kernel
theorem dM_byteOf_30 : decode cM_byteOf 30 = .ok (.iload_n 2, 1) := by decide +kernel
theorem dM_byteOf_31 : decode cM_byteOf 31 = .ok (.bipush 8, 2) := by decide +kernel
theorem dM_byteOf_33 : decode cM_byteOf 33 = .ok (.if_icmp .ge 23, 3) := by decide +kernel
theorem dM_byteOf_36 : decode cM_byteOf 36 = .ok (.aload_n 0, 1) := by decide +kernel
theorem dM_byteOf_37 : decode cM_byteOf 37 = .ok (.iload_n 1, 1) := by decide +kernel
theorem dM_byteOf_38 : decode cM_byteOf 38 = .ok (.invokevirtual 89, 3) := by decide +kernel
theorem dM_byteOf_41 : decode cM_byteOf 41 = .ok (.bipush 8, 2) := by decide +kernel
theorem dM_byteOf_43 : decode cM_byteOf 43 = .ok (.bipush 7, 2) := by decide +kernel
theorem dM_byteOf_45 : decode cM_byteOf 45 = .ok (.iload_n 2, 1) := by decide +kernel
theorem dM_byteOf_46 : decode cM_byteOf 46 = .ok (.isub, 1) := by decide +kernel
theorem dM_byteOf_47 : decode cM_byteOf 47 = .ok (.imul, 1) := by decide +kernel
theorem dM_byteOf_48 : decode cM_byteOf 48 = .ok (.ishr, 1) := by decide +kernel
theorem dM_byteOf_49 : decode cM_byteOf 49 = .ok (.sipush 255, 3) := by decide +kernel
theorem dM_byteOf_52 : decode cM_byteOf 52 = .ok (.iand, 1) := by decide +kernel
theorem dM_byteOf_53 : decode cM_byteOf 53 = .ok (.goto 9, 3) := by decide +kernel
theorem dM_byteOf_56 : decode cM_byteOf 56 = .ok (.aload_n 0, 1) := by decide +kernel
theorem dM_byteOf_57 : decode cM_byteOf 57 = .ok (.iload_n 1, 1) := by decide +kernel
theorem dM_byteOf_58 : decode cM_byteOf 58 = .ok (.iload_n 2, 1) := by decide +kernel
theorem dM_byteOf_59 : decode cM_byteOf 59 = .ok (.invokevirtual 80, 3) := by decide +kernel
theorem dM_byteOf_62 : decode cM_byteOf 62 = .ok (.istore_n 3, 1) := by decide +kernel
theorem dM_byteOf_63 : decode cM_byteOf 63 = .ok (.aload_n 0, 1) := by decide +kernel
theorem dM_byteOf_64 : decode cM_byteOf 64 = .ok (.getfield 43, 3) := by decide +kernel
theorem dM_byteOf_67 : decode cM_byteOf 67 = .ok (.iload_n 1, 1) := by decide +kernel
theorem dM_byteOf_68 : decode cM_byteOf 68 = .ok (.iaload, 1) := by decide +kernel
theorem dM_byteOf_69 : decode cM_byteOf 69 = .ok (.iload_n 2, 1) := by decide +kernel
theorem dM_byteOf_70 : decode cM_byteOf 70 = .ok (.if_icmp .ne 18, 3) := by decide +kernel
theorem dM_byteOf_73 : decode cM_byteOf 73 = .ok (.iload_n 3, 1) := by decide +kernel
theorem dM_byteOf_74 : decode cM_byteOf 74 = .ok (.aload_n 0, 1) := by decide +kernel
theorem dM_byteOf_75 : decode cM_byteOf 75 = .ok (.getfield 46, 3) := by decide +kernel
theorem dM_byteOf_78 : decode cM_byteOf 78 = .ok (.iload_n 1, 1) := by decide +kernel
theorem dM_byteOf_79 : decode cM_byteOf 79 = .ok (.iaload, 1) := by decide +kernel
theorem dM_byteOf_80 : decode cM_byteOf 80 = .ok (.iadd, 1) := by decide +kernel
theorem dM_byteOf_81 : decode cM_byteOf 81 = .ok (.sipush 255, 3) := by decide +kernel
theorem dM_byteOf_84 : decode cM_byteOf 84 = .ok (.iand, 1) := by decide +kernel
theorem dM_byteOf_85 : decode cM_byteOf 85 = .ok (.goto 4, 3) := by decide +kernel
theorem dM_byteOf_88 : decode cM_byteOf 88 = .ok (.iload_n 3, 1) := by decide +kernel
theorem dM_byteOf_89 : decode cM_byteOf 89 = .ok (.ireturn, 1) := by decide +kernel
theorem dM_spoil_0 : decode cM_spoil 0 = .ok (.aload_n 0, 1) := by decide +kernel
theorem dM_spoil_1 : decode cM_spoil 1 = .ok (.iconst 0, 1) := by decide +kernel
theorem dM_spoil_2 : decode cM_spoil 2 = .ok (.putfield 49, 3) := by decide +kernel
theorem dM_spoil_5 : decode cM_spoil 5 = .ok (.aload_n 0, 1) := by decide +kernel
theorem dM_spoil_6 : decode cM_spoil 6 = .ok (.iload_n 1, 1) := by decide +kernel
theorem dM_spoil_7 : decode cM_spoil 7 = .ok (.invokevirtual 85, 3) := by decide +kernel
theorem dM_spoil_10 : decode cM_spoil 10 = .ok (.ifCond .eq 34, 3) := by decide +kernel
theorem dM_spoil_13 : decode cM_spoil 13 = .ok (.iload_n 2, 1) := by decide +kernel
theorem dM_spoil_14 : decode cM_spoil 14 = .ok (.ifCond .lt 30, 3) := by decide +kernel
theorem dM_spoil_17 : decode cM_spoil 17 = .ok (.iload_n 2, 1) := by decide +kernel
theorem dM_spoil_18 : decode cM_spoil 18 = .ok (.bipush 63, 2) := by decide +kernel
theorem dM_spoil_20 : decode cM_spoil 20 = .ok (.if_icmp .gt 24, 3) := by decide +kernel
theorem dM_spoil_23 : decode cM_spoil 23 = .ok (.iload_n 3, 1) := by decide +kernel
theorem dM_spoil_24 : decode cM_spoil 24 = .ok (.iconst 1, 1) := by decide +kernel
theorem dM_spoil_25 : decode cM_spoil 25 = .ok (.if_icmp .lt 19, 3) := by decide +kernel
theorem dM_spoil_28 : decode cM_spoil 28 = .ok (.iload_n 3, 1) := by decide +kernel
theorem dM_spoil_29 : decode cM_spoil 29 = .ok (.sipush 255, 3) := by decide +kernel
theorem dM_spoil_32 : decode cM_spoil 32 = .ok (.if_icmp .gt 12, 3) := by decide +kernel
theorem dM_spoil_35 : decode cM_spoil 35 = .ok (.aload_n 0, 1) := by decide +kernel
theorem dM_spoil_36 : decode cM_spoil 36 = .ok (.getfield 43, 3) := by decide +kernel
theorem dM_spoil_39 : decode cM_spoil 39 = .ok (.iload_n 1, 1) := by decide +kernel
theorem dM_spoil_40 : decode cM_spoil 40 = .ok (.iaload, 1) := by decide +kernel
theorem dM_spoil_41 : decode cM_spoil 41 = .ok (.ifCond .lt 5, 3) := by decide +kernel
theorem dM_spoil_44 : decode cM_spoil 44 = .ok (.iconst 0, 1) := by decide +kernel
theorem dM_spoil_45 : decode cM_spoil 45 = .ok (.ireturn, 1) := by decide +kernel
theorem dM_spoil_46 : decode cM_spoil 46 = .ok (.aload_n 0, 1) := by decide +kernel
theorem dM_spoil_47 : decode cM_spoil 47 = .ok (.getfield 43, 3) := by decide +kernel
theorem dM_spoil_50 : decode cM_spoil 50 = .ok (.iload_n 1, 1) := by decide +kernel
theorem dM_spoil_51 : decode cM_spoil 51 = .ok (.iload_n 2, 1) := by decide +kernel
theorem dM_spoil_52 : decode cM_spoil 52 = .ok (.iastore, 1) := by decide +kernel
theorem dM_spoil_53 : decode cM_spoil 53 = .ok (.aload_n 0, 1) := by decide +kernel
theorem dM_spoil_54 : decode cM_spoil 54 = .ok (.getfield 46, 3) := by decide +kernel
theorem dM_spoil_57 : decode cM_spoil 57 = .ok (.iload_n 1, 1) := by decide +kernel
theorem dM_spoil_58 : decode cM_spoil 58 = .ok (.iload_n 3, 1) := by decide +kernel
theorem dM_spoil_59 : decode cM_spoil 59 = .ok (.iastore, 1) := by decide +kernel
theorem dM_spoil_60 : decode cM_spoil 60 = .ok (.iconst 1, 1) := by decide +kernel
theorem dM_spoil_61 : decode cM_spoil 61 = .ok (.ireturn, 1) := by decide +kernel
theorem dM_heal_0 : decode cM_heal 0 = .ok (.aload_n 0, 1) := by decide +kernel
theorem dM_heal_1 : decode cM_heal 1 = .ok (.iconst 0, 1) := by decide +kernel
theorem dM_heal_2 : decode cM_heal 2 = .ok (.putfield 49, 3) := by decide +kernel
theorem dM_heal_5 : decode cM_heal 5 = .ok (.aload_n 0, 1) := by decide +kernel
theorem dM_heal_6 : decode cM_heal 6 = .ok (.iload_n 1, 1) := by decide +kernel
theorem dM_heal_7 : decode cM_heal 7 = .ok (.invokevirtual 85, 3) := by decide +kernel
theorem dM_heal_10 : decode cM_heal 10 = .ok (.ifCond .eq 12, 3) := by decide +kernel
theorem dM_heal_13 : decode cM_heal 13 = .ok (.aload_n 0, 1) := by decide +kernel
theorem dM_heal_14 : decode cM_heal 14 = .ok (.getfield 43, 3) := by decide +kernel
theorem dM_heal_17 : decode cM_heal 17 = .ok (.iload_n 1, 1) := by decide +kernel
theorem dM_heal_18 : decode cM_heal 18 = .ok (.iaload, 1) := by decide +kernel
theorem dM_heal_19 : decode cM_heal 19 = .ok (.ifCond .ge 5, 3) := by decide +kernel
theorem dM_heal_22 : decode cM_heal 22 = .ok (.iconst 0, 1) := by decide +kernel
theorem dM_heal_23 : decode cM_heal 23 = .ok (.ireturn, 1) := by decide +kernel
theorem dM_heal_24 : decode cM_heal 24 = .ok (.aload_n 0, 1) := by decide +kernel
theorem dM_heal_25 : decode cM_heal 25 = .ok (.getfield 43, 3) := by decide +kernel
theorem dM_heal_28 : decode cM_heal 28 = .ok (.iload_n 1, 1) := by decide +kernel
theorem dM_heal_29 : decode cM_heal 29 = .ok (.iconst (-1), 1) := by decide +kernel
theorem dM_heal_30 : decode cM_heal 30 = .ok (.iastore, 1) := by decide +kernel
theorem dM_heal_31 : decode cM_heal 31 = .ok (.iconst 1, 1) := by decide +kernel
theorem dM_heal_32 : decode cM_heal 32 = .ok (.ireturn, 1) := by decide +kernel
theorem dM_isGood_0 : decode cM_isGood 0 = .ok (.aload_n 0, 1) := by decide +kernel
theorem dM_isGood_1 : decode cM_isGood 1 = .ok (.iload_n 1, 1) := by decide +kernel
theorem dM_isGood_2 : decode cM_isGood 2 = .ok (.invokevirtual 85, 3) := by decide +kernel
theorem dM_isGood_5 : decode cM_isGood 5 = .ok (.ifCond .eq 16, 3) := by decide +kernel
theorem dM_isGood_8 : decode cM_isGood 8 = .ok (.aload_n 0, 1) := by decide +kernel
theorem dM_isGood_9 : decode cM_isGood 9 = .ok (.getfield 43, 3) := by decide +kernel
theorem dM_isGood_12 : decode cM_isGood 12 = .ok (.iload_n 1, 1) := by decide +kernel
theorem dM_isGood_13 : decode cM_isGood 13 = .ok (.iaload, 1) := by decide +kernel
theorem dM_isGood_14 : decode cM_isGood 14 = .ok (.ifCond .ge 7, 3) := by decide +kernel
theorem dM_isGood_17 : decode cM_isGood 17 = .ok (.iconst 1, 1) := by decide +kernel
theorem dM_isGood_18 : decode cM_isGood 18 = .ok (.goto 4, 3) := by decide +kernel
theorem dM_isGood_21 : decode cM_isGood 21 = .ok (.iconst 0, 1) := by decide +kernel
theorem dM_isGood_22 : decode cM_isGood 22 = .ok (.ireturn, 1) := by decide +kernel
theorem dM_good_0 : decode cM_good 0 = .ok (.aload_n 0, 1) := by decide +kernel
theorem dM_good_1 : decode cM_good 1 = .ok (.iconst 0, 1) := by decide +kernel
theorem dM_good_2 : decode cM_good 2 = .ok (.putfield 49, 3) := by decide +kernel
theorem dM_good_5 : decode cM_good 5 = .ok (.aload_n 0, 1) := by decide +kernel
theorem dM_good_6 : decode cM_good 6 = .ok (.iload_n 1, 1) := by decide +kernel
theorem dM_good_7 : decode cM_good 7 = .ok (.invokevirtual 93, 3) := by decide +kernel
theorem dM_good_10 : decode cM_good 10 = .ok (.ireturn, 1) := by decide +kernel
theorem dM_isRead_0 : decode cM_isRead 0 = .ok (.aload_n 0, 1) := by decide +kernel
theorem dM_isRead_1 : decode cM_isRead 1 = .ok (.getfield 25, 3) := by decide +kernel
theorem dM_isRead_4 : decode cM_isRead 4 = .ok (.iload_n 1, 1) := by decide +kernel
theorem dM_isRead_5 : decode cM_isRead 5 = .ok (.iaload, 1) := by decide +kernel
theorem dM_isRead_6 : decode cM_isRead 6 = .ok (.istore_n 2, 1) := by decide +kernel
theorem dM_isRead_7 : decode cM_isRead 7 = .ok (.iload_n 2, 1) := by decide +kernel
theorem dM_isRead_8 : decode cM_isRead 8 = .ok (.aload_n 0, 1) := by decide +kernel
theorem dM_isRead_9 : decode cM_isRead 9 = .ok (.getfield 28, 3) := by decide +kernel
theorem dM_isRead_12 : decode cM_isRead 12 = .ok (.iload_n 1, 1) := by decide +kernel
theorem dM_isRead_13 : decode cM_isRead 13 = .ok (.iaload, 1) := by decide +kernel
theorem dM_isRead_14 : decode cM_isRead 14 = .ok (.if_icmp .gt 19, 3) := by decide +kernel
theorem dM_isRead_17 : decode cM_isRead 17 = .ok (.aload_n 0, 1) := by decide +kernel
theorem dM_isRead_18 : decode cM_isRead 18 = .ok (.iload_n 2, 1) := by decide +kernel
theorem dM_isRead_19 : decode cM_isRead 19 = .ok (.invokevirtual 93, 3) := by decide +kernel
theorem dM_isRead_22 : decode cM_isRead 22 = .ok (.ifCond .ne 5, 3) := by decide +kernel
theorem dM_isRead_25 : decode cM_isRead 25 = .ok (.iconst 0, 1) := by decide +kernel
theorem dM_isRead_26 : decode cM_isRead 26 = .ok (.ireturn, 1) := by decide +kernel
theorem dM_isRead_27 : decode cM_isRead 27 = .ok (.iinc 2 1, 3) := by decide +kernel
theorem dM_isRead_30 : decode cM_isRead 30 = .ok (.goto (-23), 3) := by decide +kernel
theorem dM_isRead_33 : decode cM_isRead 33 = .ok (.iconst 1, 1) := by decide +kernel
theorem dM_isRead_34 : decode cM_isRead 34 = .ok (.ireturn, 1) := by decide +kernel
theorem dM_read_0 : decode cM_read 0 = .ok (.aload_n 0, 1) := by decide +kernel
theorem dM_read_1 : decode cM_read 1 = .ok (.iconst 0, 1) := by decide +kernel
theorem dM_read_2 : decode cM_read 2 = .ok (.putfield 49, 3) := by decide +kernel
theorem dM_read_5 : decode cM_read 5 = .ok (.iload_n 1, 1) := by decide +kernel
theorem dM_read_6 : decode cM_read 6 = .ok (.istore_n 3, 1) := by decide +kernel
theorem dM_read_7 : decode cM_read 7 = .ok (.iconst 0, 1) := by decide +kernel
theorem dM_read_8 : decode cM_read 8 = .ok (.istore 4, 2) := by decide +kernel
theorem dM_read_10 : decode cM_read 10 = .ok (.iload 4, 2) := by decide +kernel
theorem dM_read_12 : decode cM_read 12 = .ok (.aload_n 0, 1) := by decide +kernel
theorem dM_read_13 : decode cM_read 13 = .ok (.getfield 66, 3) := by decide +kernel
theorem dM_read_16 : decode cM_read 16 = .ok (.if_icmp .ge 137, 3) := by decide +kernel
theorem dM_read_19 : decode cM_read 19 = .ok (.iload_n 3, 1) := by decide +kernel
theorem dM_read_20 : decode cM_read 20 = .ok (.ifCond .lt 133, 3) := by decide +kernel
theorem dM_read_23 : decode cM_read 23 = .ok (.aload_n 0, 1) := by decide +kernel
theorem dM_read_24 : decode cM_read 24 = .ok (.iload 4, 2) := by decide +kernel
theorem dM_read_26 : decode cM_read 26 = .ok (.invokevirtual 96, 3) := by decide +kernel
theorem dM_read_29 : decode cM_read 29 = .ok (.ifCond .ne 6, 3) := by decide +kernel
theorem dM_read_32 : decode cM_read 32 = .ok (.goto 115, 3) := by decide +kernel
theorem dM_read_35 : decode cM_read 35 = .ok (.iinc 3 (-1), 3) := by decide +kernel
theorem dM_read_38 : decode cM_read 38 = .ok (.iload_n 3, 1) := by decide +kernel
theorem dM_read_39 : decode cM_read 39 = .ok (.ifCond .lt 6, 3) := by decide +kernel
theorem dM_read_42 : decode cM_read 42 = .ok (.goto 105, 3) := by decide +kernel
theorem dM_read_45 : decode cM_read 45 = .ok (.iload_n 2, 1) := by decide +kernel
theorem dM_read_46 : decode cM_read 46 = .ok (.tableswitch 62 0 3 #[30, 38, 46, 54], 30) := by decide +kernel
theorem dM_read_76 : decode cM_read 76 = .ok (.aload_n 0, 1) := by decide +kernel
theorem dM_read_77 : decode cM_read 77 = .ok (.getfield 13, 3) := by decide +kernel
theorem dM_read_80 : decode cM_read 80 = .ok (.iload 4, 2) := by decide +kernel
theorem dM_read_82 : decode cM_read 82 = .ok (.iaload, 1) := by decide +kernel
theorem dM_read_83 : decode cM_read 83 = .ok (.ireturn, 1) := by decide +kernel
theorem dM_read_84 : decode cM_read 84 = .ok (.aload_n 0, 1) := by decide +kernel
theorem dM_read_85 : decode cM_read 85 = .ok (.getfield 16, 3) := by decide +kernel
theorem dM_read_88 : decode cM_read 88 = .ok (.iload 4, 2) := by decide +kernel
theorem dM_read_90 : decode cM_read 90 = .ok (.iaload, 1) := by decide +kernel
theorem dM_read_91 : decode cM_read 91 = .ok (.ireturn, 1) := by decide +kernel
theorem dM_read_92 : decode cM_read 92 = .ok (.aload_n 0, 1) := by decide +kernel
theorem dM_read_93 : decode cM_read 93 = .ok (.getfield 19, 3) := by decide +kernel
theorem dM_read_96 : decode cM_read 96 = .ok (.iload 4, 2) := by decide +kernel
theorem dM_read_98 : decode cM_read 98 = .ok (.iaload, 1) := by decide +kernel
theorem dM_read_99 : decode cM_read 99 = .ok (.ireturn, 1) := by decide +kernel
theorem dM_read_100 : decode cM_read 100 = .ok (.aload_n 0, 1) := by decide +kernel
theorem dM_read_101 : decode cM_read 101 = .ok (.getfield 25, 3) := by decide +kernel
theorem dM_read_104 : decode cM_read 104 = .ok (.iload 4, 2) := by decide +kernel
theorem dM_read_106 : decode cM_read 106 = .ok (.iaload, 1) := by decide +kernel
theorem dM_read_107 : decode cM_read 107 = .ok (.ireturn, 1) := by decide +kernel
theorem dM_read_108 : decode cM_read 108 = .ok (.iload_n 2, 1) := by decide +kernel
theorem dM_read_109 : decode cM_read 109 = .ok (.iconst 3, 1) := by decide +kernel
theorem dM_read_110 : decode cM_read 110 = .ok (.if_icmp .le 35, 3) := by decide +kernel
theorem dM_read_113 : decode cM_read 113 = .ok (.iload_n 2, 1) := by decide +kernel
theorem dM_read_114 : decode cM_read 114 = .ok (.iconst 4, 1) := by decide +kernel
theorem dM_read_115 : decode cM_read 115 = .ok (.isub, 1) := by decide +kernel
theorem dM_read_116 : decode cM_read 116 = .ok (.aload_n 0, 1) := by decide +kernel
theorem dM_read_117 : decode cM_read 117 = .ok (.getfield 19, 3) := by decide +kernel
theorem dM_read_120 : decode cM_read 120 = .ok (.iload 4, 2) := by decide +kernel
theorem dM_read_122 : decode cM_read 122 = .ok (.iaload, 1) := by decide +kernel
theorem dM_read_123 : decode cM_read 123 = .ok (.if_icmp .ge 22, 3) := by decide +kernel
theorem dM_read_126 : decode cM_read 126 = .ok (.aload_n 0, 1) := by decide +kernel
theorem dM_read_127 : decode cM_read 127 = .ok (.getfield 31, 3) := by decide +kernel
theorem dM_read_130 : decode cM_read 130 = .ok (.aload_n 0, 1) := by decide +kernel
theorem dM_read_131 : decode cM_read 131 = .ok (.getfield 22, 3) := by decide +kernel
theorem dM_read_134 : decode cM_read 134 = .ok (.iload 4, 2) := by decide +kernel
theorem dM_read_136 : decode cM_read 136 = .ok (.iaload, 1) := by decide +kernel
theorem dM_read_137 : decode cM_read 137 = .ok (.iload_n 2, 1) := by decide +kernel
theorem dM_read_138 : decode cM_read 138 = .ok (.iadd, 1) := by decide +kernel
theorem dM_read_139 : decode cM_read 139 = .ok (.iconst 4, 1) := by decide +kernel
theorem dM_read_140 : decode cM_read 140 = .ok (.isub, 1) := by decide +kernel
theorem dM_read_141 : decode cM_read 141 = .ok (.iaload, 1) := by decide +kernel
theorem dM_read_142 : decode cM_read 142 = .ok (.goto 4, 3) := by decide +kernel
theorem dM_read_145 : decode cM_read 145 = .ok (.iconst (-1), 1) := by decide +kernel
theorem dM_read_146 : decode cM_read 146 = .ok (.ireturn, 1) := by decide +kernel
theorem dM_read_147 : decode cM_read 147 = .ok (.iinc 4 1, 3) := by decide +kernel
theorem dM_read_150 : decode cM_read 150 = .ok (.goto (-140), 3) := by decide +kernel
theorem dM_read_153 : decode cM_read 153 = .ok (.iconst (-1), 1) := by decide +kernel
theorem dM_read_154 : decode cM_read 154 = .ok (.ireturn, 1) := by decide +kernel
theorem dM_verify_0 : decode cM_verify 0 = .ok (.aload_n 0, 1) := by decide +kernel
theorem dM_verify_1 : decode cM_verify 1 = .ok (.iconst 0, 1) := by decide +kernel
theorem dM_verify_2 : decode cM_verify 2 = .ok (.putfield 49, 3) := by decide +kernel
theorem dM_verify_5 : decode cM_verify 5 = .ok (.iload_n 1, 1) := by decide +kernel
theorem dM_verify_6 : decode cM_verify 6 = .ok (.ifCond .ge 7, 3) := by decide +kernel
theorem dM_verify_9 : decode cM_verify 9 = .ok (.iconst 0, 1) := by decide +kernel
theorem dM_verify_10 : decode cM_verify 10 = .ok (.goto 4, 3) := by decide +kernel
theorem dM_verify_13 : decode cM_verify 13 = .ok (.iload_n 1, 1) := by decide +kernel
theorem dM_verify_14 : decode cM_verify 14 = .ok (.istore_n 2, 1) := by decide +kernel
theorem dM_verify_15 : decode cM_verify 15 = .ok (.iload_n 2, 1) := by decide +kernel
theorem dM_verify_16 : decode cM_verify 16 = .ok (.aload_n 0, 1) := by decide +kernel
theorem dM_verify_17 : decode cM_verify 17 = .ok (.getfield 56, 3) := by decide +kernel
theorem dM_verify_20 : decode cM_verify 20 = .ok (.if_icmp .ge 19, 3) := by decide +kernel
theorem dM_verify_23 : decode cM_verify 23 = .ok (.aload_n 0, 1) := by decide +kernel
theorem dM_verify_24 : decode cM_verify 24 = .ok (.iload_n 2, 1) := by decide +kernel
theorem dM_verify_25 : decode cM_verify 25 = .ok (.invokevirtual 93, 3) := by decide +kernel
theorem dM_verify_28 : decode cM_verify 28 = .ok (.ifCond .ne 5, 3) := by decide +kernel
theorem dM_verify_31 : decode cM_verify 31 = .ok (.iload_n 2, 1) := by decide +kernel
theorem dM_verify_32 : decode cM_verify 32 = .ok (.ireturn, 1) := by decide +kernel
theorem dM_verify_33 : decode cM_verify 33 = .ok (.iinc 2 1, 3) := by decide +kernel
theorem dM_verify_36 : decode cM_verify 36 = .ok (.goto (-21), 3) := by decide +kernel
theorem dM_verify_39 : decode cM_verify 39 = .ok (.iconst (-1), 1) := by decide +kernel
theorem dM_verify_40 : decode cM_verify 40 = .ok (.ireturn, 1) := by decide +kernel
theorem dM_count_0 : decode cM_count 0 = .ok (.aload_n 0, 1) := by decide +kernel
theorem dM_count_1 : decode cM_count 1 = .ok (.iconst 0, 1) := by decide +kernel
theorem dM_count_2 : decode cM_count 2 = .ok (.putfield 49, 3) := by decide +kernel
theorem dM_count_5 : decode cM_count 5 = .ok (.iconst 0, 1) := by decide +kernel
theorem dM_count_6 : decode cM_count 6 = .ok (.istore_n 2, 1) := by decide +kernel
theorem dM_count_7 : decode cM_count 7 = .ok (.iload_n 1, 1) := by decide +kernel
theorem dM_count_8 : decode cM_count 8 = .ok (.tableswitch 137 0 6 #[44, 49, 54, 59, 64, 98, 132], 44) := by decide +kernel
theorem dM_count_52 : decode cM_count 52 = .ok (.aload_n 0, 1) := by decide +kernel
theorem dM_count_53 : decode cM_count 53 = .ok (.getfield 53, 3) := by decide +kernel
theorem dM_count_56 : decode cM_count 56 = .ok (.ireturn, 1) := by decide +kernel
theorem dM_count_57 : decode cM_count 57 = .ok (.aload_n 0, 1) := by decide +kernel
theorem dM_count_58 : decode cM_count 58 = .ok (.getfield 66, 3) := by decide +kernel
theorem dM_count_61 : decode cM_count 61 = .ok (.ireturn, 1) := by decide +kernel
theorem dM_count_62 : decode cM_count 62 = .ok (.aload_n 0, 1) := by decide +kernel
theorem dM_count_63 : decode cM_count 63 = .ok (.getfield 56, 3) := by decide +kernel
theorem dM_count_66 : decode cM_count 66 = .ok (.ireturn, 1) := by decide +kernel
theorem dM_count_67 : decode cM_count 67 = .ok (.aload_n 0, 1) := by decide +kernel
theorem dM_count_68 : decode cM_count 68 = .ok (.getfield 59, 3) := by decide +kernel
theorem dM_count_71 : decode cM_count 71 = .ok (.ireturn, 1) := by decide +kernel
theorem dM_count_72 : decode cM_count 72 = .ok (.iconst 0, 1) := by decide +kernel
theorem dM_count_73 : decode cM_count 73 = .ok (.istore_n 3, 1) := by decide +kernel
theorem dM_count_74 : decode cM_count 74 = .ok (.iload_n 3, 1) := by decide +kernel
theorem dM_count_75 : decode cM_count 75 = .ok (.aload_n 0, 1) := by decide +kernel
theorem dM_count_76 : decode cM_count 76 = .ok (.getfield 66, 3) := by decide +kernel
theorem dM_count_79 : decode cM_count 79 = .ok (.if_icmp .ge 25, 3) := by decide +kernel
theorem dM_count_82 : decode cM_count 82 = .ok (.iload_n 2, 1) := by decide +kernel
theorem dM_count_83 : decode cM_count 83 = .ok (.aload_n 0, 1) := by decide +kernel
theorem dM_count_84 : decode cM_count 84 = .ok (.iload_n 3, 1) := by decide +kernel
theorem dM_count_85 : decode cM_count 85 = .ok (.invokevirtual 96, 3) := by decide +kernel
theorem dM_count_88 : decode cM_count 88 = .ok (.ifCond .eq 7, 3) := by decide +kernel
theorem dM_count_91 : decode cM_count 91 = .ok (.iconst 1, 1) := by decide +kernel
theorem dM_count_92 : decode cM_count 92 = .ok (.goto 4, 3) := by decide +kernel
theorem dM_count_95 : decode cM_count 95 = .ok (.iconst 0, 1) := by decide +kernel
theorem dM_count_96 : decode cM_count 96 = .ok (.iadd, 1) := by decide +kernel
theorem dM_count_97 : decode cM_count 97 = .ok (.istore_n 2, 1) := by decide +kernel
theorem dM_count_98 : decode cM_count 98 = .ok (.iinc 3 1, 3) := by decide +kernel
theorem dM_count_101 : decode cM_count 101 = .ok (.goto (-27), 3) := by decide +kernel
theorem dM_count_104 : decode cM_count 104 = .ok (.iload_n 2, 1) := by decide +kernel
theorem dM_count_105 : decode cM_count 105 = .ok (.ireturn, 1) := by decide +kernel
theorem dM_count_106 : decode cM_count 106 = .ok (.iconst 0, 1) := by decide +kernel
theorem dM_count_107 : decode cM_count 107 = .ok (.istore_n 3, 1) := by decide +kernel
theorem dM_count_108 : decode cM_count 108 = .ok (.iload_n 3, 1) := by decide +kernel
theorem dM_count_109 : decode cM_count 109 = .ok (.aload_n 0, 1) := by decide +kernel
theorem dM_count_110 : decode cM_count 110 = .ok (.getfield 56, 3) := by decide +kernel
theorem dM_count_113 : decode cM_count 113 = .ok (.if_icmp .ge 25, 3) := by decide +kernel
theorem dM_count_116 : decode cM_count 116 = .ok (.iload_n 2, 1) := by decide +kernel
theorem dM_count_117 : decode cM_count 117 = .ok (.aload_n 0, 1) := by decide +kernel
theorem dM_count_118 : decode cM_count 118 = .ok (.iload_n 3, 1) := by decide +kernel
theorem dM_count_119 : decode cM_count 119 = .ok (.invokevirtual 93, 3) := by decide +kernel
theorem dM_count_122 : decode cM_count 122 = .ok (.ifCond .eq 7, 3) := by decide +kernel
theorem dM_count_125 : decode cM_count 125 = .ok (.iconst 0, 1) := by decide +kernel
theorem dM_count_126 : decode cM_count 126 = .ok (.goto 4, 3) := by decide +kernel
theorem dM_count_129 : decode cM_count 129 = .ok (.iconst 1, 1) := by decide +kernel
theorem dM_count_130 : decode cM_count 130 = .ok (.iadd, 1) := by decide +kernel
theorem dM_count_131 : decode cM_count 131 = .ok (.istore_n 2, 1) := by decide +kernel
theorem dM_count_132 : decode cM_count 132 = .ok (.iinc 3 1, 3) := by decide +kernel
theorem dM_count_135 : decode cM_count 135 = .ok (.goto (-27), 3) := by decide +kernel
theorem dM_count_138 : decode cM_count 138 = .ok (.iload_n 2, 1) := by decide +kernel
theorem dM_count_139 : decode cM_count 139 = .ok (.ireturn, 1) := by decide +kernel
theorem dM_count_140 : decode cM_count 140 = .ok (.aload_n 0, 1) := by decide +kernel
theorem dM_count_141 : decode cM_count 141 = .ok (.invokevirtual 69, 3) := by decide +kernel
theorem dM_count_144 : decode cM_count 144 = .ok (.ireturn, 1) := by decide +kernel
theorem dM_count_145 : decode cM_count 145 = .ok (.iconst (-1), 1) := by decide +kernel
theorem dM_count_146 : decode cM_count 146 = .ok (.ireturn, 1) := by decide +kernel
end
section
set_option maxRecDepth 20000 in
theorem gT_X0_init : GoodIn lw_tbl wsX0_init := goodIn_r _ [32, 33, 34, 35, 64, 36, 38, 65, 40, 41, 43, 44, 45, 47, 49, 51, 53, 55, 57, 59, 61] (by decide +kernel) (by decide +kernel)
set_option maxRecDepth 20000 in
theorem gT_M_init : GoodIn lw_tbl wsM_init := goodIn_r _ [186, 65, 189, 193, 194, 195, 196, 197, 198, 199, 202, 203, 204, 205, 206, 187, 34, 35, 207, 209, 211, 213, 215, 217, 219, 221, 223, 225, 227, 229, 231, 233, 235, 237, 239, 241, 243] (by decide +kernel) (by decide +kernel)
set_option maxRecDepth 20000 in
theorem gT_X0_feed : GoodIn lw_tbl (wsV RL 13 RX0 yX0_feed wsX0_feed) := goodIn_r _ [66, 67, 68, 25, 69, 37, 36, 45, 47, 49, 51, 53, 55, 57, 59, 61] (by decide +kernel) (by decide +kernel)
set_option maxRecDepth 20000 in
theorem gT_M_feed : GoodIn lw_tbl (wsV RL 17 RX1 yM_feed wsM_feed) := goodIn_r _ [246, 247, 248, 26, 249, 188, 190, 189, 207, 209, 211, 213, 215, 217, 219, 221, 223, 225, 227, 229, 231, 233, 235, 237, 239, 241, 243] (by decide +kernel) (by decide +kernel)
set_option maxRecDepth 20000 in
theorem gT_X0_put : GoodIn lw_tbl (wsV RL 18 RX0 yX0_put wsX0_put) := goodIn_r _ [70, 71, 72, 25, 73, 74, 37, 42, 40, 39, 41, 75, 77, 0, 25, 78, 79, 81, 1, 82, 38, 83, 85, 2, 86, 36, 87, 89, 3, 90, 91, 92, 93, 94, 96, 4, 97, 98, 100, 5, 101, 102, 104, 6, 105, 106, 45, 47, 49, 51, 53, 55, 57, 59, 61] (by decide +kernel) (by decide +kernel)
set_option maxRecDepth 20000 in
theorem gT_M_put : GoodIn lw_tbl (wsV RL 21 RX1 yM_put wsM_put) := goodIn_r _ [250, 251, 252, 26, 253, 188, 254, 191, 190, 193, 194, 195, 196, 192, 197, 200, 198, 199, 189, 255, 257, 16, 26, 258, 201, 259, 261, 17, 262, 204, 205, 202, 263, 265, 18, 266, 203, 207, 209, 211, 213, 215, 217, 219, 221, 223, 225, 227, 229, 231, 233, 235, 237, 239, 241, 243] (by decide +kernel) (by decide +kernel)
set_option maxRecDepth 20000 in
theorem gT_X0_close : GoodIn lw_tbl (wsV RL 22 RX0 yX0_close wsX0_close) := goodIn_r _ [107, 108, 109, 25, 110, 39, 94, 96, 4, 25, 97, 38, 98, 100, 5, 101, 102, 104, 6, 105, 106, 45, 47, 49, 51, 53, 55, 57, 59, 61] (by decide +kernel) (by decide +kernel)
set_option maxRecDepth 20000 in
theorem gT_M_close : GoodIn lw_tbl (wsV RL 26 RX1 yM_close wsM_close) := goodIn_r _ [267, 268, 269, 26, 270, 188, 201, 202, 200, 263, 265, 18, 26, 266, 203, 207, 209, 211, 213, 215, 217, 219, 221, 223, 225, 227, 229, 231, 233, 235, 237, 239, 241, 243] (by decide +kernel) (by decide +kernel)
set_option maxRecDepth 20000 in
theorem gT_X0_spoil : GoodIn lw_tbl (wsV RL 27 RX0 yX0_spoil wsX0_spoil) := goodIn_r _ [111, 112, 113, 25, 114, 43, 44, 115, 117, 7, 25, 118, 119, 121, 8, 122, 39, 123, 124, 125, 126, 128, 9, 129, 38, 45, 47, 49, 51, 53, 55, 57, 59, 61] (by decide +kernel) (by decide +kernel)
set_option maxRecDepth 20000 in
theorem gT_M_spoil : GoodIn lw_tbl (wsV RL 31 RX1 yM_spoil wsM_spoil) := goodIn_r _ [288, 289, 290, 26, 291, 188, 205, 206, 275, 277, 19, 26, 278, 200, 207, 209, 211, 213, 215, 217, 219, 221, 223, 225, 227, 229, 231, 233, 235, 237, 239, 241, 243] (by decide +kernel) (by decide +kernel)
set_option maxRecDepth 20000 in
theorem gT_X0_heal : GoodIn lw_tbl (wsV RL 32 RX0 yX0_heal wsX0_heal) := goodIn_r _ [130, 131, 132, 25, 133, 43, 44, 115, 117, 7, 25, 118, 119, 121, 8, 122, 39, 126, 128, 9, 129, 38, 45, 47, 49, 51, 53, 55, 57, 59, 61] (by decide +kernel) (by decide +kernel)
set_option maxRecDepth 20000 in
theorem gT_M_heal : GoodIn lw_tbl (wsV RL 36 RX1 yM_heal wsM_heal) := goodIn_r _ [292, 293, 294, 26, 295, 188, 205, 275, 277, 19, 26, 278, 200, 207, 209, 211, 213, 215, 217, 219, 221, 223, 225, 227, 229, 231, 233, 235, 237, 239, 241, 243] (by decide +kernel) (by decide +kernel)
set_option maxRecDepth 20000 in
theorem gT_X0_byteOf : GoodIn lw_tbl (wsV RL 37 RX0 yX0_byteOf wsX0_byteOf) := goodIn_r _ [134, 135, 136, 25, 137, 38, 115, 117, 7, 25, 118, 119, 121, 8, 122, 39, 123, 124, 125, 45, 47, 49, 51, 53, 55, 57, 59, 61] (by decide +kernel) (by decide +kernel)
set_option maxRecDepth 20000 in
theorem gT_M_byteOf : GoodIn lw_tbl (wsV RL 40 RX1 yM_byteOf wsM_byteOf) := goodIn_r _ [271, 272, 273, 26, 274, 188, 205, 206, 275, 277, 19, 26, 278, 200, 279, 281, 20, 282, 287, 283, 285, 21, 286, 203, 204, 202, 207, 209, 211, 213, 215, 217, 219, 221, 223, 225, 227, 229, 231, 233, 235, 237, 239, 241, 243] (by decide +kernel) (by decide +kernel)
set_option maxRecDepth 20000 in
theorem gT_X0_good : GoodIn lw_tbl (wsV RL 41 RX0 yX0_good wsX0_good) := goodIn_r _ [138, 139, 140, 25, 141, 43, 115, 117, 7, 25, 118, 119, 121, 8, 122, 39, 45, 47, 49, 51, 53, 55, 57, 59, 61] (by decide +kernel) (by decide +kernel)
set_option maxRecDepth 20000 in
theorem gT_M_good : GoodIn lw_tbl (wsV RL 44 RX1 yM_good wsM_good) := goodIn_r _ [296, 297, 298, 26, 299, 188, 300, 302, 22, 26, 303, 205, 275, 277, 19, 278, 200, 207, 209, 211, 213, 215, 217, 219, 221, 223, 225, 227, 229, 231, 233, 235, 237, 239, 241, 243] (by decide +kernel) (by decide +kernel)
set_option maxRecDepth 20000 in
theorem gT_X0_read : GoodIn lw_tbl (wsV RL 45 RX0 yX0_read wsX0_read) := goodIn_r _ [142, 143, 144, 25, 145, 41, 40, 146, 148, 10, 25, 149, 42, 150, 152, 11, 153, 154, 139, 140, 141, 43, 115, 117, 7, 118, 119, 121, 8, 122, 39, 155, 157, 12, 158, 38, 91, 92, 93, 159, 161, 13, 162, 45, 47, 49, 51, 53, 55, 57, 59, 61] (by decide +kernel) (by decide +kernel)
set_option maxRecDepth 20000 in
theorem gT_M_read : GoodIn lw_tbl (wsV RL 48 RX1 yM_read wsM_read) := goodIn_r _ [304, 305, 306, 26, 307, 188, 191, 193, 194, 195, 197, 199, 196, 308, 310, 23, 26, 311, 198, 300, 302, 22, 303, 205, 275, 277, 19, 278, 200, 207, 209, 211, 213, 215, 217, 219, 221, 223, 225, 227, 229, 231, 233, 235, 237, 239, 241, 243] (by decide +kernel) (by decide +kernel)
set_option maxRecDepth 20000 in
theorem gT_X0_verify : GoodIn lw_tbl (wsV RL 49 RX0 yX0_verify wsX0_verify) := goodIn_r _ [163, 164, 165, 25, 166, 167, 168, 27, 169, 119, 121, 8, 25, 122, 39, 154, 139, 140, 141, 43, 115, 117, 7, 118, 45, 47, 49, 51, 53, 55, 57, 59, 61] (by decide +kernel) (by decide +kernel)
set_option maxRecDepth 20000 in
theorem gT_M_verify : GoodIn lw_tbl (wsV RL 53 RX1 yM_verify wsM_verify) := goodIn_r _ [312, 313, 314, 26, 315, 188, 200, 300, 302, 22, 26, 303, 205, 275, 277, 19, 278, 207, 209, 211, 213, 215, 217, 219, 221, 223, 225, 227, 229, 231, 233, 235, 237, 239, 241, 243] (by decide +kernel) (by decide +kernel)
set_option maxRecDepth 20000 in
theorem gT_X0_count : GoodIn lw_tbl (wsV RL 54 RX0 yX0_count wsX0_count) := goodIn_r _ [170, 171, 172, 25, 173, 37, 42, 39, 119, 121, 8, 25, 122, 174, 176, 14, 177, 150, 152, 11, 153, 40, 41, 154, 139, 140, 141, 43, 115, 117, 7, 118, 178, 180, 15, 181, 75, 77, 0, 78, 45, 47, 49, 51, 53, 55, 57, 59, 61] (by decide +kernel) (by decide +kernel)
set_option maxRecDepth 20000 in
theorem gT_M_count : GoodIn lw_tbl (wsV RL 57 RX1 yM_count wsM_count) := goodIn_r _ [316, 317, 318, 26, 319, 188, 190, 191, 200, 201, 308, 310, 23, 26, 311, 197, 198, 300, 302, 22, 303, 205, 275, 277, 19, 278, 255, 257, 16, 258, 207, 209, 211, 213, 215, 217, 219, 221, 223, 225, 227, 229, 231, 233, 235, 237, 239, 241, 243] (by decide +kernel) (by decide +kernel)
theorem inT0 : ∀ w ∈ wsX00, w ∈ lw_tbl := by decide +kernel
theorem inT1 : ∀ w ∈ wsX10, w ∈ lw_tbl := by decide +kernel
end
section
def bn (x : Int32) : Int32 := x.toInt8.toInt32
def ush (x : Int32) (k : Nat) : Int32 := (x.toUInt32 >>> ((nI k).toUInt32 &&& Int32.toUInt32 31)).toInt32
theorem kmt {a b : Prop} (h : a → b) (n : ¬ b) : ¬ a := fun x => n (h x)
def bI (b : Bool) : Int32 := if b then 1 else 0
theorem bI_e (b : Bool) : bI b = 0 ↔ b = false := by cases b <;> decide
theorem bI_n (b : Bool) : narrow .boolean (.int (bI b)) = .int (bI b) := by cases b <;> rfl
theorem ki_inc (n : Nat) : nI n + Int32.ofInt 1 = nI (n + 1) := nI_1 n
theorem kx_0 : (0 : Int32).toInt = 0 := by decide
theorem kx_lt0 {x : Int32} : x < 0 ↔ x.toInt < 0 := by rw [Int32.lt_iff_toInt_lt, kx_0]
theorem kx_ge0 {x : Int32} : 0 ≤ x ↔ 0 ≤ x.toInt := by rw [Int32.le_iff_toInt_le, kx_0]
theorem kx_gt0 {x : Int32} : 0 < x ↔ 0 < x.toInt := by rw [Int32.lt_iff_toInt_lt, kx_0]
theorem kx_le0 {x : Int32} : x ≤ 0 ↔ x.toInt ≤ 0 := by rw [Int32.le_iff_toInt_le, kx_0]
theorem kx_eq0 {x : Int32} : x = 0 ↔ x.toInt = 0 := by rw [← Int32.toInt_inj, kx_0]
theorem kx_lt {x : Int32} {n : Nat} (h : n < 2 ^ 31) : x < nI n ↔ x.toInt < n := by rw [Int32.lt_iff_toInt_lt, nI_toInt h]
theorem kx_le {x : Int32} {n : Nat} (h : n < 2 ^ 31) : x ≤ nI n ↔ x.toInt ≤ n := by rw [Int32.le_iff_toInt_le, nI_toInt h]
theorem kx_gt {x : Int32} {n : Nat} (h : n < 2 ^ 31) : nI n < x ↔ (n : Int) < x.toInt := by rw [Int32.lt_iff_toInt_lt, nI_toInt h]
theorem kx_ge {x : Int32} {n : Nat} (h : n < 2 ^ 31) : nI n ≤ x ↔ (n : Int) ≤ x.toInt := by rw [Int32.le_iff_toInt_le, nI_toInt h]
theorem kx_eq {x : Int32} {n : Nat} (h : n < 2 ^ 31) : x = nI n ↔ x.toInt = n := by rw [← Int32.toInt_inj, nI_toInt h]
theorem kx_eqr {x : Int32} {n : Nat} (h : n < 2 ^ 31) : nI n = x ↔ (n : Int) = x.toInt := by rw [← Int32.toInt_inj, nI_toInt h]
theorem kx_le2 {x y : Int32} : x ≤ y ↔ x.toInt ≤ y.toInt := Int32.le_iff_toInt_le
theorem kx_lt2 {x y : Int32} : x < y ↔ x.toInt < y.toInt := Int32.lt_iff_toInt_lt
theorem kx_eq2 {x y : Int32} : x = y ↔ x.toInt = y.toInt := Int32.toInt_inj.symm
theorem kn_lt0 {n : Nat} (h : n < 2 ^ 31) : nI n < 0 ↔ n < 0 := by rw [kx_lt0, nI_toInt h]; omega
theorem kn_ge0 {n : Nat} (h : n < 2 ^ 31) : 0 ≤ nI n ↔ 0 ≤ n := by rw [kx_ge0, nI_toInt h]; omega
theorem kn_gt0 {n : Nat} (h : n < 2 ^ 31) : 0 < nI n ↔ 0 < n := by rw [kx_gt0, nI_toInt h]; omega
theorem kn_le0 {n : Nat} (h : n < 2 ^ 31) : nI n ≤ 0 ↔ n ≤ 0 := by rw [kx_le0, nI_toInt h]; omega
theorem kn_eq0 {n : Nat} (h : n < 2 ^ 31) : nI n = 0 ↔ n = 0 := by rw [kx_eq0, nI_toInt h]; omega
theorem kx_of {x : Int32} (h : 0 ≤ x.toInt) : ∃ j : Nat, j < 2 ^ 31 ∧ x = nI j := nI_of (fun q => by rw [kx_lt0] at q; omega)
def nA (f : Nat → Nat) : Nat → Int32 := fun k => nI (f k)
def updN (f : Nat → Nat) (k x : Nat) : Nat → Nat := fun j => if j = k then x else f j
theorem nA_upd (f : Nat → Nat) (k x : Nat) : upd (nA f) k (nI x) = nA (updN f k x) := by
  funext j
  simp only [upd, nA, updN]
  split <;> rfl
section KR
variable {p : Program} {l : Launch} {e : Env} {R : Room} {s : State} {m : MethodId} {args : Array Value} {below : List Frame} {meth : Method} {c : Code} {H : Heap} {locs : List Loc} {cells slots : Nat} {Q : State → Prop}
variable {cc : ByteArray} {pc : Nat} {ls : Array Slot} {rest st0 : List Value} {D : va_G} {cl : List vw_C} {A : Nat → Prop} {a : Nat} {tys : List (ClassId × FieldType)} {ws0 : va_W} {H0 : Heap}
theorem ka_iastN (hexec : p.tables.exec = Jvm.exec) (hb : c.code = cc) (hK : va_K D cl tys s) (hP : va_P D cl ws0 H) (hD : va_D A ws0) (hS : va_S A H0 H locs) (q0 t0 : Nat) {cA : ClassId} {n : Nat} {f : Nat → Nat} (ha : ws0[q0]? = some (a, .inl (cA, n, .inl (nA f)))) (ht : tys[t0]? = some (cA, .int)) {k x : Nat} (hk : k < n) (hn : n < 2 ^ 31) (hdg : decode cc pc = .ok (.iastore, 1))
    (kk : ∀ (H1 : Heap) (locs1 : List Loc), va_P D cl (ws0.set q0 (a, .inl (cA, n, .inl (nA (updN f k x))))) H1 → va_D A (ws0.set q0 (a, .inl (cA, n, .inl (nA (updN f k x))))) → va_S A H0 H1 locs1 → W p l e R s m args below meth c H1 locs1 cells slots Q (F0 m (pc + 1) ls rest)) : W p l e R s m args below meth c H locs cells slots Q (F0 m pc ls (.int (nI x) :: .int (nI k) :: .ref a :: rest)) := by
  refine va_iast hexec hb hK hP hD hS q0 t0 ha ht (vp_in_nI hk hn) hdg ?_
  rw [nI_clamp (by omega), nA_upd]; exact kk
theorem ka_ialdN (hexec : p.tables.exec = Jvm.exec) (hb : c.code = cc) (hK : va_K D cl tys s) (hP : va_P D cl ws0 H) (q0 t0 : Nat) {cA : ClassId} {n : Nat} {f : Nat → Nat} (ha : ws0[q0]? = some (a, .inl (cA, n, .inl (nA f)))) (ht : tys[t0]? = some (cA, .int)) {k : Nat} (hk : k < n) (hn : n < 2 ^ 31) (hdg : decode cc pc = .ok (.iaload, 1))
    (kk : W p l e R s m args below meth c H locs cells slots Q (F0 m (pc + 1) ls (.int (nI (f k)) :: rest))) : W p l e R s m args below meth c H locs cells slots Q (F0 m pc ls (.int (nI k) :: .ref a :: rest)) := by
  refine va_iald hexec hb hK hP q0 t0 ha ht (vp_in_nI hk hn) hdg ?_
  rw [nI_clamp (by omega)]; exact kk
theorem kv_top {x y : Int32} (e9 : x = y) (k : W p l e R s m args below meth c H locs cells slots Q (F0 m pc ls (.int y :: rest))) : W p l e R s m args below meth c H locs cells slots Q (F0 m pc ls (.int x :: rest)) := by
  rw [e9]; exact k
theorem ka_iald (hexec : p.tables.exec = Jvm.exec) (hb : c.code = cc) (hK : va_K D cl tys s) (hP : va_P D cl ws0 H) (q0 t0 : Nat) {cA : ClassId} {n : Nat} {f : Nat → Int32} (ha : ws0[q0]? = some (a, .inl (cA, n, .inl f))) (ht : tys[t0]? = some (cA, .int)) {k : Nat} (hk : k < n) (hn : n < 2 ^ 31) (hdg : decode cc pc = .ok (.iaload, 1))
    (kk : W p l e R s m args below meth c H locs cells slots Q (F0 m (pc + 1) ls (.int (f k) :: rest))) : W p l e R s m args below meth c H locs cells slots Q (F0 m pc ls (.int (nI k) :: .ref a :: rest)) := by
  refine va_iald hexec hb hK hP q0 t0 ha ht (vp_in_nI hk hn) hdg ?_
  rw [nI_clamp (by omega)]; exact kk
theorem ka_bald (hexec : p.tables.exec = Jvm.exec) (hb : c.code = cc) (hK : va_K D cl tys s) (hP : va_P D cl ws0 H) (q0 t0 : Nat) {cA : ClassId} {n : Nat} {f : Nat → Int32} (ha : ws0[q0]? = some (a, .inl (cA, n, .inl f))) (ht : tys[t0]? = some (cA, .byte)) {k : Nat} (hk : k < n) (hn : n < 2 ^ 31) (hdg : decode cc pc = .ok (.baload, 1))
    (kk : W p l e R s m args below meth c H locs cells slots Q (F0 m (pc + 1) ls (.int (f k) :: rest))) : W p l e R s m args below meth c H locs cells slots Q (F0 m pc ls (.int (nI k) :: .ref a :: rest)) := by
  refine va_bald hexec hb hK hP q0 t0 ha ht (vp_in_nI hk hn) hdg ?_
  rw [nI_clamp (by omega)]; exact kk
theorem ka_zald (hexec : p.tables.exec = Jvm.exec) (hb : c.code = cc) (hK : va_K D cl tys s) (hP : va_P D cl ws0 H) (q0 t0 : Nat) {cA : ClassId} {n : Nat} {f : Nat → Int32} (ha : ws0[q0]? = some (a, .inl (cA, n, .inl f))) (ht : tys[t0]? = some (cA, .boolean)) {k : Nat} (hk : k < n) (hn : n < 2 ^ 31) (hdg : decode cc pc = .ok (.baload, 1))
    (kk : W p l e R s m args below meth c H locs cells slots Q (F0 m (pc + 1) ls (.int (f k) :: rest))) : W p l e R s m args below meth c H locs cells slots Q (F0 m pc ls (.int (nI k) :: .ref a :: rest)) := by
  refine va_zald hexec hb hK hP q0 t0 ha ht (vp_in_nI hk hn) hdg ?_
  rw [nI_clamp (by omega)]; exact kk
theorem ka_iast (hexec : p.tables.exec = Jvm.exec) (hb : c.code = cc) (hK : va_K D cl tys s) (hP : va_P D cl ws0 H) (hD : va_D A ws0) (hS : va_S A H0 H locs) (q0 t0 : Nat) {cA : ClassId} {n : Nat} {f : Nat → Int32} (ha : ws0[q0]? = some (a, .inl (cA, n, .inl f))) (ht : tys[t0]? = some (cA, .int)) {k : Nat} {x : Int32} (hk : k < n) (hn : n < 2 ^ 31) (hdg : decode cc pc = .ok (.iastore, 1))
    (kk : ∀ (H1 : Heap) (locs1 : List Loc), va_P D cl (ws0.set q0 (a, .inl (cA, n, .inl (upd f k x)))) H1 → va_D A (ws0.set q0 (a, .inl (cA, n, .inl (upd f k x)))) → va_S A H0 H1 locs1 → W p l e R s m args below meth c H1 locs1 cells slots Q (F0 m (pc + 1) ls rest)) : W p l e R s m args below meth c H locs cells slots Q (F0 m pc ls (.int x :: .int (nI k) :: .ref a :: rest)) := by
  refine va_iast hexec hb hK hP hD hS q0 t0 ha ht (vp_in_nI hk hn) hdg ?_
  rw [nI_clamp (by omega)]; exact kk
theorem ka_bast (hexec : p.tables.exec = Jvm.exec) (hb : c.code = cc) (hK : va_K D cl tys s) (hP : va_P D cl ws0 H) (hD : va_D A ws0) (hS : va_S A H0 H locs) (q0 t0 : Nat) {cA : ClassId} {n : Nat} {f : Nat → Int32} (ha : ws0[q0]? = some (a, .inl (cA, n, .inl f))) (ht : tys[t0]? = some (cA, .byte)) {k : Nat} {x : Int32} (hk : k < n) (hn : n < 2 ^ 31) (hnar : vp_nar .byte x = x) (hdg : decode cc pc = .ok (.bastore, 1))
    (kk : ∀ (H1 : Heap) (locs1 : List Loc), va_P D cl (ws0.set q0 (a, .inl (cA, n, .inl (upd f k x)))) H1 → va_D A (ws0.set q0 (a, .inl (cA, n, .inl (upd f k x)))) → va_S A H0 H1 locs1 → W p l e R s m args below meth c H1 locs1 cells slots Q (F0 m (pc + 1) ls rest)) : W p l e R s m args below meth c H locs cells slots Q (F0 m pc ls (.int x :: .int (nI k) :: .ref a :: rest)) := by
  refine va_bast hexec hb hK hP hD hS q0 t0 ha ht (vp_in_nI hk hn) hdg ?_
  rw [nI_clamp (by omega), hnar]; exact kk
theorem ka_zast (hexec : p.tables.exec = Jvm.exec) (hb : c.code = cc) (hK : va_K D cl tys s) (hP : va_P D cl ws0 H) (hD : va_D A ws0) (hS : va_S A H0 H locs) (q0 t0 : Nat) {cA : ClassId} {n : Nat} {f : Nat → Int32} (ha : ws0[q0]? = some (a, .inl (cA, n, .inl f))) (ht : tys[t0]? = some (cA, .boolean)) {k : Nat} {x : Int32} (hk : k < n) (hn : n < 2 ^ 31) (hnar : vp_nar .boolean x = x) (hdg : decode cc pc = .ok (.bastore, 1))
    (kk : ∀ (H1 : Heap) (locs1 : List Loc), va_P D cl (ws0.set q0 (a, .inl (cA, n, .inl (upd f k x)))) H1 → va_D A (ws0.set q0 (a, .inl (cA, n, .inl (upd f k x)))) → va_S A H0 H1 locs1 → W p l e R s m args below meth c H1 locs1 cells slots Q (F0 m (pc + 1) ls rest)) : W p l e R s m args below meth c H locs cells slots Q (F0 m pc ls (.int x :: .int (nI k) :: .ref a :: rest)) := by
  refine va_zast hexec hb hK hP hD hS q0 t0 ha ht (vp_in_nI hk hn) hdg ?_
  rw [nI_clamp (by omega), hnar]; exact kk
end KR
abbrev kPre (D : va_G) (cl : List vw_C) (WS : va_W) (TYS : List (ClassId × FieldType)) (sz : Nat) (av : List Value) : Array Value → State → Prop := va_Pc av (fun U => U.heap.size = sz ∧ va_P D cl WS U.heap ∧ va_K D cl TYS U ∧ va_D (fun _ => True) WS)
abbrev kAt (D : va_G) (cl : List vw_C) (WS : va_W) (TYS : List (ClassId × FieldType)) (sz : Nat) (WS' : va_W) : Unit → State → Prop := fun _ t => va_P D cl WS' t.heap ∧ va_K D cl TYS t ∧ va_D (va_A WS sz) WS'
abbrev kQi (D : va_G) (cl : List vw_C) (WS : va_W) (TYS : List (ClassId × FieldType)) (sz : Nat) (r : Int32) (WS' : va_W) : Array Value → State → Outcome → State → Prop := va_Qi (fun x (_ : Unit) => x = r) (kAt D cl WS TYS sz WS') (va_A WS sz)
abbrev kQv (D : va_G) (cl : List vw_C) (WS : va_W) (TYS : List (ClassId × FieldType)) (sz : Nat) (WS' : va_W) : Array Value → State → Outcome → State → Prop := va_Qv (fun _ => True) (kAt D cl WS TYS sz WS') (va_A WS sz)
section KM
variable {l : Launch} {y : MethodName} {ws ws' : List Cond} {rm : Room} {cc : ByteArray} {maxL : Nat} {D : va_G} {cl : List vw_C} {WS WS' : va_W} {TYS : List (ClassId × FieldType)} {sz : Nat} {av : List Value} {r : Int32}
theorem kM_i (hy : plainName y.cls = true) (hw : ws = Cond.code y cc maxL (some .int) :: ws') (hlen : (lg_sl av).length ≤ maxL)
    (body : ∀ (p : Program) (e : Env) (s : State) (m : MethodId) (below : List Frame) (meth : Method) (c : Code) (A : Nat → Prop) (Q : State → Prop) (ls : Array Slot) (H : Heap) (locs : List Loc), CallFix p m c cc maxL s av.toArray ws y.cls → va_P D cl WS H → va_K D cl TYS s → va_D A WS → va_S A s.heap H locs → (∀ q : Nat, s.heap.size ≤ q → A q) → lv_has ls maxL (lv_args 0 av) →
      (∀ (H : Heap) (locs : List Loc) (pc : Nat) (ls : Array Slot), va_P D cl WS' H → va_D A WS' → va_S A s.heap H locs → decode cc pc = .ok (.ireturn, 1) → W p l e rm s m av.toArray below meth c H locs 0 0 Q (F0 m pc ls [.int r])) →
      W p l e rm s m av.toArray below meth c H locs 0 0 Q (F0 m 0 ls [])) : Met l y ws rm (kPre D cl WS TYS sz av) (kQi D cl WS TYS sz r WS') 0 0 (va_A WS sz) := by
  refine Met.ofW (cc := cc) (maxL := maxL) (ret := some .int) hy hw ?_
  intro p e s m args below meth c s₁ B hml hv
  obtain ⟨rfl, hsz, hP, hK, hD0⟩ := hv
  subst hsz
  rw [lg_entry_eq]
  exact body p e s m below meth c (va_A WS s.heap.size) _ _ _ _ ⟨B.exec, B.bytes, hml, findClass_of_methodNamed B.named, atoms_spec (ws := ws) B.pre⟩ hP hK hD0.self va_S.rf (fun q h => Or.inr h) (lv_entry av hlen) (fun H locs pc ls hP' hD' hS' hd => W.iret B.exec B.bytes B.returns (fun t ht hW => ⟨⟨r, (), rfl, rfl, by rw [ht]; exact hP', va_K.moved hW.alike hK, hD'⟩, hS'.F ht⟩) hS'.2.2 hd B.notSynchronized)
theorem kM_z (hy : plainName y.cls = true) (hw : ws = Cond.code y cc maxL (some .boolean) :: ws') (hlen : (lg_sl av).length ≤ maxL) (hnr : narrow .boolean (.int r) = .int r)
    (body : ∀ (p : Program) (e : Env) (s : State) (m : MethodId) (below : List Frame) (meth : Method) (c : Code) (A : Nat → Prop) (Q : State → Prop) (ls : Array Slot) (H : Heap) (locs : List Loc), CallFix p m c cc maxL s av.toArray ws y.cls → va_P D cl WS H → va_K D cl TYS s → va_D A WS → va_S A s.heap H locs → (∀ q : Nat, s.heap.size ≤ q → A q) → lv_has ls maxL (lv_args 0 av) →
      (∀ (H : Heap) (locs : List Loc) (pc : Nat) (ls : Array Slot), va_P D cl WS' H → va_D A WS' → va_S A s.heap H locs → decode cc pc = .ok (.ireturn, 1) → W p l e rm s m av.toArray below meth c H locs 0 0 Q (F0 m pc ls [.int r])) →
      W p l e rm s m av.toArray below meth c H locs 0 0 Q (F0 m 0 ls [])) : Met l y ws rm (kPre D cl WS TYS sz av) (kQi D cl WS TYS sz r WS') 0 0 (va_A WS sz) := by
  refine Met.ofW (cc := cc) (maxL := maxL) (ret := some .boolean) hy hw ?_
  intro p e s m args below meth c s₁ B hml hv
  obtain ⟨rfl, hsz, hP, hK, hD0⟩ := hv
  subst hsz
  rw [lg_entry_eq]
  exact body p e s m below meth c (va_A WS s.heap.size) _ _ _ _ ⟨B.exec, B.bytes, hml, findClass_of_methodNamed B.named, atoms_spec (ws := ws) B.pre⟩ hP hK hD0.self va_S.rf (fun q h => Or.inr h) (lv_entry av hlen) (fun H locs pc ls hP' hD' hS' hd => W.zret B.exec B.bytes B.returns hnr (fun t ht hW => ⟨⟨r, (), rfl, rfl, by rw [ht]; exact hP', va_K.moved hW.alike hK, hD'⟩, hS'.F ht⟩) hS'.2.2 hd B.notSynchronized)
theorem kM_v (hy : plainName y.cls = true) (hw : ws = Cond.code y cc maxL none :: ws') (hlen : (lg_sl av).length ≤ maxL)
    (body : ∀ (p : Program) (e : Env) (s : State) (m : MethodId) (below : List Frame) (meth : Method) (c : Code) (A : Nat → Prop) (Q : State → Prop) (ls : Array Slot) (H : Heap) (locs : List Loc), CallFix p m c cc maxL s av.toArray ws y.cls → va_P D cl WS H → va_K D cl TYS s → va_D A WS → va_S A s.heap H locs → (∀ q : Nat, s.heap.size ≤ q → A q) → lv_has ls maxL (lv_args 0 av) →
      (∀ (H : Heap) (locs : List Loc) (pc : Nat) (ls : Array Slot), va_P D cl WS' H → va_D A WS' → va_S A s.heap H locs → decode cc pc = .ok (.return_, 1) → W p l e rm s m av.toArray below meth c H locs 0 0 Q (F0 m pc ls [])) →
      W p l e rm s m av.toArray below meth c H locs 0 0 Q (F0 m 0 ls [])) : Met l y ws rm (kPre D cl WS TYS sz av) (kQv D cl WS TYS sz WS') 0 0 (va_A WS sz) := by
  refine Met.ofW (cc := cc) (maxL := maxL) (ret := none) hy hw ?_
  intro p e s m args below meth c s₁ B hml hv
  obtain ⟨rfl, hsz, hP, hK, hD0⟩ := hv
  subst hsz
  rw [lg_entry_eq]
  exact body p e s m below meth c (va_A WS s.heap.size) _ _ _ _ ⟨B.exec, B.bytes, hml, findClass_of_methodNamed B.named, atoms_spec (ws := ws) B.pre⟩ hP hK hD0.self va_S.rf (fun q h => Or.inr h) (lv_entry av hlen) (fun H locs pc ls hP' hD' hS' hd => W.vret B.exec B.bytes B.returns (fun t ht hW => ⟨⟨(), rfl, trivial, by rw [ht]; exact hP', va_K.moved hW.alike hK, hD'⟩, hS'.F ht⟩) hS'.2.2 hd B.notSynchronized)
end KM
theorem kP_cut {D : va_G} {cl : List vw_C} {ws wc : va_W} {H : Heap} (h : va_P D cl ws H) (is : List Nat) (hC : is.map (fun i => ws[i]?) = wc.map some) : va_P D cl wc H := by
  intro k q hq
  have h1 : (is.map (fun i => ws[i]?))[k]? = some (some q) := by rw [hC, List.getElem?_map, hq]; rfl
  rw [List.getElem?_map] at h1
  cases hi : is[k]? with
  | none => rw [hi] at h1; cases h1
  | some i => rw [hi] at h1; exact h i q (Option.some.inj h1)
section KC
variable {p : Program} {l : Launch} {e : Env} {R : Room} {s : State} {m : MethodId} {args : Array Value} {below : List Frame} {meth : Method} {c : Code} {H : Heap} {locs : List Loc} {cells slots : Nat} {Q : State → Prop}
variable {y : MethodName} {bytes cc : ByteArray} {maxL nL n index pc : Nat} {ret : Option FieldType} {ws : List Cond} {rm : Room} {Ts : List Cond} {own C : String} {b : Addr} {As rest st0 : List Value} {ls : Array Slot}
variable {D : va_G} {cl : List vw_C} {A : Nat → Prop} {tys TYSc : List (ClassId × FieldType)} {ws0 WSc WR WS' : va_W} {H0 : Heap} {r : Int32}
theorem kBlind {D : va_G} {cl : List vw_C} {WS : va_W} {TYS : List (ClassId × FieldType)} {sz : Nat} {av : List Value} : FrameBlind (kPre D cl WS TYS sz av) :=
  fun a U g mk q => by obtain ⟨q0, q1, qP, qK, qD⟩ := q; exact ⟨q0, q1, qP, va_K.moved (u := U) (U := U.calling g mk a) (Vm.Alike.refl U.vm) qK, qD⟩
theorem kc_vi (S : CallFix p m c cc nL s args Ts own) (hM : Met l y ws rm (kPre D cl WSc TYSc H.size (.ref b :: As)) (kQi D cl WSc TYSc H.size r WS') 0 0 (va_A WSc H.size)) (cw : CallW R s args own C index y bytes maxL ret ws rm 0 0 n)
    (hK : va_K D cl tys s) (hP : va_P D cl ws0 H) (hD : va_D A ws0) (hS : va_S A H0 H locs) (hA : ∀ q : Nat, H0.size ≤ q → A q) (isC isR tC : List Nat) (hC : isC.map (fun i => ws0[i]?) = WSc.map some) (hR : isR.map (fun i => ws0[i]?) = WR.map some) (hnC : va_nd isC = true) (hnR : va_nd isR = true) (hdis : ∀ i ∈ isR, i ∉ isC) (hT : tC.filterMap (fun i => tys[i]?) = TYSc)
    (q0 ci : Nat) {fs : List Value} {qc : vw_C} (hc : cl[ci]? = some qc) (hcn : qc.1 = C) (he : WSc[q0]? = some (b, .inr (ci, fs))) (hn : As.length = n) (hsize : ls.size = nL) (hst : st0 = As.reverse ++ .ref b :: rest) (hW : (rest.map fun v => v.category).sum ≤ 8) (hdg : decode cc pc = .ok (.invokevirtual index, 3)) (hf : cells ≤ R.cells ∧ slots ≤ R.slots)
    (kk : ∀ (H1 : Heap) (locs1 : List Loc), va_P D cl (WR ++ WS') H1 → va_D A (WR ++ WS') → va_S A H0 H1 locs1 → W p l e R s m args below meth c H1 locs1 cells slots Q (F0 m (pc + 3) ls (.int r :: rest))) : W p l e R s m args below meth c H locs cells slots Q (F0 m pc ls st0) := by
  subst hcn
  have hPc := kP_cut hP isC hC
  have hDc := hD.sub isC hnC hC
  have hKc := hK.sub tC hT
  have hFc := va_free (wc := WSc) hD hS hA isC hC
  refine va_calli (va_runV (As := As) (rest := rest) S hM cw ⟨kBlind, va_recv hKc hPc hc he, fun U hU hW => ⟨rfl, by rw [hU], by rw [hU]; exact hPc, va_K.moved hW.alike hKc, hDc.weaken (fun _ _ _ _ => trivial)⟩⟩ rfl hn hsize hst (lv_room hW) hdg hf) hS (fun q _ h => hFc q h) hFc (fun r2 u t H1 locs ht hvm hw hB hz1 hk1 hS => ?_)
  obtain ⟨hP1, hK1, hD1⟩ := hB
  rw [ht] at hP1
  obtain ⟨hP, hD⟩ := va_join hP hD isC isR hC hR hnR hdis hk1 hFc hP1 hD1
  rw [show r2 = r from hw]
  exact kk H1 locs hP hD hS
theorem kc_vv (S : CallFix p m c cc nL s args Ts own) (hM : Met l y ws rm (kPre D cl WSc TYSc H.size (.ref b :: As)) (kQv D cl WSc TYSc H.size WS') 0 0 (va_A WSc H.size)) (cw : CallW R s args own C index y bytes maxL ret ws rm 0 0 n)
    (hK : va_K D cl tys s) (hP : va_P D cl ws0 H) (hD : va_D A ws0) (hS : va_S A H0 H locs) (hA : ∀ q : Nat, H0.size ≤ q → A q) (isC isR tC : List Nat) (hC : isC.map (fun i => ws0[i]?) = WSc.map some) (hR : isR.map (fun i => ws0[i]?) = WR.map some) (hnC : va_nd isC = true) (hnR : va_nd isR = true) (hdis : ∀ i ∈ isR, i ∉ isC) (hT : tC.filterMap (fun i => tys[i]?) = TYSc)
    (q0 ci : Nat) {fs : List Value} {qc : vw_C} (hc : cl[ci]? = some qc) (hcn : qc.1 = C) (he : WSc[q0]? = some (b, .inr (ci, fs))) (hn : As.length = n) (hsize : ls.size = nL) (hst : st0 = As.reverse ++ .ref b :: rest) (hW : (rest.map fun v => v.category).sum ≤ 8) (hdg : decode cc pc = .ok (.invokevirtual index, 3)) (hf : cells ≤ R.cells ∧ slots ≤ R.slots)
    (kk : ∀ (H1 : Heap) (locs1 : List Loc), va_P D cl (WR ++ WS') H1 → va_D A (WR ++ WS') → va_S A H0 H1 locs1 → W p l e R s m args below meth c H1 locs1 cells slots Q (F0 m (pc + 3) ls rest)) : W p l e R s m args below meth c H locs cells slots Q (F0 m pc ls st0) := by
  subst hcn
  have hPc := kP_cut hP isC hC
  have hDc := hD.sub isC hnC hC
  have hKc := hK.sub tC hT
  have hFc := va_free (wc := WSc) hD hS hA isC hC
  refine va_callv (va_runV (As := As) (rest := rest) S hM cw ⟨kBlind, va_recv hKc hPc hc he, fun U hU hW => ⟨rfl, by rw [hU], by rw [hU]; exact hPc, va_K.moved hW.alike hKc, hDc.weaken (fun _ _ _ _ => trivial)⟩⟩ rfl hn hsize hst (lv_room hW) hdg hf) hS (fun q _ h => hFc q h) hFc (fun u t H1 locs ht hvm hw hB hz1 hk1 hS => ?_)
  obtain ⟨hP1, hK1, hD1⟩ := hB
  rw [ht] at hP1
  obtain ⟨hP, hD⟩ := va_join hP hD isC isR hC hR hnR hdis hk1 hFc hP1 hD1
  exact kk H1 locs hP hD hS
theorem kc_si (S : CallFix p m c cc nL s args Ts own) (hM : Met l y ws rm (kPre D cl WSc TYSc H.size As) (kQi D cl WSc TYSc H.size r WS') 0 0 (va_A WSc H.size)) (cw : CallB R s args own index y bytes maxL ret ws rm 0 0 n ∧ (Cond.static y).before args s = true)
    (hK : va_K D cl tys s) (hP : va_P D cl ws0 H) (hD : va_D A ws0) (hS : va_S A H0 H locs) (hA : ∀ q : Nat, H0.size ≤ q → A q) (isC isR tC : List Nat) (hC : isC.map (fun i => ws0[i]?) = WSc.map some) (hR : isR.map (fun i => ws0[i]?) = WR.map some) (hnC : va_nd isC = true) (hnR : va_nd isR = true) (hdis : ∀ i ∈ isR, i ∉ isC) (hT : tC.filterMap (fun i => tys[i]?) = TYSc)
    (hn : As.length = n) (hsize : ls.size = nL) (hst : st0 = As.reverse ++ rest) (hW : (rest.map fun v => v.category).sum ≤ 8) (hdg : decode cc pc = .ok (.invokestatic index, 3)) (hf : cells ≤ R.cells ∧ slots ≤ R.slots)
    (kk : ∀ (H1 : Heap) (locs1 : List Loc), va_P D cl (WR ++ WS') H1 → va_D A (WR ++ WS') → va_S A H0 H1 locs1 → W p l e R s m args below meth c H1 locs1 cells slots Q (F0 m (pc + 3) ls (.int r :: rest))) : W p l e R s m args below meth c H locs cells slots Q (F0 m pc ls st0) := by
  have hPc := kP_cut hP isC hC
  have hDc := hD.sub isC hnC hC
  have hKc := hK.sub tC hT
  have hFc := va_free (wc := WSc) hD hS hA isC hC
  refine va_calli (va_runS (As := As) (rest := rest) S hM cw ⟨kBlind, fun U hU hW => ⟨rfl, by rw [hU], by rw [hU]; exact hPc, va_K.moved hW.alike hKc, hDc.weaken (fun _ _ _ _ => trivial)⟩⟩ rfl hn hsize hst (lv_room hW) hdg hf) hS (fun q _ h => hFc q h) hFc (fun r2 u t H1 locs ht hvm hw hB hz1 hk1 hS => ?_)
  obtain ⟨hP1, hK1, hD1⟩ := hB
  rw [ht] at hP1
  obtain ⟨hP, hD⟩ := va_join hP hD isC isR hC hR hnR hdis hk1 hFc hP1 hD1
  rw [show r2 = r from hw]
  exact kk H1 locs hP hD hS
end KC
section KN
variable {l : Launch} {y : MethodName} {ws ws' : List Cond} {rm : Room} {cc : ByteArray} {maxL mc ms : Nat} {D : va_G} {cl : List vw_C} {WS : va_W} {sz : Nat} {av : List Value} {S0 : Type} {F : S0 → va_W} {T : S0 → List (ClassId × FieldType)}
abbrev kQc (D : va_G) (cl : List vw_C) (WS : va_W) (sz : Nat) {S0 : Type} (F : S0 → va_W) (T : S0 → List (ClassId × FieldType)) : Array Value → State → Outcome → State → Prop := va_Qv (fun (_ : S0) => True) (fun u t => va_P D cl (F u) t.heap ∧ va_K D cl (T u) t ∧ va_D (va_A WS sz) (F u)) (va_A WS sz)
theorem kM_c (hy : plainName y.cls = true) (hn : y.name = "<init>") (hw : ws = Cond.code y cc maxL none :: ws') (hlen : (lg_sl av).length ≤ maxL)
    (body : ∀ (p : Program) (e : Env) (s : State) (m : MethodId) (below : List Frame) (meth : Method) (c : Code) (A : Nat → Prop) (Q : State → Prop) (ls : Array Slot) (H : Heap) (locs : List Loc), CallFix p m c cc maxL s av.toArray ws y.cls → meth.name = "<init>" → va_P D cl WS H → va_K D cl [] s → va_D A WS → va_S A s.heap H locs → (∀ q : Nat, s.heap.size ≤ q → A q) → lv_has ls maxL (lv_args 0 av) →
      (∀ (u : S0) (H : Heap) (locs : List Loc) (pc : Nat) (ls : Array Slot), va_P D cl (F u) H → va_K D cl (T u) s → va_D A (F u) → va_S A s.heap H locs → decode cc pc = .ok (.return_, 1) → W p l e rm s m av.toArray below meth c H locs mc ms Q (F0 m pc ls [])) →
      W p l e rm s m av.toArray below meth c H locs 0 0 Q (F0 m 0 ls [])) : Met l y ws rm (kPre D cl WS [] sz av) (kQc D cl WS sz F T) mc ms (va_A WS sz) := by
  refine Met.ofW (cc := cc) (maxL := maxL) (ret := none) hy hw ?_
  intro p e s m args below meth c s₁ B hml hv
  obtain ⟨rfl, hsz, hP, hK, hD0⟩ := hv
  subst hsz
  rw [lg_entry_eq]
  exact body p e s m below meth c (va_A WS s.heap.size) _ _ _ _ ⟨B.exec, B.bytes, hml, findClass_of_methodNamed B.named, atoms_spec (ws := ws) B.pre⟩ ((name_of_methodNamed B.named B.method).1.trans hn) hP hK hD0.self va_S.rf (fun q h => Or.inr h) (lv_entry av hlen) (fun u H locs pc ls hP' hK' hD' hS' hd => W.vret B.exec B.bytes B.returns (fun t ht hW => ⟨⟨u, rfl, trivial, by rw [ht]; exact hP', va_K.moved hW.alike hK', hD'⟩, hS'.F ht⟩) hS'.2.2 hd B.notSynchronized)
end KN
theorem kCl_b {D : va_G} {cl : List vw_C} {tys : List (ClassId × FieldType)} {s : State} {c c' : ClassId} (hK : va_K D cl tys s) (i j : Nat) (hi : tys[i]? = some (c, .byte)) (hj : tys[j]? = some (c', .byte)) : c = c' :=
  Option.some.inj ((show s.vm.findClass _ = some c from (hK.2 i _ hi).2).symm.trans (show s.vm.findClass _ = some c' from (hK.2 j _ hj).2))
theorem kCl_i {D : va_G} {cl : List vw_C} {tys : List (ClassId × FieldType)} {s : State} {c c' : ClassId} (hK : va_K D cl tys s) (i j : Nat) (hi : tys[i]? = some (c, .int)) (hj : tys[j]? = some (c', .int)) : c = c' :=
  Option.some.inj ((show s.vm.findClass _ = some c from (hK.2 i _ hi).2).symm.trans (show s.vm.findClass _ = some c' from (hK.2 j _ hj).2))
end
section
def ix (p : Nat) : Nat := p / 56 * 64 + 8 + p % 56
def crc1 (x : Int32) : Int32 := if x &&& nI 1 = 0 then ush x 1 else ush x 1 ^^^ (-306674912)
def crcN (x : Int32) : Nat → Int32
  | 0 => x
  | k + 1 => crc1 (crcN x k)
def crcB (vo : Nat → Int32) (c0 : Int32) (st : Nat) : Nat → Int32
  | 0 => c0
  | k + 1 => crcN (crcB vo c0 st k ^^^ (vo (st + k) &&& nI 255)) 8
def sumB (vo : Nat → Int32) (st : Nat) : Int32 := crcB vo (crcB vo (-1) st 4) (st + 8) 56 ^^^ (-1)
def wbH (vo : Nat → Int32) (b u : Nat) : Nat → Int32 := upd (upd (upd vo (b * 64) (bn (ush (nI b) 8))) (b * 64 + 1) (bn (nI b))) (b * 64 + 2) (bn (nI u))
def wbS (vo : Nat → Int32) (st : Nat) (sm : Int32) : Nat → (Nat → Int32)
  | 0 => vo
  | k + 1 => upd (wbS vo st sm k) (st + 4 + k) (bn (ush sm (24 - 8 * k)))
def wbV (vo : Nat → Int32) (b u : Nat) : Nat → Int32 := wbS (wbH vo b u) (b * 64) (sumB (wbH vo b u) (b * 64)) 4
def apV (vo : Nat → Int32) (np : Nat) (v : Int32) : Nat → Int32 := if (np + 1) % 56 = 0 then wbV (upd vo (ix np) (bn v)) ((np + 1) / 56 - 1) 56 else upd vo (ix np) (bn v)
def apL (vo : Nat → Int32) (np : Nat) (tp : Nat → Int32) : Nat → (Nat → Int32)
  | 0 => vo
  | k + 1 => apV (apL vo np tp k) (np + k) (tp k)
def apH (vo : Nat → Int32) (np : Nat) (st ixd : Int32) (tl : Nat) : Nat → Int32 :=
  apV (apV (apV (apV (apV (apV vo np st) (np + 1) (ush ixd 8)) (np + 2) ixd) (np + 3) (ush (nI tl) 8)) (np + 4) (nI tl)) (np + 5) (nI 90)
def apR (vo : Nat → Int32) (np : Nat) (st ixd : Int32) (tp : Nat → Int32) (tl : Nat) : Nat → Int32 := apL (apH vo np st ixd tl) (np + 6) tp tl
def ntB (vo : Nat → Int32) (np : Nat) : Nat → Int32 := if vo (np / 56 * 64 + 3) = -1 then upd vo (np / 56 * 64 + 3) (bn (nI (np % 56))) else vo
def fdT (tp : Nat → Int32) (tl : Nat) (v : Int32) : Nat → (Nat → Int32)
  | 0 => tp
  | k + 1 => upd (fdT tp tl v k) (tl + k) (bn (ush v (24 - 8 * k)))
def gd (np : Nat) (sb : Nat → Nat) (b : Nat) : Bool := decide (b < np / 56) && decide (sb b = 0)
def allG (np : Nat) (sb : Nat → Nat) : Nat → Nat → Bool
  | 0, _ => true
  | n + 1, b => gd np sb b && allG np sb n (b + 1)
def isR (np : Nat) (sb rp rl : Nat → Nat) (k : Nat) : Bool := allG np sb ((rp k + rl k - 1) / 56 + 1 - rp k / 56) (rp k / 56)
def rOf (rd : Nat → Bool) (i : Int32) : Nat → Nat → Nat → Int32
  | 0, _, _ => -1
  | n + 1, k, q => if rd k = true then (if nI q = i then nI k else rOf rd i n (k + 1) (q + 1)) else rOf rd i n (k + 1) q
def cntB (rd : Nat → Bool) : Nat → Nat
  | 0 => 0
  | n + 1 => if rd n = true then cntB rd n + 1 else cntB rd n
def vfR (np : Nat) (sb : Nat → Nat) : Nat → Nat → Int32
  | 0, _ => -1
  | n + 1, b => if gd np sb b = true then vfR np sb n (b + 1) else nI b
def isW (np : Nat) (x : Int32) : Bool := decide (0 ≤ x.toInt) && decide (x.toInt < ((np / 56 : Nat) : Int))
def inB (x : Int32) : Bool := decide (0 ≤ x.toInt) && decide (x.toInt < 64)
def goodX (np : Nat) (sb : Nat → Nat) (x : Int32) : Bool := isW np x && decide (sb x.toInt.toNat = 0)
def nG (np : Nat) (sb : Nat → Nat) (b : Nat) : Bool := !gd np sb b
def recB (vo : Nat → Int32) (rp rl : Nat → Nat) (r : Nat) (x : Int32) : Int32 := if 0 ≤ x.toInt ∧ x.toInt < ((rl r - 6 : Nat) : Int) then vo (ix (rp r + (6 + x.toInt.toNat))) &&& nI 255 else -1
def bof (np : Nat) (vo : Nat → Int32) (x i : Int32) : Int32 := if isW np x = true ∧ inB i = true then vo (x.toInt.toNat * 64 + i.toInt.toNat) &&& nI 255 else -1
def vfX (np : Nat) (sb : Nat → Nat) (x : Int32) : Int32 := vfR np sb (np / 56 - x.toInt.toNat) x.toInt.toNat
def cntX (tl np rc : Nat) (rp rl sb : Nat → Nat) (x : Int32) : Int32 :=
  if x = nI 0 then nI tl else if x = nI 1 then nI rc else if x = nI 2 then nI (np / 56) else if x = nI 3 then nI (np % 56) else if x = nI 4 then nI (cntB (isR np sb rp rl) rc) else if x = nI 5 then nI (cntB (nG np sb) (np / 56)) else if x = nI 6 then nI (4480 - np) else -1
def rdW (vo : Nat → Int32) (rp rl : Nat → Nat) (r : Nat) (x : Int32) : Int32 :=
  if x.toInt < 0 then -1 else if x = nI 0 then vo (ix (rp r + 0)) &&& nI 255 else if x = nI 1 then ((vo (ix (rp r + 1)) &&& nI 255) <<< (nI 8 &&& 31)) ||| (vo (ix (rp r + 2)) &&& nI 255) else if x = nI 2 then nI (rl r - 6) else if x = nI 3 then nI (rp r / 56) else recB vo rp rl r (x - nI 4)
theorem bT {b : Bool} (h : ¬ b = false) : b = true := by cases b <;> simp_all
theorem bI_t {b : Bool} (h : b = true) : nI 1 = bI b := by rw [h]; rfl
theorem bI_f {b : Bool} (h : b = false) : nI 0 = bI b := by rw [h]; rfl
theorem nI_tn {j : Nat} (h : j < 2 ^ 31) : (nI j).toInt.toNat = j := by rw [nI_toInt h]; rfl
theorem ix_lt {q : Nat} (h : q < 4480) : ix q < 5120 := by unfold ix; omega
theorem isW_of {np : Nat} {x : Int32} (h : isW np x = true) : ∃ j : Nat, j < np / 56 ∧ x = nI j := by
  simp only [isW, Bool.and_eq_true, decide_eq_true_eq] at h
  obtain ⟨j, hj, rfl⟩ := kx_of h.1
  rw [nI_toInt hj] at h
  exact ⟨j, by omega, rfl⟩
theorem isW_n {np j : Nat} (h : j < 2 ^ 31) : isW np (nI j) = decide (j < np / 56) := by
  rw [isW, nI_toInt h, decide_eq_true (show (0 : Int) ≤ j by omega), Bool.true_and]
  exact decide_eq_decide.mpr (by omega)
theorem inB_of {x : Int32} (h : inB x = true) : ∃ j : Nat, j < 64 ∧ x = nI j := by
  simp only [inB, Bool.and_eq_true, decide_eq_true_eq] at h
  obtain ⟨j, hj, rfl⟩ := kx_of h.1
  rw [nI_toInt hj] at h
  exact ⟨j, by omega, rfl⟩
theorem inB_n {j : Nat} (h : j < 2 ^ 31) : inB (nI j) = decide (j < 64) := by
  rw [inB, nI_toInt h, decide_eq_true (show (0 : Int) ≤ j by omega), Bool.true_and]
  exact decide_eq_decide.mpr (by omega)
theorem goodX_n {np : Nat} {sb : Nat → Nat} {j : Nat} (h : j < 2 ^ 31) : goodX np sb (nI j) = gd np sb j := by
  rw [goodX, isW_n h, nI_tn h, gd]
theorem goodX_f {np : Nat} {sb : Nat → Nat} {x : Int32} (h : isW np x = false) : goodX np sb x = false := by rw [goodX, h]; rfl
theorem allG_step {np : Nat} {sb : Nat → Nat} {T k : Nat} (h : k < T) : allG np sb (T - k) k = (gd np sb k && allG np sb (T - (k + 1)) (k + 1)) := by
  rw [show T - k = (T - (k + 1)) + 1 by omega, allG]
theorem rOf_step {rd : Nat → Bool} {i : Int32} {T k q : Nat} (h : k < T) : rOf rd i (T - k) k q = if rd k = true then (if nI q = i then nI k else rOf rd i (T - (k + 1)) (k + 1) (q + 1)) else rOf rd i (T - (k + 1)) (k + 1) q := by
  rw [show T - k = (T - (k + 1)) + 1 by omega, rOf]
theorem vfR_step {np : Nat} {sb : Nat → Nat} {T k : Nat} (h : k < T) : vfR np sb (T - k) k = if gd np sb k = true then vfR np sb (T - (k + 1)) (k + 1) else nI k := by
  rw [show T - k = (T - (k + 1)) + 1 by omega, vfR]
theorem cntB_le (rd : Nat → Bool) : ∀ n, cntB rd n ≤ n := by
  intro n
  induction n with
  | zero => exact Nat.le_refl 0
  | succ n ih => rw [cntB]; split <;> omega
theorem recB_n {vo : Nat → Int32} {rp rl : Nat → Nat} {r j : Nat} (h : j < rl r - 6) (h2 : j < 2 ^ 31) : recB vo rp rl r (nI j) = (vo (ix (rp r + (6 + j))) &&& nI 255) := by
  rw [recB, nI_toInt h2, if_pos ⟨by omega, by omega⟩]; rfl
theorem bof_t {np : Nat} {vo : Nat → Int32} {x i : Int32} (h1 : isW np x = true) (h2 : inB i = true) : bof np vo x i = (vo (x.toInt.toNat * 64 + i.toInt.toNat) &&& nI 255) := by rw [bof, if_pos ⟨h1, h2⟩]
theorem bof_f {np : Nat} {vo : Nat → Int32} {x i : Int32} (h : isW np x = false ∨ inB i = false) : bof np vo x i = -1 := by
  rw [bof, if_neg]
  rintro ⟨h1, h2⟩
  rcases h with h | h
  · rw [h] at h1; cases h1
  · rw [h] at h2; cases h2
theorem kx_max (x : Int32) : x.toInt.toNat < 2147483648 := by
  by_cases h : 0 ≤ x.toInt
  · obtain ⟨j, hj, rfl⟩ := kx_of h
    rw [nI_tn hj]; omega
  · omega
theorem vmax (x : Int32) : (if x < nI 0 then nI 0 else x) = nI x.toInt.toNat := by
  split
  · next h => rw [nI_0, kx_lt0] at h; rw [show x.toInt.toNat = 0 by omega]
  · next h =>
    rw [nI_0, kx_lt0] at h
    obtain ⟨j, hj, rfl⟩ := kx_of (x := x) (by omega)
    rw [nI_tn hj]
theorem kx_sw (x : Int32) (n : Nat) : (x.toInt < 0 ∨ (n : Int) ≤ x.toInt) ∨ ∃ j : Nat, j < n ∧ x = nI j := by
  by_cases h : x.toInt < 0 ∨ (n : Int) ≤ x.toInt
  · exact Or.inl h
  · obtain ⟨j, hj, rfl⟩ := kx_of (x := x) (by omega)
    rw [nI_toInt hj] at h
    exact Or.inr ⟨j, by omega, rfl⟩
theorem nI_ne {x : Int32} {n j : Nat} (hn : n < 2 ^ 31) (h : x.toInt < 0 ∨ (n : Int) ≤ x.toInt) (hj : j < n) : ¬ x = nI j := by
  rintro rfl
  rw [nI_toInt (by omega)] at h
  omega
theorem cntX_out {tl np rc : Nat} {rp rl sb : Nat → Nat} {x : Int32} (h : x.toInt < 0 ∨ ((7 : Nat) : Int) ≤ x.toInt) : cntX tl np rc rp rl sb x = -1 := by
  rw [cntX, if_neg (nI_ne (by decide) h (by decide)), if_neg (nI_ne (by decide) h (by decide)), if_neg (nI_ne (by decide) h (by decide)), if_neg (nI_ne (by decide) h (by decide)), if_neg (nI_ne (by decide) h (by decide)), if_neg (nI_ne (by decide) h (by decide)), if_neg (nI_ne (by decide) h (by decide))]
theorem nI_nm1 {j : Nat} (h : j < 2 ^ 31) : ¬ nI j = -1 := by
  intro h9
  have h8 : (nI j).toInt = (-1 : Int32).toInt := by rw [h9]
  rw [nI_toInt h] at h8
  have h7 : (-1 : Int32).toInt = -1 := by decide
  omega
theorem rdW_lo {vo : Nat → Int32} {rp rl : Nat → Nat} {r : Nat} {x : Int32} (h : x.toInt < 0) : rdW vo rp rl r x = -1 := by rw [rdW, if_pos h]
theorem rdW_hi {vo : Nat → Int32} {rp rl : Nat → Nat} {r : Nat} {x : Int32} (h : 4 ≤ x.toInt) : rdW vo rp rl r x = recB vo rp rl r (x - nI 4) := by
  have h4 : x.toInt < 0 ∨ ((4 : Nat) : Int) ≤ x.toInt := Or.inr h
  rw [rdW, if_neg (by omega), if_neg (nI_ne (by decide) h4 (by decide)), if_neg (nI_ne (by decide) h4 (by decide)), if_neg (nI_ne (by decide) h4 (by decide)), if_neg (nI_ne (by decide) h4 (by decide))]
def iniV : Nat → (Nat → Int32)
  | 0 => fun _ => 0
  | k + 1 => upd (iniV k) (k * 64 + 3) (-1)
end
section
def lb (x : Int32) : Nat := x.toBitVec.toNat % 256
theorem lb_lt (x : Int32) : lb x < 256 := Nat.mod_lt _ (by decide)
theorem and255 (x : Int32) : x &&& nI 255 = nI (lb x) := pk_and x 8 (by decide)
def aS (sp : Nat → Int32) (np : Nat) : Nat → Int32 := if np % 56 = 0 then upd sp (np / 56) (-1) else sp
def aG (fi : Nat → Nat) (np : Nat) : Nat → Nat := if np % 56 = 0 then updN fi (np / 56) 255 else fi
def aF (fi : Nat → Nat) (np : Nat) : Nat → Nat := if aG fi np (np / 56) = 255 then updN (aG fi np) (np / 56) (np % 56) else aG fi np
def aU (mu : Nat → Nat) (np : Nat) : Nat → Nat := if np % 56 + 1 = 56 then updN mu (np / 56) (np % 56 + 1) else mu
theorem aG_lt {fi : Nat → Nat} {np : Nat} (h : fi (np / 56) < 256) : aG fi np (np / 56) < 256 := by
  unfold aG updN
  split
  · simp
  · exact h
def fdM (mt : Nat → Nat) (tl : Nat) (v : Int32) : Nat → (Nat → Nat)
  | 0 => mt
  | k + 1 => updN (fdM mt tl v k) (tl + k) (lb (v >>> (nI (24 - 8 * k) &&& 31)))
def lD (md : Nat → Nat) (np : Nat) (mt : Nat → Nat) : Nat → (Nat → Nat)
  | 0 => md
  | k + 1 => updN (lD md np mt k) (np + k) (lb (nI (mt k)))
def lU (mu : Nat → Nat) (np : Nat) : Nat → (Nat → Nat)
  | 0 => mu
  | k + 1 => aU (lU mu np k) (np + k)
def lG (fi : Nat → Nat) (np : Nat) : Nat → (Nat → Nat)
  | 0 => fi
  | k + 1 => aG (lG fi np k) (np + k)
def lS (sp : Nat → Int32) (np : Nat) : Nat → (Nat → Int32)
  | 0 => sp
  | k + 1 => aS (lS sp np k) (np + k)
def lY (my : Nat → Nat) (kp : Nat) (mt : Nat → Nat) : Nat → (Nat → Nat)
  | 0 => my
  | k + 1 => updN (lY my kp mt k) (kp + k) (mt k)
def lO (mo : Nat → Nat) (r np : Nat) : Nat → (Nat → Nat)
  | 0 => mo
  | k + 1 => updN (lO mo r np k) r ((np + k) / 56)
def hD6 (md : Nat → Nat) (np : Nat) (sv iv : Int32) (tl : Nat) : Nat → Nat :=
  updN (updN (updN (updN (updN (updN md np (lb sv)) (np + 1) (lb (iv >>> (nI 8 &&& 31)))) (np + 2) (lb iv)) (np + 3) (lb (nI tl >>> (nI 8 &&& 31)))) (np + 4) (lb (nI tl))) (np + 5) (lb (nI 90))
def cz (md : Nat → Nat) (np : Nat) : Nat → (Nat → Nat)
  | 0 => md
  | n + 1 => updN (cz md np n) (np + n) 0
def plN (mu fi md : Nat → Nat) (b i : Nat) : Nat := if i = 0 then b / 256 else if i = 1 then b % 256 else if i = 2 then mu b else if i = 3 then fi b else md (56 * b + i - 8)
def sumM (mu fi md : Nat → Nat) (b : Nat) : Nat → Int32
  | 0 => -1
  | i + 1 => if 3 < i ∧ i < 8 then sumM mu fi md b i else crcN (sumM mu fi md b i ^^^ nI (plN mu fi md b i)) 8
def sumX (mu fi md : Nat → Nat) (b : Nat) : Int32 := sumM mu fi md b 64 ^^^ (-1)
def pmN (mu fi md : Nat → Nat) (b i : Nat) : Nat := if 3 < i ∧ i < 8 then lb (sumX mu fi md b >>> (nI (8 * (7 - i)) &&& 31)) else plN mu fi md b i
def byN (mu fi md : Nat → Nat) (sp : Nat → Int32) (sq : Nat → Nat) (b i : Nat) : Nat := if sp b = nI i then lb (nI (pmN mu fi md b i + sq b)) else pmN mu fi md b i
def byM (np : Nat) (mu fi md : Nat → Nat) (sp : Nat → Int32) (sq : Nat → Nat) (x i : Int32) : Int32 := if isW np x = true ∧ inB i = true then nI (byN mu fi md sp sq x.toInt.toNat i.toInt.toNat) else -1
def rdM (ms mi ml mf mb my : Nat → Nat) (r : Nat) (x : Int32) : Int32 :=
  if x = nI 0 then nI (ms r) else if x = nI 1 then nI (mi r) else if x = nI 2 then nI (ml r) else if x = nI 3 then nI (mf r) else if 3 < x.toInt ∧ x.toInt - 4 < ml r then nI (my (mb r + (x.toInt.toNat - 4))) else -1
theorem byM_t {np : Nat} {mu fi md : Nat → Nat} {sp : Nat → Int32} {sq : Nat → Nat} {j q : Nat} (h1 : j < np / 56) (h2 : q < 64) (hnp : np ≤ 4480) : byM np mu fi md sp sq (nI j) (nI q) = nI (byN mu fi md sp sq j q) := by
  rw [byM, isW_n (by omega), inB_n (by omega), nI_tn (by omega), nI_tn (by omega), if_pos ⟨decide_eq_true h1, decide_eq_true h2⟩]
theorem byM_f {np : Nat} {mu fi md : Nat → Nat} {sp : Nat → Int32} {sq : Nat → Nat} {x i : Int32} (h : isW np x = false ∨ inB i = false) : byM np mu fi md sp sq x i = -1 := by
  rw [byM, if_neg]
  rintro ⟨h1, h2⟩
  rcases h with h | h
  · rw [h] at h1; cases h1
  · rw [h] at h2; cases h2
theorem rdM_hi {ms mi ml mf mb my : Nat → Nat} {r : Nat} {x : Int32} (h : 4 ≤ x.toInt) (h2 : x.toInt - 4 < ml r) : rdM ms mi ml mf mb my r x = nI (my (mb r + (x.toInt.toNat - 4))) := by
  have h4 : x.toInt < 0 ∨ ((4 : Nat) : Int) ≤ x.toInt := Or.inr h
  rw [rdM, if_neg (nI_ne (by decide) h4 (by decide)), if_neg (nI_ne (by decide) h4 (by decide)), if_neg (nI_ne (by decide) h4 (by decide)), if_neg (nI_ne (by decide) h4 (by decide)), if_pos ⟨by omega, h2⟩]
theorem rdM_no {ms mi ml mf mb my : Nat → Nat} {r : Nat} {x : Int32} (h : x.toInt < 0 ∨ 4 ≤ x.toInt) (h2 : ¬ (3 < x.toInt ∧ x.toInt - 4 < ml r)) : rdM ms mi ml mf mb my r x = -1 := by
  have h4 : x.toInt < 0 ∨ ((4 : Nat) : Int) ≤ x.toInt := h
  rw [rdM, if_neg (nI_ne (by decide) h4 (by decide)), if_neg (nI_ne (by decide) h4 (by decide)), if_neg (nI_ne (by decide) h4 (by decide)), if_neg (nI_ne (by decide) h4 (by decide)), if_neg h2]
theorem c1_one {c : Int32} : c &&& nI 1 = nI 1 ↔ ¬ c &&& nI 1 = 0 := by
  have h := pk_and c (m := nI 1) 1 (by decide)
  rw [h, ← nI_0, nI_eq (by omega) (by omega), nI_eq (by omega) (by omega)]
  omega
theorem vpos {x : Int32} (h : 0 ≤ x.toInt) : x = nI x.toInt.toNat := by
  obtain ⟨j, hj, rfl⟩ := kx_of h
  rw [nI_tn hj]
theorem rdM_q {ms mi ml mf mb my : Nat → Nat} {r q : Nat} (h : 4 ≤ q ∧ q < 2 ^ 31) : rdM ms mi ml mf mb my r (nI q) = if q - 4 < ml r then nI (my (mb r + (q - 4))) else -1 := by
  have e := nI_toInt h.2
  by_cases h2 : q - 4 < ml r
  · rw [rdM_hi (by omega) (by omega), if_pos h2, nI_tn h.2]
  · rw [rdM_no (by omega) (by omega), if_neg h2]
end
section
abbrev wB (h a1 a2 a3 a4 a5 a6 : Nat) (cb ci : ClassId) (tp : Nat → Int32) (tl : Nat) (vo : Nat → Int32) (np : Nat) (rp rl : Nat → Nat) (rc : Nat) (sb sa : Nat → Nat) : va_W :=
  [(h, .inr (0, [.ref a1, .int (nI tl), .ref a2, .int (nI np), .ref a3, .ref a4, .int (nI rc), .ref a5, .ref a6])), (a1, .inl (cb, 300, .inl tp)), (a2, .inl (cb, 5120, .inl vo)), (a3, .inl (ci, 200, .inl (nA rp))), (a4, .inl (ci, 200, .inl (nA rl))), (a5, .inl (ci, 80, .inl (nA sb))), (a6, .inl (ci, 80, .inl (nA sa)))]
abbrev tB (cb ci : ClassId) : List (ClassId × FieldType) := [(cb, .byte), (ci, .int)]
set_option maxHeartbeats 4000000 in
set_option maxRecDepth 100000 in
theorem c_blocksWritten (l : Launch) (dC : Nat → ClassId) (dI : Nat → Nat → Nat) (h a1 a2 a3 a4 a5 a6 : Nat) (cb ci : ClassId) (tp : Nat → Int32) (tl : Nat) (vo : Nat → Int32) (np : Nat) (rp rl : Nat → Nat) (rc : Nat) (sb sa : Nat → Nat) (sz : Nat) (hnp : np ≤ 4480) : Met l yX0_blocksWritten wsX0_blocksWritten ({ frames := 0, cells := 0, slots := 0, locals := 0 }) (kPre (dC, dI) vwCl (wB h a1 a2 a3 a4 a5 a6 cb ci tp tl vo np rp rl rc sb sa) (tB cb ci) sz [.ref h]) (kQi (dC, dI) vwCl (wB h a1 a2 a3 a4 a5 a6 cb ci tp tl vo np rp rl rc sb sa) (tB cb ci) sz (nI (np / 56)) (wB h a1 a2 a3 a4 a5 a6 cb ci tp tl vo np rp rl rc sb sa)) 0 0 (va_A (wB h a1 a2 a3 a4 a5 a6 cb ci tp tl vo np rp rl rc sb sa) sz) := by
  refine kM_i (cc := cX0_blocksWritten) (maxL := 1) (by decide) rfl (Nat.le_of_ble_eq_true rfl) ?_
  intro p e s m below meth c A Q ls H locs S hP hK hD hS hA hl hret
  obtain ⟨hx, hb, hml, hown, hts⟩ := id S
  have hin0 : ∀ w ∈ u_ws RX0 TX0 9, w ∈ wsX0_blocksWritten := fun _ h => List.mem_cons_of_mem _ (List.mem_append_right _ h)
  have lkf44 := hts (.fieldLink RX0 44 "BlockTape" "nextPlace" "I") (by decide +kernel)
  have hl : lv_has ls 1 [(0, .ref h)] := hl
  refine lv_aload_n hx hb dX0_blocksWritten_0 rfl (lv_at hl 0 rfl) ?_
  refine va_get (D := (dC, dI)) (ci := 0) (v := .int (nI np)) (C := RX0) (T := TX0) (N := 9) hx hb hts hin0 hown hK hP 0 rfl rfl 3 (by decide) lkf44 (fun _ h9 => h9) rfl dX0_blocksWritten_1 ?_
  refine lv_bipush (v := nI 56) hx hb dX0_blocksWritten_4 (by decide) ?_
  refine lv_idiv hx hb dX0_blocksWritten_6 (by decide) ?_
  refine kv_top (show _ = nI (np / 56) from pk_div (by omega) (by omega) (by omega)) ?_
  exact hret _ _ _ _ hP hD hS dX0_blocksWritten_7
set_option maxHeartbeats 4000000 in
set_option maxRecDepth 100000 in
theorem c_placesLeft (l : Launch) (dC : Nat → ClassId) (dI : Nat → Nat → Nat) (h a1 a2 a3 a4 a5 a6 : Nat) (cb ci : ClassId) (tp : Nat → Int32) (tl : Nat) (vo : Nat → Int32) (np : Nat) (rp rl : Nat → Nat) (rc : Nat) (sb sa : Nat → Nat) (sz : Nat) (hnp : np ≤ 4480) : Met l yX0_placesLeft wsX0_placesLeft ({ frames := 0, cells := 0, slots := 0, locals := 0 }) (kPre (dC, dI) vwCl (wB h a1 a2 a3 a4 a5 a6 cb ci tp tl vo np rp rl rc sb sa) (tB cb ci) sz [.ref h]) (kQi (dC, dI) vwCl (wB h a1 a2 a3 a4 a5 a6 cb ci tp tl vo np rp rl rc sb sa) (tB cb ci) sz (nI (4480 - np)) (wB h a1 a2 a3 a4 a5 a6 cb ci tp tl vo np rp rl rc sb sa)) 0 0 (va_A (wB h a1 a2 a3 a4 a5 a6 cb ci tp tl vo np rp rl rc sb sa) sz) := by
  refine kM_i (cc := cX0_placesLeft) (maxL := 1) (by decide) rfl (Nat.le_of_ble_eq_true rfl) ?_
  intro p e s m below meth c A Q ls H locs S hP hK hD hS hA hl hret
  obtain ⟨hx, hb, hml, hown, hts⟩ := id S
  have hin0 : ∀ w ∈ u_ws RX0 TX0 9, w ∈ wsX0_placesLeft := fun _ h => List.mem_cons_of_mem _ (List.mem_append_right _ h)
  have lkf44 := hts (.fieldLink RX0 44 "BlockTape" "nextPlace" "I") (by decide +kernel)
  have hl : lv_has ls 1 [(0, .ref h)] := hl
  refine lv_sipush (v := nI 4480) hx hb dX0_placesLeft_0 (by decide) ?_
  refine lv_aload_n hx hb dX0_placesLeft_3 rfl (lv_at hl 0 rfl) ?_
  refine va_get (D := (dC, dI)) (ci := 0) (v := .int (nI np)) (C := RX0) (T := TX0) (N := 9) hx hb hts hin0 hown hK hP 0 rfl rfl 3 (by decide) lkf44 (fun _ h9 => h9) rfl dX0_placesLeft_4 ?_
  refine lv_isub hx hb dX0_placesLeft_7 ?_
  refine kv_top (show _ = nI (4480 - np) from pk_sub (by omega)) ?_
  exact hret _ _ _ _ hP hD hS dX0_placesLeft_8
set_option maxHeartbeats 4000000 in
set_option maxRecDepth 100000 in
theorem c_isWritten (l : Launch) (dC : Nat → ClassId) (dI : Nat → Nat → Nat) (h a1 a2 a3 a4 a5 a6 : Nat) (cb ci : ClassId) (tp : Nat → Int32) (tl : Nat) (vo : Nat → Int32) (np : Nat) (rp rl : Nat → Nat) (rc : Nat) (sb sa : Nat → Nat) (sz : Nat) (x : Int32) (hnp : np ≤ 4480) : Met l yX0_isWritten wsX0_isWritten ({ frames := 1, cells := 0, slots := 0, locals := 20 }) (kPre (dC, dI) vwCl (wB h a1 a2 a3 a4 a5 a6 cb ci tp tl vo np rp rl rc sb sa) (tB cb ci) sz [.ref h, .int x]) (kQi (dC, dI) vwCl (wB h a1 a2 a3 a4 a5 a6 cb ci tp tl vo np rp rl rc sb sa) (tB cb ci) sz (bI (isW np x)) (wB h a1 a2 a3 a4 a5 a6 cb ci tp tl vo np rp rl rc sb sa)) 0 0 (va_A (wB h a1 a2 a3 a4 a5 a6 cb ci tp tl vo np rp rl rc sb sa) sz) := by
  refine kM_z (cc := cX0_isWritten) (maxL := 2) (by decide) rfl (Nat.le_of_ble_eq_true rfl) (bI_n _) ?_
  intro p e s m below meth c A Q ls H locs S hP hK hD hS hA hl hret
  obtain ⟨hx, hb, hml, hown, hts⟩ := id S
  have hl : lv_has ls 2 [(0, .ref h), (1, .int x)] := hl
  refine lv_iload_n hx hb dX0_isWritten_0 rfl (lv_at hl 1 rfl) ?_
  refine lv_if_lt (tgt := 16) hx hb dX0_isWritten_1 (by decide) (fun c_1 => ?_) (fun c_1 => ?_)
  · have c_1 := (kx_lt0).mp c_1
    refine lv_iconst (v := nI 0) hx hb dX0_isWritten_16 (by decide) ?_
    refine kv_top (show _ = bI (isW np x) from (bI_f (by simp [isW]; omega))) ?_
    exact hret _ _ _ _ hP hD hS dX0_isWritten_17
  · have c_1 := kmt (kx_lt0).mpr c_1
    refine lv_iload_n hx hb dX0_isWritten_4 rfl (lv_at hl 1 rfl) ?_
    refine lv_aload_n hx hb dX0_isWritten_5 rfl (lv_at hl 0 rfl) ?_
    refine kc_vi (WR := []) (As := []) (rest := [.int x]) ⟨hx, hb, hml, hown, hts⟩ (c_blocksWritten l dC dI h a1 a2 a3 a4 a5 a6 cb ci tp tl vo np rp rl rc sb sa H.size (by omega)) (cwV 0 hts gX0_isWritten_X0_blocksWritten rfl rfl rfl (by decide +kernel) ⟨Nat.le_of_ble_eq_true rfl, Nat.le_of_ble_eq_true rfl⟩) hK hP hD hS hA [0, 1, 2, 3, 4, 5, 6] [] [0, 1] rfl rfl (by decide) (by decide) (by decide) rfl 0 0 rfl rfl rfl rfl hl.1 rfl (Nat.le_of_ble_eq_true rfl) dX0_isWritten_6 ⟨Nat.zero_le _, Nat.zero_le _⟩ (fun H locs hP hD hS => ?_)
    have hP : va_P (dC, dI) vwCl (wB h a1 a2 a3 a4 a5 a6 cb ci tp tl vo np rp rl rc sb sa) H := hP
    have hD : va_D A (wB h a1 a2 a3 a4 a5 a6 cb ci tp tl vo np rp rl rc sb sa) := hD
    refine lv_icmp_ge (tgt := 16) hx hb dX0_isWritten_9 (by decide) (fun c_9 => ?_) (fun c_9 => ?_)
    · have c_9 := (kx_ge (by omega)).mp c_9
      refine lv_iconst (v := nI 0) hx hb dX0_isWritten_16 (by decide) ?_
      refine kv_top (show _ = bI (isW np x) from (bI_f (by simp [isW]; omega))) ?_
      exact hret _ _ _ _ hP hD hS dX0_isWritten_17
    · have c_9 := kmt (kx_ge (by omega)).mpr c_9
      refine lv_iconst (v := nI 1) hx hb dX0_isWritten_12 (by decide) ?_
      refine lv_goto (tgt := 17) hx hb dX0_isWritten_13 (by decide) ?_
      refine kv_top (show _ = bI (isW np x) from (bI_t (by simp [isW]; omega))) ?_
      exact hret _ _ _ _ hP hD hS dX0_isWritten_17
set_option maxHeartbeats 4000000 in
set_option maxRecDepth 100000 in
theorem c_isInBlock (l : Launch) (dC : Nat → ClassId) (dI : Nat → Nat → Nat) (sz : Nat) (x : Int32) : Met l yX0_isInBlock wsX0_isInBlock ({ frames := 0, cells := 0, slots := 0, locals := 0 }) (kPre (dC, dI) vwCl ([]) ([]) sz [.int x]) (kQi (dC, dI) vwCl ([]) ([]) sz (bI (inB x)) ([])) 0 0 (va_A ([]) sz) := by
  refine kM_z (cc := cX0_isInBlock) (maxL := 1) (by decide) rfl (Nat.le_of_ble_eq_true rfl) (bI_n _) ?_
  intro p e s m below meth c A Q ls H locs S hP hK hD hS hA hl hret
  obtain ⟨hx, hb, hml, hown, hts⟩ := id S
  have hl : lv_has ls 1 [(0, .int x)] := hl
  refine lv_iload_n hx hb dX0_isInBlock_0 rfl (lv_at hl 0 rfl) ?_
  refine lv_if_lt (tgt := 14) hx hb dX0_isInBlock_1 (by decide) (fun c_1 => ?_) (fun c_1 => ?_)
  · have c_1 := (kx_lt0).mp c_1
    refine lv_iconst (v := nI 0) hx hb dX0_isInBlock_14 (by decide) ?_
    refine kv_top (show _ = bI (inB x) from (bI_f (by simp [inB]; omega))) ?_
    exact hret _ _ _ _ hP hD hS dX0_isInBlock_15
  · have c_1 := kmt (kx_lt0).mpr c_1
    refine lv_iload_n hx hb dX0_isInBlock_4 rfl (lv_at hl 0 rfl) ?_
    refine lv_bipush (v := nI 64) hx hb dX0_isInBlock_5 (by decide) ?_
    refine lv_icmp_ge (tgt := 14) hx hb dX0_isInBlock_7 (by decide) (fun c_7 => ?_) (fun c_7 => ?_)
    · have c_7 := (kx_ge (by omega)).mp c_7
      refine lv_iconst (v := nI 0) hx hb dX0_isInBlock_14 (by decide) ?_
      refine kv_top (show _ = bI (inB x) from (bI_f (by simp [inB]; omega))) ?_
      exact hret _ _ _ _ hP hD hS dX0_isInBlock_15
    · have c_7 := kmt (kx_ge (by omega)).mpr c_7
      refine lv_iconst (v := nI 1) hx hb dX0_isInBlock_10 (by decide) ?_
      refine lv_goto (tgt := 15) hx hb dX0_isInBlock_11 (by decide) ?_
      refine kv_top (show _ = bI (inB x) from (bI_t (by simp [inB]; omega))) ?_
      exact hret _ _ _ _ hP hD hS dX0_isInBlock_15
set_option maxHeartbeats 4000000 in
set_option maxRecDepth 100000 in
theorem c_indexOfPlace (l : Launch) (dC : Nat → ClassId) (dI : Nat → Nat → Nat) (sz : Nat) (q : Nat) (hq : q < 4480) : Met l yX0_indexOfPlace wsX0_indexOfPlace ({ frames := 0, cells := 0, slots := 0, locals := 0 }) (kPre (dC, dI) vwCl ([]) ([]) sz [.int (nI q)]) (kQi (dC, dI) vwCl ([]) ([]) sz (nI (ix q)) ([])) 0 0 (va_A ([]) sz) := by
  refine kM_i (cc := cX0_indexOfPlace) (maxL := 1) (by decide) rfl (Nat.le_of_ble_eq_true rfl) ?_
  intro p e s m below meth c A Q ls H locs S hP hK hD hS hA hl hret
  obtain ⟨hx, hb, hml, hown, hts⟩ := id S
  have hl : lv_has ls 1 [(0, .int (nI q))] := hl
  refine lv_iload_n hx hb dX0_indexOfPlace_0 rfl (lv_at hl 0 rfl) ?_
  refine lv_bipush (v := nI 56) hx hb dX0_indexOfPlace_1 (by decide) ?_
  refine lv_idiv hx hb dX0_indexOfPlace_3 (by decide) ?_
  refine kv_top (show _ = nI (q / 56) from pk_div (by omega) (by omega) (by omega)) ?_
  refine lv_bipush (v := nI 64) hx hb dX0_indexOfPlace_4 (by decide) ?_
  refine lv_imul hx hb dX0_indexOfPlace_6 ?_
  refine kv_top (show _ = nI ((q / 56) * 64) from pk_mul _ _) ?_
  refine lv_bipush (v := nI 8) hx hb dX0_indexOfPlace_7 (by decide) ?_
  refine lv_iadd hx hb dX0_indexOfPlace_9 ?_
  refine kv_top (show _ = nI (((q / 56) * 64) + 8) from nI_add _ _) ?_
  refine lv_iload_n hx hb dX0_indexOfPlace_10 rfl (lv_at hl 0 rfl) ?_
  refine lv_bipush (v := nI 56) hx hb dX0_indexOfPlace_11 (by decide) ?_
  refine lv_irem hx hb dX0_indexOfPlace_13 (by decide) ?_
  refine kv_top (show _ = nI (q % 56) from pk_rem (by omega) (by omega) (by omega)) ?_
  refine lv_iadd hx hb dX0_indexOfPlace_14 ?_
  refine kv_top (show _ = nI ((((q / 56) * 64) + 8) + (q % 56)) from nI_add _ _) ?_
  refine kv_top (show _ = nI (ix q) from rfl) ?_
  exact hret _ _ _ _ hP hD hS dX0_indexOfPlace_15
set_option maxHeartbeats 4000000 in
set_option maxRecDepth 100000 in
theorem c_addToByte (l : Launch) (dC : Nat → ClassId) (dI : Nat → Nat → Nat) (h a1 a2 a3 a4 a5 a6 : Nat) (cb ci : ClassId) (tp : Nat → Int32) (tl : Nat) (vo : Nat → Int32) (np : Nat) (rp rl : Nat → Nat) (rc : Nat) (sb sa : Nat → Nat) (sz : Nat) (k : Nat) (v : Int32) (hk : k < 5120) : Met l yX0_addToByte wsX0_addToByte ({ frames := 0, cells := 0, slots := 0, locals := 0 }) (kPre (dC, dI) vwCl (wB h a1 a2 a3 a4 a5 a6 cb ci tp tl vo np rp rl rc sb sa) (tB cb ci) sz [.ref h, .int (nI k), .int v]) (kQv (dC, dI) vwCl (wB h a1 a2 a3 a4 a5 a6 cb ci tp tl vo np rp rl rc sb sa) (tB cb ci) sz (wB h a1 a2 a3 a4 a5 a6 cb ci tp tl (upd vo k (bn (vo k + v))) np rp rl rc sb sa)) 0 0 (va_A (wB h a1 a2 a3 a4 a5 a6 cb ci tp tl vo np rp rl rc sb sa) sz) := by
  refine kM_v (cc := cX0_addToByte) (maxL := 3) (by decide) rfl (Nat.le_of_ble_eq_true rfl) ?_
  intro p e s m below meth c A Q ls H locs S hP hK hD hS hA hl hret
  obtain ⟨hx, hb, hml, hown, hts⟩ := id S
  have hin0 : ∀ w ∈ u_ws RX0 TX0 9, w ∈ wsX0_addToByte := fun _ h => List.mem_cons_of_mem _ (List.mem_append_right _ h)
  have lkf13 := hts (.fieldLink RX0 13 "BlockTape" "volume" "[B") (by decide +kernel)
  have hl : lv_has ls 3 [(0, .ref h), (1, .int (nI k)), (2, .int v)] := hl
  refine lv_aload_n hx hb dX0_addToByte_0 rfl (lv_at hl 0 rfl) ?_
  refine va_get (D := (dC, dI)) (ci := 0) (v := .ref a2) (C := RX0) (T := TX0) (N := 9) hx hb hts hin0 hown hK hP 0 rfl rfl 2 (by decide) lkf13 (fun _ h9 => h9) rfl dX0_addToByte_1 ?_
  refine lv_iload_n hx hb dX0_addToByte_4 rfl (lv_at hl 1 rfl) ?_
  refine lv_aload_n hx hb dX0_addToByte_5 rfl (lv_at hl 0 rfl) ?_
  refine va_get (D := (dC, dI)) (ci := 0) (v := .ref a2) (C := RX0) (T := TX0) (N := 9) hx hb hts hin0 hown hK hP 0 rfl rfl 2 (by decide) lkf13 (fun _ h9 => h9) rfl dX0_addToByte_6 ?_
  refine lv_iload_n hx hb dX0_addToByte_9 rfl (lv_at hl 1 rfl) ?_
  refine ka_bald hx hb hK hP 2 0 rfl rfl (k := k) (by omega) (by decide) dX0_addToByte_10 ?_
  refine lv_iload_n hx hb dX0_addToByte_11 rfl (lv_at hl 2 rfl) ?_
  refine lv_iadd hx hb dX0_addToByte_12 ?_
  refine lv_i2b (v := bn ((vo k) + v)) hx hb dX0_addToByte_13 rfl ?_
  refine ka_bast hx hb hK hP hD hS 2 0 rfl rfl (k := k) (x := bn ((vo k) + v)) (by omega) (by decide) (pk_vb _) dX0_addToByte_14 (fun H locs hP hD hS => ?_)
  have hP : va_P (dC, dI) vwCl (wB h a1 a2 a3 a4 a5 a6 cb ci tp tl (upd vo k (bn ((vo k) + v))) np rp rl rc sb sa) H := hP
  have hD : va_D A (wB h a1 a2 a3 a4 a5 a6 cb ci tp tl (upd vo k (bn ((vo k) + v))) np rp rl rc sb sa) := hD
  have hP : va_P (dC, dI) vwCl (wB h a1 a2 a3 a4 a5 a6 cb ci tp tl (upd vo k (bn (vo k + v))) np rp rl rc sb sa) H := hP
  have hD : va_D A (wB h a1 a2 a3 a4 a5 a6 cb ci tp tl (upd vo k (bn (vo k + v))) np rp rl rc sb sa) := hD
  exact hret _ _ _ _ hP hD hS dX0_addToByte_15
set_option maxHeartbeats 4000000 in
set_option maxRecDepth 100000 in
theorem c_noteBeginning (l : Launch) (dC : Nat → ClassId) (dI : Nat → Nat → Nat) (h a1 a2 a3 a4 a5 a6 : Nat) (cb ci : ClassId) (tp : Nat → Int32) (tl : Nat) (vo : Nat → Int32) (np : Nat) (rp rl : Nat → Nat) (rc : Nat) (sb sa : Nat → Nat) (sz : Nat) (hnp : np < 4480) : Met l yX0_noteBeginning wsX0_noteBeginning ({ frames := 0, cells := 0, slots := 0, locals := 0 }) (kPre (dC, dI) vwCl (wB h a1 a2 a3 a4 a5 a6 cb ci tp tl vo np rp rl rc sb sa) (tB cb ci) sz [.ref h]) (kQv (dC, dI) vwCl (wB h a1 a2 a3 a4 a5 a6 cb ci tp tl vo np rp rl rc sb sa) (tB cb ci) sz (wB h a1 a2 a3 a4 a5 a6 cb ci tp tl (ntB vo np) np rp rl rc sb sa)) 0 0 (va_A (wB h a1 a2 a3 a4 a5 a6 cb ci tp tl vo np rp rl rc sb sa) sz) := by
  refine kM_v (cc := cX0_noteBeginning) (maxL := 2) (by decide) rfl (Nat.le_of_ble_eq_true rfl) ?_
  intro p e s m below meth c A Q ls H locs S hP hK hD hS hA hl hret
  obtain ⟨hx, hb, hml, hown, hts⟩ := id S
  have hin0 : ∀ w ∈ u_ws RX0 TX0 9, w ∈ wsX0_noteBeginning := fun _ h => List.mem_cons_of_mem _ (List.mem_append_right _ h)
  have lkf44 := hts (.fieldLink RX0 44 "BlockTape" "nextPlace" "I") (by decide +kernel)
  have lkf13 := hts (.fieldLink RX0 13 "BlockTape" "volume" "[B") (by decide +kernel)
  have hl : lv_has ls 2 [(0, .ref h)] := hl
  refine lv_aload_n hx hb dX0_noteBeginning_0 rfl (lv_at hl 0 rfl) ?_
  refine va_get (D := (dC, dI)) (ci := 0) (v := .int (nI np)) (C := RX0) (T := TX0) (N := 9) hx hb hts hin0 hown hK hP 0 rfl rfl 3 (by decide) lkf44 (fun _ h9 => h9) rfl dX0_noteBeginning_1 ?_
  refine lv_bipush (v := nI 56) hx hb dX0_noteBeginning_4 (by decide) ?_
  refine lv_idiv hx hb dX0_noteBeginning_6 (by decide) ?_
  refine kv_top (show _ = nI (np / 56) from pk_div (by omega) (by omega) (by omega)) ?_
  refine lv_bipush (v := nI 64) hx hb dX0_noteBeginning_7 (by decide) ?_
  refine lv_imul hx hb dX0_noteBeginning_9 ?_
  refine kv_top (show _ = nI ((np / 56) * 64) from pk_mul _ _) ?_
  refine lv_iconst (v := nI 3) hx hb dX0_noteBeginning_10 (by decide) ?_
  refine lv_iadd hx hb dX0_noteBeginning_11 ?_
  refine kv_top (show _ = nI (((np / 56) * 64) + 3) from nI_add _ _) ?_
  refine lv_istore_n (lv' := [(1, .int (nI (((np / 56) * 64) + 3))), (0, .ref h)]) hx hb dX0_noteBeginning_12 rfl hl (by decide) rfl (fun ls hl => ?_)
  refine lv_aload_n hx hb dX0_noteBeginning_13 rfl (lv_at hl 1 rfl) ?_
  refine va_get (D := (dC, dI)) (ci := 0) (v := .ref a2) (C := RX0) (T := TX0) (N := 9) hx hb hts hin0 hown hK hP 0 rfl rfl 2 (by decide) lkf13 (fun _ h9 => h9) rfl dX0_noteBeginning_14 ?_
  refine lv_iload_n hx hb dX0_noteBeginning_17 rfl (lv_at hl 0 rfl) ?_
  refine ka_bald hx hb hK hP 2 0 rfl rfl (k := ((np / 56) * 64) + 3) (by omega) (by decide) dX0_noteBeginning_18 ?_
  refine lv_iconst (v := (-1)) hx hb dX0_noteBeginning_19 (by decide) ?_
  refine lv_icmp_ne (tgt := 37) hx hb dX0_noteBeginning_20 (by decide) (fun c_20 => ?_) (fun c_20 => ?_)
  · have hwE : wB h a1 a2 a3 a4 a5 a6 cb ci tp tl vo np rp rl rc sb sa = wB h a1 a2 a3 a4 a5 a6 cb ci tp tl (ntB vo np) np rp rl rc sb sa := by rw [ntB, if_neg c_20]
    rw [hwE] at hP hD
    exact hret _ _ _ _ hP hD hS dX0_noteBeginning_37
  · refine lv_aload_n hx hb dX0_noteBeginning_23 rfl (lv_at hl 1 rfl) ?_
    refine va_get (D := (dC, dI)) (ci := 0) (v := .ref a2) (C := RX0) (T := TX0) (N := 9) hx hb hts hin0 hown hK hP 0 rfl rfl 2 (by decide) lkf13 (fun _ h9 => h9) rfl dX0_noteBeginning_24 ?_
    refine lv_iload_n hx hb dX0_noteBeginning_27 rfl (lv_at hl 0 rfl) ?_
    refine lv_aload_n hx hb dX0_noteBeginning_28 rfl (lv_at hl 1 rfl) ?_
    refine va_get (D := (dC, dI)) (ci := 0) (v := .int (nI np)) (C := RX0) (T := TX0) (N := 9) hx hb hts hin0 hown hK hP 0 rfl rfl 3 (by decide) lkf44 (fun _ h9 => h9) rfl dX0_noteBeginning_29 ?_
    refine lv_bipush (v := nI 56) hx hb dX0_noteBeginning_32 (by decide) ?_
    refine lv_irem hx hb dX0_noteBeginning_34 (by decide) ?_
    refine kv_top (show _ = nI (np % 56) from pk_rem (by omega) (by omega) (by omega)) ?_
    refine lv_i2b (v := bn (nI (np % 56))) hx hb dX0_noteBeginning_35 rfl ?_
    refine ka_bast hx hb hK hP hD hS 2 0 rfl rfl (k := ((np / 56) * 64) + 3) (x := bn (nI (np % 56))) (by omega) (by decide) (pk_vb _) dX0_noteBeginning_36 (fun H locs hP hD hS => ?_)
    have hP : va_P (dC, dI) vwCl (wB h a1 a2 a3 a4 a5 a6 cb ci tp tl (upd vo (((np / 56) * 64) + 3) (bn (nI (np % 56)))) np rp rl rc sb sa) H := hP
    have hD : va_D A (wB h a1 a2 a3 a4 a5 a6 cb ci tp tl (upd vo (((np / 56) * 64) + 3) (bn (nI (np % 56)))) np rp rl rc sb sa) := hD
    have hwE : wB h a1 a2 a3 a4 a5 a6 cb ci tp tl (upd vo (((np / 56) * 64) + 3) (bn (nI (np % 56)))) np rp rl rc sb sa = wB h a1 a2 a3 a4 a5 a6 cb ci tp tl (ntB vo np) np rp rl rc sb sa := by rw [ntB, if_pos c_20]
    rw [hwE] at hP hD
    exact hret _ _ _ _ hP hD hS dX0_noteBeginning_37
set_option maxHeartbeats 4000000 in
set_option maxRecDepth 100000 in
theorem c_crcOver (l : Launch) (dC : Nat → ClassId) (dI : Nat → Nat → Nat) (h a1 a2 a3 a4 a5 a6 : Nat) (cb ci : ClassId) (tp : Nat → Int32) (tl : Nat) (vo : Nat → Int32) (np : Nat) (rp rl : Nat → Nat) (rc : Nat) (sb sa : Nat → Nat) (sz : Nat) (c0 : Int32) (f : Nat) (t : Nat) (hf : f ≤ t) (ht : t ≤ 5120) : Met l yX0_crcOver wsX0_crcOver ({ frames := 0, cells := 0, slots := 0, locals := 0 }) (kPre (dC, dI) vwCl (wB h a1 a2 a3 a4 a5 a6 cb ci tp tl vo np rp rl rc sb sa) (tB cb ci) sz [.ref h, .int c0, .int (nI f), .int (nI t)]) (kQi (dC, dI) vwCl (wB h a1 a2 a3 a4 a5 a6 cb ci tp tl vo np rp rl rc sb sa) (tB cb ci) sz (crcB vo c0 f (t - f)) (wB h a1 a2 a3 a4 a5 a6 cb ci tp tl vo np rp rl rc sb sa)) 0 0 (va_A (wB h a1 a2 a3 a4 a5 a6 cb ci tp tl vo np rp rl rc sb sa) sz) := by
  refine kM_i (cc := cX0_crcOver) (maxL := 7) (by decide) rfl (Nat.le_of_ble_eq_true rfl) ?_
  intro p e s m below meth c A Q ls H locs S hP hK hD hS hA hl hret
  obtain ⟨hx, hb, hml, hown, hts⟩ := id S
  have hin0 : ∀ w ∈ u_ws RX0 TX0 9, w ∈ wsX0_crcOver := fun _ h => List.mem_cons_of_mem _ (List.mem_append_right _ h)
  have lkf13 := hts (.fieldLink RX0 13 "BlockTape" "volume" "[B") (by decide +kernel)
  have lkc106 := hts (.constant RX0 106 (-306674912)) (by decide +kernel)
  have hl : lv_has ls 7 [(0, .ref h), (1, .int c0), (2, .int (nI f)), (3, .int (nI t))] := hl
  refine lv_iload_n hx hb dX0_crcOver_0 rfl (lv_at hl 1 rfl) ?_
  refine lv_istore (lv' := [(4, .int c0), (0, .ref h), (1, .int c0), (2, .int (nI f)), (3, .int (nI t))]) hx hb dX0_crcOver_1 hl (by decide) rfl (fun ls hl => ?_)
  refine lv_iload_n hx hb dX0_crcOver_3 rfl (lv_at hl 3 rfl) ?_
  refine lv_istore (lv' := [(5, .int (nI f)), (4, .int c0), (0, .ref h), (1, .int c0), (2, .int (nI f)), (3, .int (nI t))]) hx hb dX0_crcOver_4 hl (by decide) rfl (fun ls hl => ?_)
  have hloopk : ∀ (n k : Nat), k ≤ t - f → t - f + 1 ≤ k + n → ∀ (H : Heap) (locs : List Loc) (ls : Array Slot), va_P (dC, dI) vwCl (wB h a1 a2 a3 a4 a5 a6 cb ci tp tl vo np rp rl rc sb sa) H → va_D A (wB h a1 a2 a3 a4 a5 a6 cb ci tp tl vo np rp rl rc sb sa) → va_S A s.heap H locs → lv_has ls 7 [(4, .int (crcB vo c0 f k)), (5, .int (nI (f + k))), (0, .ref h), (3, .int (nI t))] → W p l e ({ frames := 0, cells := 0, slots := 0, locals := 0 }) s m ([.ref h, .int c0, .int (nI f), .int (nI t)] : List Value).toArray below meth c H locs 0 0 Q (F0 m 6 ls []) := by
    intro n
    induction n with
    | zero => intro k h1 h2; exact absurd h2 (by omega)
    | succ n ih =>
      intro k hkA hkB H locs ls hP hD hS hl
      refine lv_iload hx hb dX0_crcOver_6 (lv_at hl 1 rfl) ?_
      refine lv_iload_n hx hb dX0_crcOver_8 rfl (lv_at hl 3 rfl) ?_
      refine lv_icmp_ge (tgt := 73) hx hb dX0_crcOver_9 (by decide) (fun c_9 => ?_) (fun c_9 => ?_)
      · have c_9 := (nI_leI (by omega) (by omega)).mp c_9
        have hkE : k = t - f := by omega
        subst hkE
        refine lv_iload hx hb dX0_crcOver_73 (lv_at hl 0 rfl) ?_
        exact hret _ _ _ _ hP hD hS dX0_crcOver_75
      · have c_9 := kmt (nI_leI (by omega) (by omega)).mpr c_9
        refine lv_iload hx hb dX0_crcOver_12 (lv_at hl 0 rfl) ?_
        refine lv_aload_n hx hb dX0_crcOver_14 rfl (lv_at hl 2 rfl) ?_
        refine va_get (D := (dC, dI)) (ci := 0) (v := .ref a2) (C := RX0) (T := TX0) (N := 9) hx hb hts hin0 hown hK hP 0 rfl rfl 2 (by decide) lkf13 (fun _ h9 => h9) rfl dX0_crcOver_15 ?_
        refine lv_iload hx hb dX0_crcOver_18 (lv_at hl 1 rfl) ?_
        refine ka_bald hx hb hK hP 2 0 rfl rfl (k := f + k) (by omega) (by decide) dX0_crcOver_20 ?_
        refine lv_sipush (v := nI 255) hx hb dX0_crcOver_21 (by decide) ?_
        refine lv_iand hx hb dX0_crcOver_24 ?_
        refine lv_ixor hx hb dX0_crcOver_25 ?_
        refine lv_istore (lv' := [(4, .int ((crcB vo c0 f k) ^^^ ((vo (f + k)) &&& (nI 255)))), (5, .int (nI (f + k))), (0, .ref h), (3, .int (nI t))]) hx hb dX0_crcOver_26 hl (by decide) rfl (fun ls hl => ?_)
        refine lv_iconst (v := nI 0) hx hb dX0_crcOver_28 (by decide) ?_
        refine lv_istore (lv' := [(6, .int (nI 0)), (4, .int ((crcB vo c0 f k) ^^^ ((vo (f + k)) &&& (nI 255)))), (5, .int (nI (f + k))), (0, .ref h), (3, .int (nI t))]) hx hb dX0_crcOver_29 hl (by decide) rfl (fun ls hl => ?_)
        have hloopj : ∀ (n2 j : Nat), j ≤ 8 → 8 + 1 ≤ j + n2 → ∀ (H : Heap) (locs : List Loc) (ls : Array Slot), va_P (dC, dI) vwCl (wB h a1 a2 a3 a4 a5 a6 cb ci tp tl vo np rp rl rc sb sa) H → va_D A (wB h a1 a2 a3 a4 a5 a6 cb ci tp tl vo np rp rl rc sb sa) → va_S A s.heap H locs → lv_has ls 7 [(4, .int (crcN (crcB vo c0 f k ^^^ (vo (f + k) &&& nI 255)) j)), (6, .int (nI j)), (0, .ref h), (3, .int (nI t)), (5, .int (nI (f + k)))] → W p l e ({ frames := 0, cells := 0, slots := 0, locals := 0 }) s m ([.ref h, .int c0, .int (nI f), .int (nI t)] : List Value).toArray below meth c H locs 0 0 Q (F0 m 31 ls []) := by
          intro n2
          induction n2 with
          | zero => intro j h1 h2; exact absurd h2 (by omega)
          | succ n2 ih2 =>
            intro j hjA hjB H locs ls hP hD hS hl
            refine lv_iload hx hb dX0_crcOver_31 (lv_at hl 1 rfl) ?_
            refine lv_bipush (v := nI 8) hx hb dX0_crcOver_33 (by decide) ?_
            refine lv_icmp_ge (tgt := 67) hx hb dX0_crcOver_35 (by decide) (fun c_35 => ?_) (fun c_35 => ?_)
            · have c_35 := (nI_leI (by omega) (by omega)).mp c_35
              have hjE : j = 8 := by omega
              subst hjE
              refine lv_iinc (v := nI ((f + k) + 1)) (lv' := [(5, .int (nI ((f + k) + 1))), (4, .int (crcN (crcB vo c0 f k ^^^ (vo (f + k) &&& nI 255)) 8)), (6, .int (nI 8)), (0, .ref h), (3, .int (nI t))]) hx hb dX0_crcOver_67 hl (k := 4) rfl (ki_inc _) (by decide) rfl (fun ls hl => ?_)
              refine lv_goto (tgt := 6) hx hb dX0_crcOver_70 (by decide) ?_
              have hP : va_P (dC, dI) vwCl (wB h a1 a2 a3 a4 a5 a6 cb ci tp tl vo np rp rl rc sb sa) H := hP
              have hD : va_D A (wB h a1 a2 a3 a4 a5 a6 cb ci tp tl vo np rp rl rc sb sa) := hD
              exact ih (k + 1) (by omega) (by omega) _ _ _ hP hD hS (lv_sub hl [1, 0, 3, 4] rfl)
            · have c_35 := kmt (nI_leI (by omega) (by omega)).mpr c_35
              refine lv_iload hx hb dX0_crcOver_38 (lv_at hl 0 rfl) ?_
              refine lv_iconst (v := nI 1) hx hb dX0_crcOver_40 (by decide) ?_
              refine lv_iand hx hb dX0_crcOver_41 ?_
              refine lv_if_eq (tgt := 55) hx hb dX0_crcOver_42 (by decide) (fun c_42 => ?_) (fun c_42 => ?_)
              · refine lv_iload hx hb dX0_crcOver_55 (lv_at hl 0 rfl) ?_
                refine lv_iconst (v := nI 1) hx hb dX0_crcOver_57 (by decide) ?_
                refine lv_iushr (v := ush (crcN (crcB vo c0 f k ^^^ (vo (f + k) &&& nI 255)) j) 1) hx hb dX0_crcOver_58 rfl ?_
                refine kv_top (show _ = crcN (crcB vo c0 f k ^^^ (vo (f + k) &&& nI 255)) (j + 1) from (by show _ = crc1 _; rw [crc1, if_pos c_42])) ?_
                refine lv_istore (lv' := [(4, .int (crcN (crcB vo c0 f k ^^^ (vo (f + k) &&& nI 255)) (j + 1))), (6, .int (nI j)), (0, .ref h), (3, .int (nI t)), (5, .int (nI (f + k)))]) hx hb dX0_crcOver_59 hl (by decide) rfl (fun ls hl => ?_)
                refine lv_iinc (v := nI (j + 1)) (lv' := [(6, .int (nI (j + 1))), (4, .int (crcN (crcB vo c0 f k ^^^ (vo (f + k) &&& nI 255)) (j + 1))), (0, .ref h), (3, .int (nI t)), (5, .int (nI (f + k)))]) hx hb dX0_crcOver_61 hl (k := 1) rfl (ki_inc _) (by decide) rfl (fun ls hl => ?_)
                refine lv_goto (tgt := 31) hx hb dX0_crcOver_64 (by decide) ?_
                have hP : va_P (dC, dI) vwCl (wB h a1 a2 a3 a4 a5 a6 cb ci tp tl vo np rp rl rc sb sa) H := hP
                have hD : va_D A (wB h a1 a2 a3 a4 a5 a6 cb ci tp tl vo np rp rl rc sb sa) := hD
                exact ih2 (j + 1) (by omega) (by omega) _ _ _ hP hD hS (lv_sub hl [1, 0, 2, 3, 4] rfl)
              · refine lv_iload hx hb dX0_crcOver_45 (lv_at hl 0 rfl) ?_
                refine lv_iconst (v := nI 1) hx hb dX0_crcOver_47 (by decide) ?_
                refine lv_iushr (v := ush (crcN (crcB vo c0 f k ^^^ (vo (f + k) &&& nI 255)) j) 1) hx hb dX0_crcOver_48 rfl ?_
                refine lv_ldc (v := (-306674912)) hx hb hown lkc106 dX0_crcOver_49 ?_
                refine lv_ixor hx hb dX0_crcOver_51 ?_
                refine lv_goto (tgt := 59) hx hb dX0_crcOver_52 (by decide) ?_
                refine kv_top (show _ = crcN (crcB vo c0 f k ^^^ (vo (f + k) &&& nI 255)) (j + 1) from (by show _ = crc1 _; rw [crc1, if_neg c_42])) ?_
                refine lv_istore (lv' := [(4, .int (crcN (crcB vo c0 f k ^^^ (vo (f + k) &&& nI 255)) (j + 1))), (6, .int (nI j)), (0, .ref h), (3, .int (nI t)), (5, .int (nI (f + k)))]) hx hb dX0_crcOver_59 hl (by decide) rfl (fun ls hl => ?_)
                refine lv_iinc (v := nI (j + 1)) (lv' := [(6, .int (nI (j + 1))), (4, .int (crcN (crcB vo c0 f k ^^^ (vo (f + k) &&& nI 255)) (j + 1))), (0, .ref h), (3, .int (nI t)), (5, .int (nI (f + k)))]) hx hb dX0_crcOver_61 hl (k := 1) rfl (ki_inc _) (by decide) rfl (fun ls hl => ?_)
                refine lv_goto (tgt := 31) hx hb dX0_crcOver_64 (by decide) ?_
                have hP : va_P (dC, dI) vwCl (wB h a1 a2 a3 a4 a5 a6 cb ci tp tl vo np rp rl rc sb sa) H := hP
                have hD : va_D A (wB h a1 a2 a3 a4 a5 a6 cb ci tp tl vo np rp rl rc sb sa) := hD
                exact ih2 (j + 1) (by omega) (by omega) _ _ _ hP hD hS (lv_sub hl [1, 0, 2, 3, 4] rfl)
        have hP : va_P (dC, dI) vwCl (wB h a1 a2 a3 a4 a5 a6 cb ci tp tl vo np rp rl rc sb sa) H := hP
        have hD : va_D A (wB h a1 a2 a3 a4 a5 a6 cb ci tp tl vo np rp rl rc sb sa) := hD
        exact hloopj (8 + 1) 0 (by omega) (by omega) _ _ _ hP hD hS (lv_sub hl [1, 0, 3, 4, 2] rfl)
  have hP : va_P (dC, dI) vwCl (wB h a1 a2 a3 a4 a5 a6 cb ci tp tl vo np rp rl rc sb sa) H := hP
  have hD : va_D A (wB h a1 a2 a3 a4 a5 a6 cb ci tp tl vo np rp rl rc sb sa) := hD
  exact hloopk ((t - f) + 1) 0 (by omega) (by omega) _ _ _ hP hD hS (lv_sub hl [1, 0, 2, 5] rfl)
set_option maxHeartbeats 4000000 in
set_option maxRecDepth 100000 in
theorem c_sumOfBlock (l : Launch) (dC : Nat → ClassId) (dI : Nat → Nat → Nat) (h a1 a2 a3 a4 a5 a6 : Nat) (cb ci : ClassId) (tp : Nat → Int32) (tl : Nat) (vo : Nat → Int32) (np : Nat) (rp rl : Nat → Nat) (rc : Nat) (sb sa : Nat → Nat) (sz : Nat) (st : Nat) (hst : st + 64 ≤ 5120) : Met l yX0_sumOfBlock wsX0_sumOfBlock ({ frames := 1, cells := 0, slots := 0, locals := 26 }) (kPre (dC, dI) vwCl (wB h a1 a2 a3 a4 a5 a6 cb ci tp tl vo np rp rl rc sb sa) (tB cb ci) sz [.ref h, .int (nI st)]) (kQi (dC, dI) vwCl (wB h a1 a2 a3 a4 a5 a6 cb ci tp tl vo np rp rl rc sb sa) (tB cb ci) sz (sumB vo st) (wB h a1 a2 a3 a4 a5 a6 cb ci tp tl vo np rp rl rc sb sa)) 0 0 (va_A (wB h a1 a2 a3 a4 a5 a6 cb ci tp tl vo np rp rl rc sb sa) sz) := by
  refine kM_i (cc := cX0_sumOfBlock) (maxL := 3) (by decide) rfl (Nat.le_of_ble_eq_true rfl) ?_
  intro p e s m below meth c A Q ls H locs S hP hK hD hS hA hl hret
  obtain ⟨hx, hb, hml, hown, hts⟩ := id S
  have hl : lv_has ls 3 [(0, .ref h), (1, .int (nI st))] := hl
  refine lv_aload_n hx hb dX0_sumOfBlock_0 rfl (lv_at hl 0 rfl) ?_
  refine lv_iconst (v := (-1)) hx hb dX0_sumOfBlock_1 (by decide) ?_
  refine lv_iload_n hx hb dX0_sumOfBlock_2 rfl (lv_at hl 1 rfl) ?_
  refine lv_iload_n hx hb dX0_sumOfBlock_3 rfl (lv_at hl 1 rfl) ?_
  refine lv_iconst (v := nI 4) hx hb dX0_sumOfBlock_4 (by decide) ?_
  refine lv_iadd hx hb dX0_sumOfBlock_5 ?_
  refine kv_top (show _ = nI (st + 4) from nI_add _ _) ?_
  refine kc_vi (WR := []) (As := [.int ((-1)), .int (nI st), .int (nI (st + 4))]) (rest := []) ⟨hx, hb, hml, hown, hts⟩ (c_crcOver l dC dI h a1 a2 a3 a4 a5 a6 cb ci tp tl vo np rp rl rc sb sa H.size ((-1)) st (st + 4) (by omega) (by omega)) (cwV 3 hts gX0_sumOfBlock_X0_crcOver rfl rfl rfl (by decide +kernel) ⟨Nat.le_of_ble_eq_true rfl, Nat.le_of_ble_eq_true rfl⟩) hK hP hD hS hA [0, 1, 2, 3, 4, 5, 6] [] [0, 1] rfl rfl (by decide) (by decide) (by decide) rfl 0 0 rfl rfl rfl rfl hl.1 rfl (Nat.le_of_ble_eq_true rfl) dX0_sumOfBlock_6 ⟨Nat.zero_le _, Nat.zero_le _⟩ (fun H locs hP hD hS => ?_)
  have hP : va_P (dC, dI) vwCl (wB h a1 a2 a3 a4 a5 a6 cb ci tp tl vo np rp rl rc sb sa) H := hP
  have hD : va_D A (wB h a1 a2 a3 a4 a5 a6 cb ci tp tl vo np rp rl rc sb sa) := hD
  refine kv_top (show _ = crcB vo (-1) st 4 from by rw [show st + 4 - st = 4 by omega]) ?_
  refine lv_istore_n (lv' := [(2, .int (crcB vo (-1) st 4)), (0, .ref h), (1, .int (nI st))]) hx hb dX0_sumOfBlock_9 rfl hl (by decide) rfl (fun ls hl => ?_)
  refine lv_aload_n hx hb dX0_sumOfBlock_10 rfl (lv_at hl 1 rfl) ?_
  refine lv_iload_n hx hb dX0_sumOfBlock_11 rfl (lv_at hl 0 rfl) ?_
  refine lv_iload_n hx hb dX0_sumOfBlock_12 rfl (lv_at hl 2 rfl) ?_
  refine lv_bipush (v := nI 8) hx hb dX0_sumOfBlock_13 (by decide) ?_
  refine lv_iadd hx hb dX0_sumOfBlock_15 ?_
  refine kv_top (show _ = nI (st + 8) from nI_add _ _) ?_
  refine lv_iload_n hx hb dX0_sumOfBlock_16 rfl (lv_at hl 2 rfl) ?_
  refine lv_bipush (v := nI 64) hx hb dX0_sumOfBlock_17 (by decide) ?_
  refine lv_iadd hx hb dX0_sumOfBlock_19 ?_
  refine kv_top (show _ = nI (st + 64) from nI_add _ _) ?_
  refine kc_vi (WR := []) (As := [.int (crcB vo (-1) st 4), .int (nI (st + 8)), .int (nI (st + 64))]) (rest := []) ⟨hx, hb, hml, hown, hts⟩ (c_crcOver l dC dI h a1 a2 a3 a4 a5 a6 cb ci tp tl vo np rp rl rc sb sa H.size (crcB vo (-1) st 4) (st + 8) (st + 64) (by omega) (by omega)) (cwV 3 hts gX0_sumOfBlock_X0_crcOver rfl rfl rfl (by decide +kernel) ⟨Nat.le_of_ble_eq_true rfl, Nat.le_of_ble_eq_true rfl⟩) hK hP hD hS hA [0, 1, 2, 3, 4, 5, 6] [] [0, 1] rfl rfl (by decide) (by decide) (by decide) rfl 0 0 rfl rfl rfl rfl hl.1 rfl (Nat.le_of_ble_eq_true rfl) dX0_sumOfBlock_20 ⟨Nat.zero_le _, Nat.zero_le _⟩ (fun H locs hP hD hS => ?_)
  have hP : va_P (dC, dI) vwCl (wB h a1 a2 a3 a4 a5 a6 cb ci tp tl vo np rp rl rc sb sa) H := hP
  have hD : va_D A (wB h a1 a2 a3 a4 a5 a6 cb ci tp tl vo np rp rl rc sb sa) := hD
  refine kv_top (show _ = crcB vo (crcB vo (-1) st 4) (st + 8) 56 from by rw [show st + 64 - (st + 8) = 56 by omega]) ?_
  refine lv_iconst (v := (-1)) hx hb dX0_sumOfBlock_23 (by decide) ?_
  refine lv_ixor hx hb dX0_sumOfBlock_24 ?_
  refine kv_top (show _ = sumB vo st from rfl) ?_
  exact hret _ _ _ _ hP hD hS dX0_sumOfBlock_25
set_option maxHeartbeats 4000000 in
set_option maxRecDepth 100000 in
theorem c_writeBlock (l : Launch) (dC : Nat → ClassId) (dI : Nat → Nat → Nat) (h a1 a2 a3 a4 a5 a6 : Nat) (cb ci : ClassId) (tp : Nat → Int32) (tl : Nat) (vo : Nat → Int32) (np : Nat) (rp rl : Nat → Nat) (rc : Nat) (sb sa : Nat → Nat) (sz : Nat) (b : Nat) (u : Nat) (hb80 : b < 80) (hu : u ≤ 56) : Met l yX0_writeBlock wsX0_writeBlock ({ frames := 2, cells := 0, slots := 0, locals := 48 }) (kPre (dC, dI) vwCl (wB h a1 a2 a3 a4 a5 a6 cb ci tp tl vo np rp rl rc sb sa) (tB cb ci) sz [.ref h, .int (nI b), .int (nI u)]) (kQv (dC, dI) vwCl (wB h a1 a2 a3 a4 a5 a6 cb ci tp tl vo np rp rl rc sb sa) (tB cb ci) sz (wB h a1 a2 a3 a4 a5 a6 cb ci tp tl (wbV vo b u) np rp rl rc sb sa)) 0 0 (va_A (wB h a1 a2 a3 a4 a5 a6 cb ci tp tl vo np rp rl rc sb sa) sz) := by
  refine kM_v (cc := cX0_writeBlock) (maxL := 6) (by decide) rfl (Nat.le_of_ble_eq_true rfl) ?_
  intro p e s m below meth c A Q ls H locs S hP hK hD hS hA hl hret
  obtain ⟨hx, hb, hml, hown, hts⟩ := id S
  have hin0 : ∀ w ∈ u_ws RX0 TX0 9, w ∈ wsX0_writeBlock := fun _ h => List.mem_cons_of_mem _ (List.mem_append_right _ h)
  have lkf13 := hts (.fieldLink RX0 13 "BlockTape" "volume" "[B") (by decide +kernel)
  have hl : lv_has ls 6 [(0, .ref h), (1, .int (nI b)), (2, .int (nI u))] := hl
  refine lv_iload_n hx hb dX0_writeBlock_0 rfl (lv_at hl 1 rfl) ?_
  refine lv_bipush (v := nI 64) hx hb dX0_writeBlock_1 (by decide) ?_
  refine lv_imul hx hb dX0_writeBlock_3 ?_
  refine kv_top (show _ = nI (b * 64) from pk_mul _ _) ?_
  refine lv_istore_n (lv' := [(3, .int (nI (b * 64))), (0, .ref h), (1, .int (nI b)), (2, .int (nI u))]) hx hb dX0_writeBlock_4 rfl hl (by decide) rfl (fun ls hl => ?_)
  refine lv_aload_n hx hb dX0_writeBlock_5 rfl (lv_at hl 1 rfl) ?_
  refine va_get (D := (dC, dI)) (ci := 0) (v := .ref a2) (C := RX0) (T := TX0) (N := 9) hx hb hts hin0 hown hK hP 0 rfl rfl 2 (by decide) lkf13 (fun _ h9 => h9) rfl dX0_writeBlock_6 ?_
  refine lv_iload_n hx hb dX0_writeBlock_9 rfl (lv_at hl 0 rfl) ?_
  refine lv_iload_n hx hb dX0_writeBlock_10 rfl (lv_at hl 2 rfl) ?_
  refine lv_bipush (v := nI 8) hx hb dX0_writeBlock_11 (by decide) ?_
  refine lv_iushr (v := ush (nI b) 8) hx hb dX0_writeBlock_13 rfl ?_
  refine lv_i2b (v := bn (ush (nI b) 8)) hx hb dX0_writeBlock_14 rfl ?_
  refine ka_bast hx hb hK hP hD hS 2 0 rfl rfl (k := b * 64) (x := bn (ush (nI b) 8)) (by omega) (by decide) (pk_vb _) dX0_writeBlock_15 (fun H locs hP hD hS => ?_)
  have hP : va_P (dC, dI) vwCl (wB h a1 a2 a3 a4 a5 a6 cb ci tp tl (upd vo (b * 64) (bn (ush (nI b) 8))) np rp rl rc sb sa) H := hP
  have hD : va_D A (wB h a1 a2 a3 a4 a5 a6 cb ci tp tl (upd vo (b * 64) (bn (ush (nI b) 8))) np rp rl rc sb sa) := hD
  refine lv_aload_n hx hb dX0_writeBlock_16 rfl (lv_at hl 1 rfl) ?_
  refine va_get (D := (dC, dI)) (ci := 0) (v := .ref a2) (C := RX0) (T := TX0) (N := 9) hx hb hts hin0 hown hK hP 0 rfl rfl 2 (by decide) lkf13 (fun _ h9 => h9) rfl dX0_writeBlock_17 ?_
  refine lv_iload_n hx hb dX0_writeBlock_20 rfl (lv_at hl 0 rfl) ?_
  refine lv_iconst (v := nI 1) hx hb dX0_writeBlock_21 (by decide) ?_
  refine lv_iadd hx hb dX0_writeBlock_22 ?_
  refine kv_top (show _ = nI ((b * 64) + 1) from nI_add _ _) ?_
  refine lv_iload_n hx hb dX0_writeBlock_23 rfl (lv_at hl 2 rfl) ?_
  refine lv_i2b (v := bn (nI b)) hx hb dX0_writeBlock_24 rfl ?_
  refine ka_bast hx hb hK hP hD hS 2 0 rfl rfl (k := (b * 64) + 1) (x := bn (nI b)) (by omega) (by decide) (pk_vb _) dX0_writeBlock_25 (fun H locs hP hD hS => ?_)
  have hP : va_P (dC, dI) vwCl (wB h a1 a2 a3 a4 a5 a6 cb ci tp tl (upd (upd vo (b * 64) (bn (ush (nI b) 8))) ((b * 64) + 1) (bn (nI b))) np rp rl rc sb sa) H := hP
  have hD : va_D A (wB h a1 a2 a3 a4 a5 a6 cb ci tp tl (upd (upd vo (b * 64) (bn (ush (nI b) 8))) ((b * 64) + 1) (bn (nI b))) np rp rl rc sb sa) := hD
  refine lv_aload_n hx hb dX0_writeBlock_26 rfl (lv_at hl 1 rfl) ?_
  refine va_get (D := (dC, dI)) (ci := 0) (v := .ref a2) (C := RX0) (T := TX0) (N := 9) hx hb hts hin0 hown hK hP 0 rfl rfl 2 (by decide) lkf13 (fun _ h9 => h9) rfl dX0_writeBlock_27 ?_
  refine lv_iload_n hx hb dX0_writeBlock_30 rfl (lv_at hl 0 rfl) ?_
  refine lv_iconst (v := nI 2) hx hb dX0_writeBlock_31 (by decide) ?_
  refine lv_iadd hx hb dX0_writeBlock_32 ?_
  refine kv_top (show _ = nI ((b * 64) + 2) from nI_add _ _) ?_
  refine lv_iload_n hx hb dX0_writeBlock_33 rfl (lv_at hl 3 rfl) ?_
  refine lv_i2b (v := bn (nI u)) hx hb dX0_writeBlock_34 rfl ?_
  refine ka_bast hx hb hK hP hD hS 2 0 rfl rfl (k := (b * 64) + 2) (x := bn (nI u)) (by omega) (by decide) (pk_vb _) dX0_writeBlock_35 (fun H locs hP hD hS => ?_)
  have hP : va_P (dC, dI) vwCl (wB h a1 a2 a3 a4 a5 a6 cb ci tp tl (upd (upd (upd vo (b * 64) (bn (ush (nI b) 8))) ((b * 64) + 1) (bn (nI b))) ((b * 64) + 2) (bn (nI u))) np rp rl rc sb sa) H := hP
  have hD : va_D A (wB h a1 a2 a3 a4 a5 a6 cb ci tp tl (upd (upd (upd vo (b * 64) (bn (ush (nI b) 8))) ((b * 64) + 1) (bn (nI b))) ((b * 64) + 2) (bn (nI u))) np rp rl rc sb sa) := hD
  have hP : va_P (dC, dI) vwCl (wB h a1 a2 a3 a4 a5 a6 cb ci tp tl (wbH vo b u) np rp rl rc sb sa) H := hP
  have hD : va_D A (wB h a1 a2 a3 a4 a5 a6 cb ci tp tl (wbH vo b u) np rp rl rc sb sa) := hD
  refine lv_aload_n hx hb dX0_writeBlock_36 rfl (lv_at hl 1 rfl) ?_
  refine lv_iload_n hx hb dX0_writeBlock_37 rfl (lv_at hl 0 rfl) ?_
  refine kc_vi (WR := []) (As := [.int (nI (b * 64))]) (rest := []) ⟨hx, hb, hml, hown, hts⟩ (c_sumOfBlock l dC dI h a1 a2 a3 a4 a5 a6 cb ci tp tl (wbH vo b u) np rp rl rc sb sa H.size (b * 64) (by omega)) (cwV 1 hts gX0_writeBlock_X0_sumOfBlock rfl rfl rfl (by decide +kernel) ⟨Nat.le_of_ble_eq_true rfl, Nat.le_of_ble_eq_true rfl⟩) hK hP hD hS hA [0, 1, 2, 3, 4, 5, 6] [] [0, 1] rfl rfl (by decide) (by decide) (by decide) rfl 0 0 rfl rfl rfl rfl hl.1 rfl (Nat.le_of_ble_eq_true rfl) dX0_writeBlock_38 ⟨Nat.zero_le _, Nat.zero_le _⟩ (fun H locs hP hD hS => ?_)
  have hP : va_P (dC, dI) vwCl (wB h a1 a2 a3 a4 a5 a6 cb ci tp tl (wbH vo b u) np rp rl rc sb sa) H := hP
  have hD : va_D A (wB h a1 a2 a3 a4 a5 a6 cb ci tp tl (wbH vo b u) np rp rl rc sb sa) := hD
  refine lv_istore (lv' := [(4, .int (sumB (wbH vo b u) (b * 64))), (3, .int (nI (b * 64))), (0, .ref h), (1, .int (nI b)), (2, .int (nI u))]) hx hb dX0_writeBlock_41 hl (by decide) rfl (fun ls hl => ?_)
  refine lv_iconst (v := nI 0) hx hb dX0_writeBlock_43 (by decide) ?_
  refine lv_istore (lv' := [(5, .int (nI 0)), (4, .int (sumB (wbH vo b u) (b * 64))), (3, .int (nI (b * 64))), (0, .ref h), (1, .int (nI b)), (2, .int (nI u))]) hx hb dX0_writeBlock_44 hl (by decide) rfl (fun ls hl => ?_)
  have hloopk : ∀ (n k : Nat), k ≤ 4 → 4 + 1 ≤ k + n → ∀ (H : Heap) (locs : List Loc) (ls : Array Slot), va_P (dC, dI) vwCl (wB h a1 a2 a3 a4 a5 a6 cb ci tp tl (wbS (wbH vo b u) (b * 64) (sumB (wbH vo b u) (b * 64)) k) np rp rl rc sb sa) H → va_D A (wB h a1 a2 a3 a4 a5 a6 cb ci tp tl (wbS (wbH vo b u) (b * 64) (sumB (wbH vo b u) (b * 64)) k) np rp rl rc sb sa) → va_S A s.heap H locs → lv_has ls 6 [(5, .int (nI k)), (4, .int (sumB (wbH vo b u) (b * 64))), (0, .ref h), (3, .int (nI (b * 64)))] → W p l e ({ frames := 2, cells := 0, slots := 0, locals := 48 }) s m ([.ref h, .int (nI b), .int (nI u)] : List Value).toArray below meth c H locs 0 0 Q (F0 m 46 ls []) := by
    intro n
    induction n with
    | zero => intro k h1 h2; exact absurd h2 (by omega)
    | succ n ih =>
      intro k hkA hkB H locs ls hP hD hS hl
      refine lv_iload hx hb dX0_writeBlock_46 (lv_at hl 0 rfl) ?_
      refine lv_iconst (v := nI 4) hx hb dX0_writeBlock_48 (by decide) ?_
      refine lv_icmp_ge (tgt := 81) hx hb dX0_writeBlock_49 (by decide) (fun c_49 => ?_) (fun c_49 => ?_)
      · have c_49 := (nI_leI (by omega) (by omega)).mp c_49
        have hkE : k = 4 := by omega
        subst hkE
        have hP : va_P (dC, dI) vwCl (wB h a1 a2 a3 a4 a5 a6 cb ci tp tl (wbV vo b u) np rp rl rc sb sa) H := hP
        have hD : va_D A (wB h a1 a2 a3 a4 a5 a6 cb ci tp tl (wbV vo b u) np rp rl rc sb sa) := hD
        exact hret _ _ _ _ hP hD hS dX0_writeBlock_81
      · have c_49 := kmt (nI_leI (by omega) (by omega)).mpr c_49
        refine lv_aload_n hx hb dX0_writeBlock_52 rfl (lv_at hl 2 rfl) ?_
        refine va_get (D := (dC, dI)) (ci := 0) (v := .ref a2) (C := RX0) (T := TX0) (N := 9) hx hb hts hin0 hown hK hP 0 rfl rfl 2 (by decide) lkf13 (fun _ h9 => h9) rfl dX0_writeBlock_53 ?_
        refine lv_iload_n hx hb dX0_writeBlock_56 rfl (lv_at hl 3 rfl) ?_
        refine lv_iconst (v := nI 4) hx hb dX0_writeBlock_57 (by decide) ?_
        refine lv_iadd hx hb dX0_writeBlock_58 ?_
        refine kv_top (show _ = nI ((b * 64) + 4) from nI_add _ _) ?_
        refine lv_iload hx hb dX0_writeBlock_59 (lv_at hl 0 rfl) ?_
        refine lv_iadd hx hb dX0_writeBlock_61 ?_
        refine kv_top (show _ = nI (((b * 64) + 4) + k) from nI_add _ _) ?_
        refine lv_iload hx hb dX0_writeBlock_62 (lv_at hl 1 rfl) ?_
        refine lv_bipush (v := nI 24) hx hb dX0_writeBlock_64 (by decide) ?_
        refine lv_bipush (v := nI 8) hx hb dX0_writeBlock_66 (by decide) ?_
        refine lv_iload hx hb dX0_writeBlock_68 (lv_at hl 0 rfl) ?_
        refine lv_imul hx hb dX0_writeBlock_70 ?_
        refine kv_top (show _ = nI (8 * k) from pk_mul _ _) ?_
        refine lv_isub hx hb dX0_writeBlock_71 ?_
        refine kv_top (show _ = nI (24 - (8 * k)) from pk_sub (by omega)) ?_
        refine lv_iushr (v := ush (sumB (wbH vo b u) (b * 64)) (24 - (8 * k))) hx hb dX0_writeBlock_72 rfl ?_
        refine lv_i2b (v := bn (ush (sumB (wbH vo b u) (b * 64)) (24 - (8 * k)))) hx hb dX0_writeBlock_73 rfl ?_
        refine ka_bast hx hb hK hP hD hS 2 0 rfl rfl (k := ((b * 64) + 4) + k) (x := bn (ush (sumB (wbH vo b u) (b * 64)) (24 - (8 * k)))) (by omega) (by decide) (pk_vb _) dX0_writeBlock_74 (fun H locs hP hD hS => ?_)
        have hP : va_P (dC, dI) vwCl (wB h a1 a2 a3 a4 a5 a6 cb ci tp tl (upd (wbS (wbH vo b u) (b * 64) (sumB (wbH vo b u) (b * 64)) k) (((b * 64) + 4) + k) (bn (ush (sumB (wbH vo b u) (b * 64)) (24 - (8 * k))))) np rp rl rc sb sa) H := hP
        have hD : va_D A (wB h a1 a2 a3 a4 a5 a6 cb ci tp tl (upd (wbS (wbH vo b u) (b * 64) (sumB (wbH vo b u) (b * 64)) k) (((b * 64) + 4) + k) (bn (ush (sumB (wbH vo b u) (b * 64)) (24 - (8 * k))))) np rp rl rc sb sa) := hD
        refine lv_iinc (v := nI (k + 1)) (lv' := [(5, .int (nI (k + 1))), (4, .int (sumB (wbH vo b u) (b * 64))), (0, .ref h), (3, .int (nI (b * 64)))]) hx hb dX0_writeBlock_75 hl (k := 0) rfl (ki_inc _) (by decide) rfl (fun ls hl => ?_)
        refine lv_goto (tgt := 46) hx hb dX0_writeBlock_78 (by decide) ?_
        have hP : va_P (dC, dI) vwCl (wB h a1 a2 a3 a4 a5 a6 cb ci tp tl (wbS (wbH vo b u) (b * 64) (sumB (wbH vo b u) (b * 64)) (k + 1)) np rp rl rc sb sa) H := hP
        have hD : va_D A (wB h a1 a2 a3 a4 a5 a6 cb ci tp tl (wbS (wbH vo b u) (b * 64) (sumB (wbH vo b u) (b * 64)) (k + 1)) np rp rl rc sb sa) := hD
        exact ih (k + 1) (by omega) (by omega) _ _ _ hP hD hS (lv_sub hl [0, 1, 2, 3] rfl)
  have hP : va_P (dC, dI) vwCl (wB h a1 a2 a3 a4 a5 a6 cb ci tp tl (wbS (wbH vo b u) (b * 64) (sumB (wbH vo b u) (b * 64)) (0)) np rp rl rc sb sa) H := hP
  have hD : va_D A (wB h a1 a2 a3 a4 a5 a6 cb ci tp tl (wbS (wbH vo b u) (b * 64) (sumB (wbH vo b u) (b * 64)) (0)) np rp rl rc sb sa) := hD
  exact hloopk (4 + 1) 0 (by omega) (by omega) _ _ _ hP hD hS (lv_sub hl [0, 1, 3, 2] rfl)
set_option maxHeartbeats 4000000 in
set_option maxRecDepth 100000 in
theorem c_append (l : Launch) (dC : Nat → ClassId) (dI : Nat → Nat → Nat) (h a1 a2 a3 a4 a5 a6 : Nat) (cb ci : ClassId) (tp : Nat → Int32) (tl : Nat) (vo : Nat → Int32) (np : Nat) (rp rl : Nat → Nat) (rc : Nat) (sb sa : Nat → Nat) (sz : Nat) (v : Int32) (hnp : np < 4480) : Met l yX0_append wsX0_append ({ frames := 3, cells := 0, slots := 0, locals := 73 }) (kPre (dC, dI) vwCl (wB h a1 a2 a3 a4 a5 a6 cb ci tp tl vo np rp rl rc sb sa) (tB cb ci) sz [.ref h, .int v]) (kQv (dC, dI) vwCl (wB h a1 a2 a3 a4 a5 a6 cb ci tp tl vo np rp rl rc sb sa) (tB cb ci) sz (wB h a1 a2 a3 a4 a5 a6 cb ci tp tl (apV vo np v) (np + 1) rp rl rc sb sa)) 0 0 (va_A (wB h a1 a2 a3 a4 a5 a6 cb ci tp tl vo np rp rl rc sb sa) sz) := by
  refine kM_v (cc := cX0_append) (maxL := 2) (by decide) rfl (Nat.le_of_ble_eq_true rfl) ?_
  intro p e s m below meth c A Q ls H locs S hP hK hD hS hA hl hret
  obtain ⟨hx, hb, hml, hown, hts⟩ := id S
  have hin0 : ∀ w ∈ u_ws RX0 TX0 9, w ∈ wsX0_append := fun _ h => List.mem_cons_of_mem _ (List.mem_append_right _ h)
  have lkf13 := hts (.fieldLink RX0 13 "BlockTape" "volume" "[B") (by decide +kernel)
  have lkf44 := hts (.fieldLink RX0 44 "BlockTape" "nextPlace" "I") (by decide +kernel)
  have hl : lv_has ls 2 [(0, .ref h), (1, .int v)] := hl
  refine lv_aload_n hx hb dX0_append_0 rfl (lv_at hl 0 rfl) ?_
  refine va_get (D := (dC, dI)) (ci := 0) (v := .ref a2) (C := RX0) (T := TX0) (N := 9) hx hb hts hin0 hown hK hP 0 rfl rfl 2 (by decide) lkf13 (fun _ h9 => h9) rfl dX0_append_1 ?_
  refine lv_aload_n hx hb dX0_append_4 rfl (lv_at hl 0 rfl) ?_
  refine va_get (D := (dC, dI)) (ci := 0) (v := .int (nI np)) (C := RX0) (T := TX0) (N := 9) hx hb hts hin0 hown hK hP 0 rfl rfl 3 (by decide) lkf44 (fun _ h9 => h9) rfl dX0_append_5 ?_
  refine kc_si (WR := wB h a1 a2 a3 a4 a5 a6 cb ci tp tl vo np rp rl rc sb sa) (As := [.int (nI np)]) (rest := [.ref a2]) ⟨hx, hb, hml, hown, hts⟩ (c_indexOfPlace l dC dI H.size np (by omega)) (va_cwS 1 hts gX0_append_X0_indexOfPlace rfl rfl rfl (by decide +kernel) ⟨Nat.le_of_ble_eq_true rfl, Nat.le_of_ble_eq_true rfl⟩) hK hP hD hS hA [] [0, 1, 2, 3, 4, 5, 6] [] rfl rfl (by decide) (by decide) (by decide) rfl rfl hl.1 rfl (Nat.le_of_ble_eq_true rfl) dX0_append_8 ⟨Nat.zero_le _, Nat.zero_le _⟩ (fun H locs hP hD hS => ?_)
  have hP : va_P (dC, dI) vwCl (wB h a1 a2 a3 a4 a5 a6 cb ci tp tl vo np rp rl rc sb sa) H := hP
  have hD : va_D A (wB h a1 a2 a3 a4 a5 a6 cb ci tp tl vo np rp rl rc sb sa) := hD
  refine lv_iload_n hx hb dX0_append_11 rfl (lv_at hl 1 rfl) ?_
  refine lv_i2b (v := bn v) hx hb dX0_append_12 rfl ?_
  refine ka_bast hx hb hK hP hD hS 2 0 rfl rfl (k := ix np) (x := bn v) (ix_lt (by omega)) (by decide) (pk_vb _) dX0_append_13 (fun H locs hP hD hS => ?_)
  have hP : va_P (dC, dI) vwCl (wB h a1 a2 a3 a4 a5 a6 cb ci tp tl (upd vo (ix np) (bn v)) np rp rl rc sb sa) H := hP
  have hD : va_D A (wB h a1 a2 a3 a4 a5 a6 cb ci tp tl (upd vo (ix np) (bn v)) np rp rl rc sb sa) := hD
  refine lv_aload_n hx hb dX0_append_14 rfl (lv_at hl 0 rfl) ?_
  refine lv_dup hx hb dX0_append_15 rfl ?_
  refine va_get (D := (dC, dI)) (ci := 0) (v := .int (nI np)) (C := RX0) (T := TX0) (N := 9) hx hb hts hin0 hown hK hP 0 rfl rfl 3 (by decide) lkf44 (fun _ h9 => h9) rfl dX0_append_16 ?_
  refine lv_iconst (v := nI 1) hx hb dX0_append_19 (by decide) ?_
  refine lv_iadd hx hb dX0_append_20 ?_
  refine kv_top (show _ = nI (np + 1) from nI_add _ _) ?_
  refine va_put (D := (dC, dI)) (ci := 0) (v := .int (nI (np + 1))) (ty := .int) (C := RX0) (T := TX0) (N := 9) hx hb hts hin0 tyX0 tyX0_ok nmX0 hown hK hP hD hS 0 rfl rfl 3 (by decide) lkf44 (fun _ h9 => h9) rfl (by decide +kernel) rfl rfl (Nat.le_of_ble_eq_true rfl) dX0_append_21 (fun H locs hP hD hS => ?_)
  have hP : va_P (dC, dI) vwCl (wB h a1 a2 a3 a4 a5 a6 cb ci tp tl (upd vo (ix np) (bn v)) (np + 1) rp rl rc sb sa) H := hP
  have hD : va_D A (wB h a1 a2 a3 a4 a5 a6 cb ci tp tl (upd vo (ix np) (bn v)) (np + 1) rp rl rc sb sa) := hD
  refine lv_aload_n hx hb dX0_append_24 rfl (lv_at hl 0 rfl) ?_
  refine va_get (D := (dC, dI)) (ci := 0) (v := .int (nI (np + 1))) (C := RX0) (T := TX0) (N := 9) hx hb hts hin0 hown hK hP 0 rfl rfl 3 (by decide) lkf44 (fun _ h9 => h9) rfl dX0_append_25 ?_
  refine lv_bipush (v := nI 56) hx hb dX0_append_28 (by decide) ?_
  refine lv_irem hx hb dX0_append_30 (by decide) ?_
  refine kv_top (show _ = nI ((np + 1) % 56) from pk_rem (by omega) (by omega) (by omega)) ?_
  refine lv_if_ne (tgt := 49) hx hb dX0_append_31 (by decide) (fun c_31 => ?_) (fun c_31 => ?_)
  · have c_31 := kmt (kn_eq0 (by omega)).mpr c_31
    have hwE : wB h a1 a2 a3 a4 a5 a6 cb ci tp tl (upd vo (ix np) (bn v)) (np + 1) rp rl rc sb sa = wB h a1 a2 a3 a4 a5 a6 cb ci tp tl (apV vo np v) (np + 1) rp rl rc sb sa := by rw [apV, if_neg c_31]
    rw [hwE] at hP hD
    exact hret _ _ _ _ hP hD hS dX0_append_49
  · have c_31 := (kn_eq0 (by omega)).mp c_31
    refine lv_aload_n hx hb dX0_append_34 rfl (lv_at hl 0 rfl) ?_
    refine lv_aload_n hx hb dX0_append_35 rfl (lv_at hl 0 rfl) ?_
    refine va_get (D := (dC, dI)) (ci := 0) (v := .int (nI (np + 1))) (C := RX0) (T := TX0) (N := 9) hx hb hts hin0 hown hK hP 0 rfl rfl 3 (by decide) lkf44 (fun _ h9 => h9) rfl dX0_append_36 ?_
    refine lv_bipush (v := nI 56) hx hb dX0_append_39 (by decide) ?_
    refine lv_idiv hx hb dX0_append_41 (by decide) ?_
    refine kv_top (show _ = nI ((np + 1) / 56) from pk_div (by omega) (by omega) (by omega)) ?_
    refine lv_iconst (v := nI 1) hx hb dX0_append_42 (by decide) ?_
    refine lv_isub hx hb dX0_append_43 ?_
    refine kv_top (show _ = nI (((np + 1) / 56) - 1) from pk_sub (by omega)) ?_
    refine lv_bipush (v := nI 56) hx hb dX0_append_44 (by decide) ?_
    refine kc_vv (WR := []) (As := [.int (nI (((np + 1) / 56) - 1)), .int (nI 56)]) (rest := []) ⟨hx, hb, hml, hown, hts⟩ (c_writeBlock l dC dI h a1 a2 a3 a4 a5 a6 cb ci tp tl (upd vo (ix np) (bn v)) (np + 1) rp rl rc sb sa H.size (((np + 1) / 56) - 1) 56 (by omega) (by omega)) (cwV 2 hts gX0_append_X0_writeBlock rfl rfl rfl (by decide +kernel) ⟨Nat.le_of_ble_eq_true rfl, Nat.le_of_ble_eq_true rfl⟩) hK hP hD hS hA [0, 1, 2, 3, 4, 5, 6] [] [0, 1] rfl rfl (by decide) (by decide) (by decide) rfl 0 0 rfl rfl rfl rfl hl.1 rfl (Nat.le_of_ble_eq_true rfl) dX0_append_46 ⟨Nat.zero_le _, Nat.zero_le _⟩ (fun H locs hP hD hS => ?_)
    have hP : va_P (dC, dI) vwCl (wB h a1 a2 a3 a4 a5 a6 cb ci tp tl (wbV (upd vo (ix np) (bn v)) (((np + 1) / 56) - 1) 56) (np + 1) rp rl rc sb sa) H := hP
    have hD : va_D A (wB h a1 a2 a3 a4 a5 a6 cb ci tp tl (wbV (upd vo (ix np) (bn v)) (((np + 1) / 56) - 1) 56) (np + 1) rp rl rc sb sa) := hD
    have hwE : wB h a1 a2 a3 a4 a5 a6 cb ci tp tl (wbV (upd vo (ix np) (bn v)) (((np + 1) / 56) - 1) 56) (np + 1) rp rl rc sb sa = wB h a1 a2 a3 a4 a5 a6 cb ci tp tl (apV vo np v) (np + 1) rp rl rc sb sa := by rw [apV, if_pos c_31]
    rw [hwE] at hP hD
    exact hret _ _ _ _ hP hD hS dX0_append_49
set_option maxHeartbeats 4000000 in
set_option maxRecDepth 100000 in
theorem c_appendRow (l : Launch) (dC : Nat → ClassId) (dI : Nat → Nat → Nat) (h a1 a2 a3 a4 a5 a6 : Nat) (cb ci : ClassId) (tp : Nat → Int32) (tl : Nat) (vo : Nat → Int32) (np : Nat) (rp rl : Nat → Nat) (rc : Nat) (sb sa : Nat → Nat) (sz : Nat) (sv : Int32) (iv : Int32) (htl : tl ≤ 300) (hnp : np + 6 + tl ≤ 4480) : Met l yX0_appendRow wsX0_appendRow ({ frames := 4, cells := 0, slots := 0, locals := 94 }) (kPre (dC, dI) vwCl (wB h a1 a2 a3 a4 a5 a6 cb ci tp tl vo np rp rl rc sb sa) (tB cb ci) sz [.ref h, .int sv, .int iv]) (kQv (dC, dI) vwCl (wB h a1 a2 a3 a4 a5 a6 cb ci tp tl vo np rp rl rc sb sa) (tB cb ci) sz (wB h a1 a2 a3 a4 a5 a6 cb ci tp tl (apR vo np sv iv tp tl) (np + 6 + tl) rp rl rc sb sa)) 0 0 (va_A (wB h a1 a2 a3 a4 a5 a6 cb ci tp tl vo np rp rl rc sb sa) sz) := by
  refine kM_v (cc := cX0_appendRow) (maxL := 4) (by decide) rfl (Nat.le_of_ble_eq_true rfl) ?_
  intro p e s m below meth c A Q ls H locs S hP hK hD hS hA hl hret
  obtain ⟨hx, hb, hml, hown, hts⟩ := id S
  have hin0 : ∀ w ∈ u_ws RX0 TX0 9, w ∈ wsX0_appendRow := fun _ h => List.mem_cons_of_mem _ (List.mem_append_right _ h)
  have lkf29 := hts (.fieldLink RX0 29 "BlockTape" "tapeLength" "I") (by decide +kernel)
  have lkf9 := hts (.fieldLink RX0 9 "BlockTape" "tape" "[B") (by decide +kernel)
  have hl : lv_has ls 4 [(0, .ref h), (1, .int sv), (2, .int iv)] := hl
  refine lv_aload_n hx hb dX0_appendRow_0 rfl (lv_at hl 0 rfl) ?_
  refine lv_iload_n hx hb dX0_appendRow_1 rfl (lv_at hl 1 rfl) ?_
  refine kc_vv (WR := []) (As := [.int sv]) (rest := []) ⟨hx, hb, hml, hown, hts⟩ (c_append l dC dI h a1 a2 a3 a4 a5 a6 cb ci tp tl vo np rp rl rc sb sa H.size sv (by omega)) (cwV 1 hts gX0_appendRow_X0_append rfl rfl rfl (by decide +kernel) ⟨Nat.le_of_ble_eq_true rfl, Nat.le_of_ble_eq_true rfl⟩) hK hP hD hS hA [0, 1, 2, 3, 4, 5, 6] [] [0, 1] rfl rfl (by decide) (by decide) (by decide) rfl 0 0 rfl rfl rfl rfl hl.1 rfl (Nat.le_of_ble_eq_true rfl) dX0_appendRow_2 ⟨Nat.zero_le _, Nat.zero_le _⟩ (fun H locs hP hD hS => ?_)
  have hP : va_P (dC, dI) vwCl (wB h a1 a2 a3 a4 a5 a6 cb ci tp tl (apV vo np sv) (np + 1) rp rl rc sb sa) H := hP
  have hD : va_D A (wB h a1 a2 a3 a4 a5 a6 cb ci tp tl (apV vo np sv) (np + 1) rp rl rc sb sa) := hD
  refine lv_aload_n hx hb dX0_appendRow_5 rfl (lv_at hl 0 rfl) ?_
  refine lv_iload_n hx hb dX0_appendRow_6 rfl (lv_at hl 2 rfl) ?_
  refine lv_bipush (v := nI 8) hx hb dX0_appendRow_7 (by decide) ?_
  refine lv_iushr (v := ush iv 8) hx hb dX0_appendRow_9 rfl ?_
  refine kc_vv (WR := []) (As := [.int (ush iv 8)]) (rest := []) ⟨hx, hb, hml, hown, hts⟩ (c_append l dC dI h a1 a2 a3 a4 a5 a6 cb ci tp tl (apV vo np sv) (np + 1) rp rl rc sb sa H.size (ush iv 8) (by omega)) (cwV 1 hts gX0_appendRow_X0_append rfl rfl rfl (by decide +kernel) ⟨Nat.le_of_ble_eq_true rfl, Nat.le_of_ble_eq_true rfl⟩) hK hP hD hS hA [0, 1, 2, 3, 4, 5, 6] [] [0, 1] rfl rfl (by decide) (by decide) (by decide) rfl 0 0 rfl rfl rfl rfl hl.1 rfl (Nat.le_of_ble_eq_true rfl) dX0_appendRow_10 ⟨Nat.zero_le _, Nat.zero_le _⟩ (fun H locs hP hD hS => ?_)
  have hP : va_P (dC, dI) vwCl (wB h a1 a2 a3 a4 a5 a6 cb ci tp tl (apV (apV vo np sv) (np + 1) (ush iv 8)) ((np + 1) + 1) rp rl rc sb sa) H := hP
  have hD : va_D A (wB h a1 a2 a3 a4 a5 a6 cb ci tp tl (apV (apV vo np sv) (np + 1) (ush iv 8)) ((np + 1) + 1) rp rl rc sb sa) := hD
  refine lv_aload_n hx hb dX0_appendRow_13 rfl (lv_at hl 0 rfl) ?_
  refine lv_iload_n hx hb dX0_appendRow_14 rfl (lv_at hl 2 rfl) ?_
  refine kc_vv (WR := []) (As := [.int iv]) (rest := []) ⟨hx, hb, hml, hown, hts⟩ (c_append l dC dI h a1 a2 a3 a4 a5 a6 cb ci tp tl (apV (apV vo np sv) (np + 1) (ush iv 8)) ((np + 1) + 1) rp rl rc sb sa H.size iv (by omega)) (cwV 1 hts gX0_appendRow_X0_append rfl rfl rfl (by decide +kernel) ⟨Nat.le_of_ble_eq_true rfl, Nat.le_of_ble_eq_true rfl⟩) hK hP hD hS hA [0, 1, 2, 3, 4, 5, 6] [] [0, 1] rfl rfl (by decide) (by decide) (by decide) rfl 0 0 rfl rfl rfl rfl hl.1 rfl (Nat.le_of_ble_eq_true rfl) dX0_appendRow_15 ⟨Nat.zero_le _, Nat.zero_le _⟩ (fun H locs hP hD hS => ?_)
  have hP : va_P (dC, dI) vwCl (wB h a1 a2 a3 a4 a5 a6 cb ci tp tl (apV (apV (apV vo np sv) (np + 1) (ush iv 8)) ((np + 1) + 1) iv) (((np + 1) + 1) + 1) rp rl rc sb sa) H := hP
  have hD : va_D A (wB h a1 a2 a3 a4 a5 a6 cb ci tp tl (apV (apV (apV vo np sv) (np + 1) (ush iv 8)) ((np + 1) + 1) iv) (((np + 1) + 1) + 1) rp rl rc sb sa) := hD
  refine lv_aload_n hx hb dX0_appendRow_18 rfl (lv_at hl 0 rfl) ?_
  refine lv_aload_n hx hb dX0_appendRow_19 rfl (lv_at hl 0 rfl) ?_
  refine va_get (D := (dC, dI)) (ci := 0) (v := .int (nI tl)) (C := RX0) (T := TX0) (N := 9) hx hb hts hin0 hown hK hP 0 rfl rfl 1 (by decide) lkf29 (fun _ h9 => h9) rfl dX0_appendRow_20 ?_
  refine lv_bipush (v := nI 8) hx hb dX0_appendRow_23 (by decide) ?_
  refine lv_iushr (v := ush (nI tl) 8) hx hb dX0_appendRow_25 rfl ?_
  refine kc_vv (WR := []) (As := [.int (ush (nI tl) 8)]) (rest := []) ⟨hx, hb, hml, hown, hts⟩ (c_append l dC dI h a1 a2 a3 a4 a5 a6 cb ci tp tl (apV (apV (apV vo np sv) (np + 1) (ush iv 8)) ((np + 1) + 1) iv) (((np + 1) + 1) + 1) rp rl rc sb sa H.size (ush (nI tl) 8) (by omega)) (cwV 1 hts gX0_appendRow_X0_append rfl rfl rfl (by decide +kernel) ⟨Nat.le_of_ble_eq_true rfl, Nat.le_of_ble_eq_true rfl⟩) hK hP hD hS hA [0, 1, 2, 3, 4, 5, 6] [] [0, 1] rfl rfl (by decide) (by decide) (by decide) rfl 0 0 rfl rfl rfl rfl hl.1 rfl (Nat.le_of_ble_eq_true rfl) dX0_appendRow_26 ⟨Nat.zero_le _, Nat.zero_le _⟩ (fun H locs hP hD hS => ?_)
  have hP : va_P (dC, dI) vwCl (wB h a1 a2 a3 a4 a5 a6 cb ci tp tl (apV (apV (apV (apV vo np sv) (np + 1) (ush iv 8)) ((np + 1) + 1) iv) (((np + 1) + 1) + 1) (ush (nI tl) 8)) ((((np + 1) + 1) + 1) + 1) rp rl rc sb sa) H := hP
  have hD : va_D A (wB h a1 a2 a3 a4 a5 a6 cb ci tp tl (apV (apV (apV (apV vo np sv) (np + 1) (ush iv 8)) ((np + 1) + 1) iv) (((np + 1) + 1) + 1) (ush (nI tl) 8)) ((((np + 1) + 1) + 1) + 1) rp rl rc sb sa) := hD
  refine lv_aload_n hx hb dX0_appendRow_29 rfl (lv_at hl 0 rfl) ?_
  refine lv_aload_n hx hb dX0_appendRow_30 rfl (lv_at hl 0 rfl) ?_
  refine va_get (D := (dC, dI)) (ci := 0) (v := .int (nI tl)) (C := RX0) (T := TX0) (N := 9) hx hb hts hin0 hown hK hP 0 rfl rfl 1 (by decide) lkf29 (fun _ h9 => h9) rfl dX0_appendRow_31 ?_
  refine kc_vv (WR := []) (As := [.int (nI tl)]) (rest := []) ⟨hx, hb, hml, hown, hts⟩ (c_append l dC dI h a1 a2 a3 a4 a5 a6 cb ci tp tl (apV (apV (apV (apV vo np sv) (np + 1) (ush iv 8)) ((np + 1) + 1) iv) (((np + 1) + 1) + 1) (ush (nI tl) 8)) ((((np + 1) + 1) + 1) + 1) rp rl rc sb sa H.size (nI tl) (by omega)) (cwV 1 hts gX0_appendRow_X0_append rfl rfl rfl (by decide +kernel) ⟨Nat.le_of_ble_eq_true rfl, Nat.le_of_ble_eq_true rfl⟩) hK hP hD hS hA [0, 1, 2, 3, 4, 5, 6] [] [0, 1] rfl rfl (by decide) (by decide) (by decide) rfl 0 0 rfl rfl rfl rfl hl.1 rfl (Nat.le_of_ble_eq_true rfl) dX0_appendRow_34 ⟨Nat.zero_le _, Nat.zero_le _⟩ (fun H locs hP hD hS => ?_)
  have hP : va_P (dC, dI) vwCl (wB h a1 a2 a3 a4 a5 a6 cb ci tp tl (apV (apV (apV (apV (apV vo np sv) (np + 1) (ush iv 8)) ((np + 1) + 1) iv) (((np + 1) + 1) + 1) (ush (nI tl) 8)) ((((np + 1) + 1) + 1) + 1) (nI tl)) (((((np + 1) + 1) + 1) + 1) + 1) rp rl rc sb sa) H := hP
  have hD : va_D A (wB h a1 a2 a3 a4 a5 a6 cb ci tp tl (apV (apV (apV (apV (apV vo np sv) (np + 1) (ush iv 8)) ((np + 1) + 1) iv) (((np + 1) + 1) + 1) (ush (nI tl) 8)) ((((np + 1) + 1) + 1) + 1) (nI tl)) (((((np + 1) + 1) + 1) + 1) + 1) rp rl rc sb sa) := hD
  refine lv_aload_n hx hb dX0_appendRow_37 rfl (lv_at hl 0 rfl) ?_
  refine lv_bipush (v := nI 90) hx hb dX0_appendRow_38 (by decide) ?_
  refine kc_vv (WR := []) (As := [.int (nI 90)]) (rest := []) ⟨hx, hb, hml, hown, hts⟩ (c_append l dC dI h a1 a2 a3 a4 a5 a6 cb ci tp tl (apV (apV (apV (apV (apV vo np sv) (np + 1) (ush iv 8)) ((np + 1) + 1) iv) (((np + 1) + 1) + 1) (ush (nI tl) 8)) ((((np + 1) + 1) + 1) + 1) (nI tl)) (((((np + 1) + 1) + 1) + 1) + 1) rp rl rc sb sa H.size (nI 90) (by omega)) (cwV 1 hts gX0_appendRow_X0_append rfl rfl rfl (by decide +kernel) ⟨Nat.le_of_ble_eq_true rfl, Nat.le_of_ble_eq_true rfl⟩) hK hP hD hS hA [0, 1, 2, 3, 4, 5, 6] [] [0, 1] rfl rfl (by decide) (by decide) (by decide) rfl 0 0 rfl rfl rfl rfl hl.1 rfl (Nat.le_of_ble_eq_true rfl) dX0_appendRow_40 ⟨Nat.zero_le _, Nat.zero_le _⟩ (fun H locs hP hD hS => ?_)
  have hP : va_P (dC, dI) vwCl (wB h a1 a2 a3 a4 a5 a6 cb ci tp tl (apV (apV (apV (apV (apV (apV vo np sv) (np + 1) (ush iv 8)) ((np + 1) + 1) iv) (((np + 1) + 1) + 1) (ush (nI tl) 8)) ((((np + 1) + 1) + 1) + 1) (nI tl)) (((((np + 1) + 1) + 1) + 1) + 1) (nI 90)) ((((((np + 1) + 1) + 1) + 1) + 1) + 1) rp rl rc sb sa) H := hP
  have hD : va_D A (wB h a1 a2 a3 a4 a5 a6 cb ci tp tl (apV (apV (apV (apV (apV (apV vo np sv) (np + 1) (ush iv 8)) ((np + 1) + 1) iv) (((np + 1) + 1) + 1) (ush (nI tl) 8)) ((((np + 1) + 1) + 1) + 1) (nI tl)) (((((np + 1) + 1) + 1) + 1) + 1) (nI 90)) ((((((np + 1) + 1) + 1) + 1) + 1) + 1) rp rl rc sb sa) := hD
  have hP : va_P (dC, dI) vwCl (wB h a1 a2 a3 a4 a5 a6 cb ci tp tl (apH vo np sv iv tl) (np + 6) rp rl rc sb sa) H := hP
  have hD : va_D A (wB h a1 a2 a3 a4 a5 a6 cb ci tp tl (apH vo np sv iv tl) (np + 6) rp rl rc sb sa) := hD
  refine lv_iconst (v := nI 0) hx hb dX0_appendRow_43 (by decide) ?_
  refine lv_istore_n (lv' := [(3, .int (nI 0)), (0, .ref h), (1, .int sv), (2, .int iv)]) hx hb dX0_appendRow_44 rfl hl (by decide) rfl (fun ls hl => ?_)
  have hloopk : ∀ (n k : Nat), k ≤ tl → tl + 1 ≤ k + n → ∀ (H : Heap) (locs : List Loc) (ls : Array Slot), va_P (dC, dI) vwCl (wB h a1 a2 a3 a4 a5 a6 cb ci tp tl (apL (apH vo np sv iv tl) (np + 6) tp k) (np + 6 + k) rp rl rc sb sa) H → va_D A (wB h a1 a2 a3 a4 a5 a6 cb ci tp tl (apL (apH vo np sv iv tl) (np + 6) tp k) (np + 6 + k) rp rl rc sb sa) → va_S A s.heap H locs → lv_has ls 4 [(3, .int (nI k)), (0, .ref h)] → W p l e ({ frames := 4, cells := 0, slots := 0, locals := 94 }) s m ([.ref h, .int sv, .int iv] : List Value).toArray below meth c H locs 0 0 Q (F0 m 45 ls []) := by
    intro n
    induction n with
    | zero => intro k h1 h2; exact absurd h2 (by omega)
    | succ n ih =>
      intro k hkA hkB H locs ls hP hD hS hl
      refine lv_iload_n hx hb dX0_appendRow_45 rfl (lv_at hl 0 rfl) ?_
      refine lv_aload_n hx hb dX0_appendRow_46 rfl (lv_at hl 1 rfl) ?_
      refine va_get (D := (dC, dI)) (ci := 0) (v := .int (nI tl)) (C := RX0) (T := TX0) (N := 9) hx hb hts hin0 hown hK hP 0 rfl rfl 1 (by decide) lkf29 (fun _ h9 => h9) rfl dX0_appendRow_47 ?_
      refine lv_icmp_ge (tgt := 69) hx hb dX0_appendRow_50 (by decide) (fun c_50 => ?_) (fun c_50 => ?_)
      · have c_50 := (nI_leI (by omega) (by omega)).mp c_50
        have hkE : k = tl := by omega
        rw [hkE] at hP hD
        have hP : va_P (dC, dI) vwCl (wB h a1 a2 a3 a4 a5 a6 cb ci tp tl (apR vo np sv iv tp tl) (np + 6 + tl) rp rl rc sb sa) H := hP
        have hD : va_D A (wB h a1 a2 a3 a4 a5 a6 cb ci tp tl (apR vo np sv iv tp tl) (np + 6 + tl) rp rl rc sb sa) := hD
        exact hret _ _ _ _ hP hD hS dX0_appendRow_69
      · have c_50 := kmt (nI_leI (by omega) (by omega)).mpr c_50
        refine lv_aload_n hx hb dX0_appendRow_53 rfl (lv_at hl 1 rfl) ?_
        refine lv_aload_n hx hb dX0_appendRow_54 rfl (lv_at hl 1 rfl) ?_
        refine va_get (D := (dC, dI)) (ci := 0) (v := .ref a1) (C := RX0) (T := TX0) (N := 9) hx hb hts hin0 hown hK hP 0 rfl rfl 0 (by decide) lkf9 (fun _ h9 => h9) rfl dX0_appendRow_55 ?_
        refine lv_iload_n hx hb dX0_appendRow_58 rfl (lv_at hl 0 rfl) ?_
        refine ka_bald hx hb hK hP 1 0 rfl rfl (k := k) (by omega) (by decide) dX0_appendRow_59 ?_
        refine kc_vv (WR := []) (As := [.int (tp k)]) (rest := []) ⟨hx, hb, hml, hown, hts⟩ (c_append l dC dI h a1 a2 a3 a4 a5 a6 cb ci tp tl (apL (apH vo np sv iv tl) (np + 6) tp k) (np + 6 + k) rp rl rc sb sa H.size (tp k) (by omega)) (cwV 1 hts gX0_appendRow_X0_append rfl rfl rfl (by decide +kernel) ⟨Nat.le_of_ble_eq_true rfl, Nat.le_of_ble_eq_true rfl⟩) hK hP hD hS hA [0, 1, 2, 3, 4, 5, 6] [] [0, 1] rfl rfl (by decide) (by decide) (by decide) rfl 0 0 rfl rfl rfl rfl hl.1 rfl (Nat.le_of_ble_eq_true rfl) dX0_appendRow_60 ⟨Nat.zero_le _, Nat.zero_le _⟩ (fun H locs hP hD hS => ?_)
        have hP : va_P (dC, dI) vwCl (wB h a1 a2 a3 a4 a5 a6 cb ci tp tl (apV (apL (apH vo np sv iv tl) (np + 6) tp k) (np + 6 + k) (tp k)) ((np + 6 + k) + 1) rp rl rc sb sa) H := hP
        have hD : va_D A (wB h a1 a2 a3 a4 a5 a6 cb ci tp tl (apV (apL (apH vo np sv iv tl) (np + 6) tp k) (np + 6 + k) (tp k)) ((np + 6 + k) + 1) rp rl rc sb sa) := hD
        refine lv_iinc (v := nI (k + 1)) (lv' := [(3, .int (nI (k + 1))), (0, .ref h)]) hx hb dX0_appendRow_63 hl (k := 0) rfl (ki_inc _) (by decide) rfl (fun ls hl => ?_)
        refine lv_goto (tgt := 45) hx hb dX0_appendRow_66 (by decide) ?_
        have hP : va_P (dC, dI) vwCl (wB h a1 a2 a3 a4 a5 a6 cb ci tp tl (apL (apH vo np sv iv tl) (np + 6) tp (k + 1)) (np + 6 + (k + 1)) rp rl rc sb sa) H := hP
        have hD : va_D A (wB h a1 a2 a3 a4 a5 a6 cb ci tp tl (apL (apH vo np sv iv tl) (np + 6) tp (k + 1)) (np + 6 + (k + 1)) rp rl rc sb sa) := hD
        exact ih (k + 1) (by omega) (by omega) _ _ _ hP hD hS (lv_sub hl [0, 1] rfl)
  have hP : va_P (dC, dI) vwCl (wB h a1 a2 a3 a4 a5 a6 cb ci tp tl (apL (apH vo np sv iv tl) (np + 6) tp (0)) (np + 6 + (0)) rp rl rc sb sa) H := hP
  have hD : va_D A (wB h a1 a2 a3 a4 a5 a6 cb ci tp tl (apL (apH vo np sv iv tl) (np + 6) tp (0)) (np + 6 + (0)) rp rl rc sb sa) := hD
  exact hloopk (tl + 1) 0 (by omega) (by omega) _ _ _ hP hD hS (lv_sub hl [0, 1] rfl)
end
section
set_option maxHeartbeats 4000000 in
set_option maxRecDepth 100000 in
theorem c_good (l : Launch) (dC : Nat → ClassId) (dI : Nat → Nat → Nat) (h a1 a2 a3 a4 a5 a6 : Nat) (cb ci : ClassId) (tp : Nat → Int32) (tl : Nat) (vo : Nat → Int32) (np : Nat) (rp rl : Nat → Nat) (rc : Nat) (sb sa : Nat → Nat) (sz : Nat) (x : Int32) (hnp : np ≤ 4480) (hsb : ∀ b, b < 80 → sb b < 256) : Met l yX0_good wsX0_good ({ frames := 2, cells := 0, slots := 0, locals := 41 }) (kPre (dC, dI) vwCl (wB h a1 a2 a3 a4 a5 a6 cb ci tp tl vo np rp rl rc sb sa) (tB cb ci) sz [.ref h, .int x]) (kQi (dC, dI) vwCl (wB h a1 a2 a3 a4 a5 a6 cb ci tp tl vo np rp rl rc sb sa) (tB cb ci) sz (bI (goodX np sb x)) (wB h a1 a2 a3 a4 a5 a6 cb ci tp tl vo np rp rl rc sb sa)) 0 0 (va_A (wB h a1 a2 a3 a4 a5 a6 cb ci tp tl vo np rp rl rc sb sa) sz) := by
  refine kM_z (cc := cX0_good) (maxL := 2) (by decide) rfl (Nat.le_of_ble_eq_true rfl) (bI_n _) ?_
  intro p e s m below meth c A Q ls H locs S hP hK hD hS hA hl hret
  obtain ⟨hx, hb, hml, hown, hts⟩ := id S
  have hin0 : ∀ w ∈ u_ws RX0 TX0 9, w ∈ wsX0_good := fun _ h => List.mem_cons_of_mem _ (List.mem_append_right _ h)
  have lkf23 := hts (.fieldLink RX0 23 "BlockTape" "spoiltBy" "[I") (by decide +kernel)
  have hl : lv_has ls 2 [(0, .ref h), (1, .int x)] := hl
  refine lv_aload_n hx hb dX0_good_0 rfl (lv_at hl 0 rfl) ?_
  refine lv_iload_n hx hb dX0_good_1 rfl (lv_at hl 1 rfl) ?_
  refine kc_vi (WR := []) (As := [.int x]) (rest := []) ⟨hx, hb, hml, hown, hts⟩ (c_isWritten l dC dI h a1 a2 a3 a4 a5 a6 cb ci tp tl vo np rp rl rc sb sa H.size x (by omega)) (cwV 1 hts gX0_good_X0_isWritten rfl rfl rfl (by decide +kernel) ⟨Nat.le_of_ble_eq_true rfl, Nat.le_of_ble_eq_true rfl⟩) hK hP hD hS hA [0, 1, 2, 3, 4, 5, 6] [] [0, 1] rfl rfl (by decide) (by decide) (by decide) rfl 0 0 rfl rfl rfl rfl hl.1 rfl (Nat.le_of_ble_eq_true rfl) dX0_good_2 ⟨Nat.zero_le _, Nat.zero_le _⟩ (fun H locs hP hD hS => ?_)
  have hP : va_P (dC, dI) vwCl (wB h a1 a2 a3 a4 a5 a6 cb ci tp tl vo np rp rl rc sb sa) H := hP
  have hD : va_D A (wB h a1 a2 a3 a4 a5 a6 cb ci tp tl vo np rp rl rc sb sa) := hD
  refine lv_if_eq (tgt := 21) hx hb dX0_good_5 (by decide) (fun c_5 => ?_) (fun c_5 => ?_)
  · have c_5 := (bI_e _).mp c_5
    refine lv_iconst (v := nI 0) hx hb dX0_good_21 (by decide) ?_
    refine kv_top (show _ = bI (goodX np sb x) from (bI_f (goodX_f c_5))) ?_
    exact hret _ _ _ _ hP hD hS dX0_good_22
  · have c_5 := kmt (bI_e _).mpr c_5
    have c_5 := bT c_5
    obtain ⟨j, hj, rfl⟩ := isW_of c_5
    have hsj := hsb j (by omega)
    refine lv_aload_n hx hb dX0_good_8 rfl (lv_at hl 0 rfl) ?_
    refine va_get (D := (dC, dI)) (ci := 0) (v := .ref a5) (C := RX0) (T := TX0) (N := 9) hx hb hts hin0 hown hK hP 0 rfl rfl 7 (by decide) lkf23 (fun _ h9 => h9) rfl dX0_good_9 ?_
    refine lv_iload_n hx hb dX0_good_12 rfl (lv_at hl 1 rfl) ?_
    refine ka_ialdN hx hb hK hP 5 1 rfl rfl (k := j) (by omega) (by decide) dX0_good_13 ?_
    refine lv_if_ne (tgt := 21) hx hb dX0_good_14 (by decide) (fun c_14 => ?_) (fun c_14 => ?_)
    · have c_14 := kmt (kn_eq0 (by omega)).mpr c_14
      refine lv_iconst (v := nI 0) hx hb dX0_good_21 (by decide) ?_
      refine kv_top (show _ = bI (goodX np sb (nI j)) from (bI_f (by rw [goodX_n (by omega)]; simp [gd]; omega))) ?_
      exact hret _ _ _ _ hP hD hS dX0_good_22
    · have c_14 := (kn_eq0 (by omega)).mp c_14
      refine lv_iconst (v := nI 1) hx hb dX0_good_17 (by decide) ?_
      refine lv_goto (tgt := 22) hx hb dX0_good_18 (by decide) ?_
      refine kv_top (show _ = bI (goodX np sb (nI j)) from (bI_t (by rw [goodX_n (by omega)]; simp [gd]; omega))) ?_
      exact hret _ _ _ _ hP hD hS dX0_good_22
set_option maxHeartbeats 4000000 in
set_option maxRecDepth 100000 in
theorem c_isRead (l : Launch) (dC : Nat → ClassId) (dI : Nat → Nat → Nat) (h a1 a2 a3 a4 a5 a6 : Nat) (cb ci : ClassId) (tp : Nat → Int32) (tl : Nat) (vo : Nat → Int32) (np : Nat) (rp rl : Nat → Nat) (rc : Nat) (sb sa : Nat → Nat) (sz : Nat) (r : Nat) (hnp : np ≤ 4480) (hsb : ∀ b, b < 80 → sb b < 256) (hr : r < 200) (hrow : rp r + rl r ≤ 4480 ∧ 6 ≤ rl r) : Met l yX0_isRead wsX0_isRead ({ frames := 3, cells := 0, slots := 0, locals := 62 }) (kPre (dC, dI) vwCl (wB h a1 a2 a3 a4 a5 a6 cb ci tp tl vo np rp rl rc sb sa) (tB cb ci) sz [.ref h, .int (nI r)]) (kQi (dC, dI) vwCl (wB h a1 a2 a3 a4 a5 a6 cb ci tp tl vo np rp rl rc sb sa) (tB cb ci) sz (bI (isR np sb rp rl r)) (wB h a1 a2 a3 a4 a5 a6 cb ci tp tl vo np rp rl rc sb sa)) 0 0 (va_A (wB h a1 a2 a3 a4 a5 a6 cb ci tp tl vo np rp rl rc sb sa) sz) := by
  refine kM_z (cc := cX0_isRead) (maxL := 4) (by decide) rfl (Nat.le_of_ble_eq_true rfl) (bI_n _) ?_
  intro p e s m below meth c A Q ls H locs S hP hK hD hS hA hl hret
  obtain ⟨hx, hb, hml, hown, hts⟩ := id S
  have hin0 : ∀ w ∈ u_ws RX0 TX0 9, w ∈ wsX0_isRead := fun _ h => List.mem_cons_of_mem _ (List.mem_append_right _ h)
  have lkf16 := hts (.fieldLink RX0 16 "BlockTape" "rowPlace" "[I") (by decide +kernel)
  have lkf20 := hts (.fieldLink RX0 20 "BlockTape" "rowLength" "[I") (by decide +kernel)
  have hl : lv_has ls 4 [(0, .ref h), (1, .int (nI r))] := hl
  refine lv_aload_n hx hb dX0_isRead_0 rfl (lv_at hl 0 rfl) ?_
  refine va_get (D := (dC, dI)) (ci := 0) (v := .ref a3) (C := RX0) (T := TX0) (N := 9) hx hb hts hin0 hown hK hP 0 rfl rfl 4 (by decide) lkf16 (fun _ h9 => h9) rfl dX0_isRead_1 ?_
  refine lv_iload_n hx hb dX0_isRead_4 rfl (lv_at hl 1 rfl) ?_
  refine ka_ialdN hx hb hK hP 3 1 rfl rfl (k := r) (by omega) (by decide) dX0_isRead_5 ?_
  refine lv_aload_n hx hb dX0_isRead_6 rfl (lv_at hl 0 rfl) ?_
  refine va_get (D := (dC, dI)) (ci := 0) (v := .ref a4) (C := RX0) (T := TX0) (N := 9) hx hb hts hin0 hown hK hP 0 rfl rfl 5 (by decide) lkf20 (fun _ h9 => h9) rfl dX0_isRead_7 ?_
  refine lv_iload_n hx hb dX0_isRead_10 rfl (lv_at hl 1 rfl) ?_
  refine ka_ialdN hx hb hK hP 4 1 rfl rfl (k := r) (by omega) (by decide) dX0_isRead_11 ?_
  refine lv_iadd hx hb dX0_isRead_12 ?_
  refine kv_top (show _ = nI ((rp r) + (rl r)) from nI_add _ _) ?_
  refine lv_iconst (v := nI 1) hx hb dX0_isRead_13 (by decide) ?_
  refine lv_isub hx hb dX0_isRead_14 ?_
  refine kv_top (show _ = nI (((rp r) + (rl r)) - 1) from pk_sub (by omega)) ?_
  refine lv_bipush (v := nI 56) hx hb dX0_isRead_15 (by decide) ?_
  refine lv_idiv hx hb dX0_isRead_17 (by decide) ?_
  refine kv_top (show _ = nI ((((rp r) + (rl r)) - 1) / 56) from pk_div (by omega) (by omega) (by omega)) ?_
  refine lv_istore_n (lv' := [(2, .int (nI ((((rp r) + (rl r)) - 1) / 56))), (0, .ref h), (1, .int (nI r))]) hx hb dX0_isRead_18 rfl hl (by decide) rfl (fun ls hl => ?_)
  refine lv_aload_n hx hb dX0_isRead_19 rfl (lv_at hl 1 rfl) ?_
  refine va_get (D := (dC, dI)) (ci := 0) (v := .ref a3) (C := RX0) (T := TX0) (N := 9) hx hb hts hin0 hown hK hP 0 rfl rfl 4 (by decide) lkf16 (fun _ h9 => h9) rfl dX0_isRead_20 ?_
  refine lv_iload_n hx hb dX0_isRead_23 rfl (lv_at hl 2 rfl) ?_
  refine ka_ialdN hx hb hK hP 3 1 rfl rfl (k := r) (by omega) (by decide) dX0_isRead_24 ?_
  refine lv_bipush (v := nI 56) hx hb dX0_isRead_25 (by decide) ?_
  refine lv_idiv hx hb dX0_isRead_27 (by decide) ?_
  refine kv_top (show _ = nI ((rp r) / 56) from pk_div (by omega) (by omega) (by omega)) ?_
  refine lv_istore_n (lv' := [(3, .int (nI ((rp r) / 56))), (2, .int (nI ((((rp r) + (rl r)) - 1) / 56))), (0, .ref h), (1, .int (nI r))]) hx hb dX0_isRead_28 rfl hl (by decide) rfl (fun ls hl => ?_)
  have hloopk : ∀ (n k : Nat), k ≤ (((rp r) + (rl r)) - 1) / 56 + 1 → (((rp r) + (rl r)) - 1) / 56 + 1 + 1 ≤ k + n → (allG np sb ((((rp r) + (rl r)) - 1) / 56 + 1 - k) k = isR np sb rp rl r) → ∀ (H : Heap) (locs : List Loc) (ls : Array Slot), va_P (dC, dI) vwCl (wB h a1 a2 a3 a4 a5 a6 cb ci tp tl vo np rp rl rc sb sa) H → va_D A (wB h a1 a2 a3 a4 a5 a6 cb ci tp tl vo np rp rl rc sb sa) → va_S A s.heap H locs → lv_has ls 4 [(3, .int (nI k)), (2, .int (nI ((((rp r) + (rl r)) - 1) / 56))), (0, .ref h)] → W p l e ({ frames := 3, cells := 0, slots := 0, locals := 62 }) s m ([.ref h, .int (nI r)] : List Value).toArray below meth c H locs 0 0 Q (F0 m 29 ls []) := by
    intro n
    induction n with
    | zero => intro k h1 h2; exact absurd h2 (by omega)
    | succ n ih =>
      intro k hkA hkB hres H locs ls hP hD hS hl
      refine lv_iload_n hx hb dX0_isRead_29 rfl (lv_at hl 0 rfl) ?_
      refine lv_iload_n hx hb dX0_isRead_30 rfl (lv_at hl 1 rfl) ?_
      refine lv_icmp_gt (tgt := 50) hx hb dX0_isRead_31 (by decide) (fun c_31 => ?_) (fun c_31 => ?_)
      · have c_31 := (nI_ltI (by omega) (by omega)).mp c_31
        refine lv_iconst (v := nI 1) hx hb dX0_isRead_50 (by decide) ?_
        refine kv_top (show _ = bI (isR np sb rp rl r) from (bI_t (by rw [← hres, show (((rp r) + (rl r)) - 1) / 56 + 1 - k = 0 by omega]; rfl))) ?_
        exact hret _ _ _ _ hP hD hS dX0_isRead_51
      · have c_31 := kmt (nI_ltI (by omega) (by omega)).mpr c_31
        refine lv_aload_n hx hb dX0_isRead_34 rfl (lv_at hl 2 rfl) ?_
        refine lv_iload_n hx hb dX0_isRead_35 rfl (lv_at hl 0 rfl) ?_
        refine kc_vi (WR := []) (As := [.int (nI k)]) (rest := []) ⟨hx, hb, hml, hown, hts⟩ (c_good l dC dI h a1 a2 a3 a4 a5 a6 cb ci tp tl vo np rp rl rc sb sa H.size (nI k) (by omega) hsb) (cwV 1 hts gX0_isRead_X0_good rfl rfl rfl (by decide +kernel) ⟨Nat.le_of_ble_eq_true rfl, Nat.le_of_ble_eq_true rfl⟩) hK hP hD hS hA [0, 1, 2, 3, 4, 5, 6] [] [0, 1] rfl rfl (by decide) (by decide) (by decide) rfl 0 0 rfl rfl rfl rfl hl.1 rfl (Nat.le_of_ble_eq_true rfl) dX0_isRead_36 ⟨Nat.zero_le _, Nat.zero_le _⟩ (fun H locs hP hD hS => ?_)
        have hP : va_P (dC, dI) vwCl (wB h a1 a2 a3 a4 a5 a6 cb ci tp tl vo np rp rl rc sb sa) H := hP
        have hD : va_D A (wB h a1 a2 a3 a4 a5 a6 cb ci tp tl vo np rp rl rc sb sa) := hD
        refine kv_top (show _ = bI (gd np sb k) from by rw [goodX_n (by omega)]) ?_
        refine lv_if_ne (tgt := 44) hx hb dX0_isRead_39 (by decide) (fun c_39 => ?_) (fun c_39 => ?_)
        · have c_39 := kmt (bI_e _).mpr c_39
          have c_39 := bT c_39
          refine lv_iinc (v := nI (k + 1)) (lv' := [(3, .int (nI (k + 1))), (2, .int (nI ((((rp r) + (rl r)) - 1) / 56))), (0, .ref h)]) hx hb dX0_isRead_44 hl (k := 0) rfl (ki_inc _) (by decide) rfl (fun ls hl => ?_)
          refine lv_goto (tgt := 29) hx hb dX0_isRead_47 (by decide) ?_
          have hP : va_P (dC, dI) vwCl (wB h a1 a2 a3 a4 a5 a6 cb ci tp tl vo np rp rl rc sb sa) H := hP
          have hD : va_D A (wB h a1 a2 a3 a4 a5 a6 cb ci tp tl vo np rp rl rc sb sa) := hD
          exact ih (k + 1) (by omega) (by omega) (by rw [← hres, allG_step (T := (((rp r) + (rl r)) - 1) / 56 + 1) (k := k) (by omega), c_39]; rfl) _ _ _ hP hD hS (lv_sub hl [0, 1, 2] rfl)
        · have c_39 := (bI_e _).mp c_39
          refine lv_iconst (v := nI 0) hx hb dX0_isRead_42 (by decide) ?_
          refine kv_top (show _ = bI (isR np sb rp rl r) from (bI_f (by rw [← hres, allG_step (T := (((rp r) + (rl r)) - 1) / 56 + 1) (k := k) (by omega), c_39]; rfl))) ?_
          exact hret _ _ _ _ hP hD hS dX0_isRead_43
  have hP : va_P (dC, dI) vwCl (wB h a1 a2 a3 a4 a5 a6 cb ci tp tl vo np rp rl rc sb sa) H := hP
  have hD : va_D A (wB h a1 a2 a3 a4 a5 a6 cb ci tp tl vo np rp rl rc sb sa) := hD
  exact hloopk (((((rp r) + (rl r)) - 1) / 56 + 1) + 1) ((rp r) / 56) (by omega) (by omega) (rfl) _ _ _ hP hD hS (lv_sub hl [0, 1, 2] rfl)
set_option maxHeartbeats 4000000 in
set_option maxRecDepth 100000 in
theorem c_recordOfRead (l : Launch) (dC : Nat → ClassId) (dI : Nat → Nat → Nat) (h a1 a2 a3 a4 a5 a6 : Nat) (cb ci : ClassId) (tp : Nat → Int32) (tl : Nat) (vo : Nat → Int32) (np : Nat) (rp rl : Nat → Nat) (rc : Nat) (sb sa : Nat → Nat) (sz : Nat) (i : Int32) (hnp : np ≤ 4480) (hsb : ∀ b, b < 80 → sb b < 256) (hrc : rc ≤ 200) (hrow : ∀ k, k < rc → rp k + rl k ≤ 4480 ∧ 6 ≤ rl k) : Met l yX0_recordOfRead wsX0_recordOfRead ({ frames := 4, cells := 0, slots := 0, locals := 85 }) (kPre (dC, dI) vwCl (wB h a1 a2 a3 a4 a5 a6 cb ci tp tl vo np rp rl rc sb sa) (tB cb ci) sz [.ref h, .int i]) (kQi (dC, dI) vwCl (wB h a1 a2 a3 a4 a5 a6 cb ci tp tl vo np rp rl rc sb sa) (tB cb ci) sz (rOf (isR np sb rp rl) i rc 0 0) (wB h a1 a2 a3 a4 a5 a6 cb ci tp tl vo np rp rl rc sb sa)) 0 0 (va_A (wB h a1 a2 a3 a4 a5 a6 cb ci tp tl vo np rp rl rc sb sa) sz) := by
  refine kM_i (cc := cX0_recordOfRead) (maxL := 4) (by decide) rfl (Nat.le_of_ble_eq_true rfl) ?_
  intro p e s m below meth c A Q ls H locs S hP hK hD hS hA hl hret
  obtain ⟨hx, hb, hml, hown, hts⟩ := id S
  have hin0 : ∀ w ∈ u_ws RX0 TX0 9, w ∈ wsX0_recordOfRead := fun _ h => List.mem_cons_of_mem _ (List.mem_append_right _ h)
  have lkf34 := hts (.fieldLink RX0 34 "BlockTape" "records" "I") (by decide +kernel)
  have hl : lv_has ls 4 [(0, .ref h), (1, .int i)] := hl
  refine lv_iconst (v := nI 0) hx hb dX0_recordOfRead_0 (by decide) ?_
  refine lv_istore_n (lv' := [(2, .int (nI 0)), (0, .ref h), (1, .int i)]) hx hb dX0_recordOfRead_1 rfl hl (by decide) rfl (fun ls hl => ?_)
  refine lv_iconst (v := nI 0) hx hb dX0_recordOfRead_2 (by decide) ?_
  refine lv_istore_n (lv' := [(3, .int (nI 0)), (2, .int (nI 0)), (0, .ref h), (1, .int i)]) hx hb dX0_recordOfRead_3 rfl hl (by decide) rfl (fun ls hl => ?_)
  have hloopk : ∀ (n k : Nat), k ≤ rc → rc + 1 ≤ k + n → (rOf (isR np sb rp rl) i (rc - k) k (cntB (isR np sb rp rl) k) = rOf (isR np sb rp rl) i rc 0 0) → ∀ (H : Heap) (locs : List Loc) (ls : Array Slot), va_P (dC, dI) vwCl (wB h a1 a2 a3 a4 a5 a6 cb ci tp tl vo np rp rl rc sb sa) H → va_D A (wB h a1 a2 a3 a4 a5 a6 cb ci tp tl vo np rp rl rc sb sa) → va_S A s.heap H locs → lv_has ls 4 [(3, .int (nI k)), (2, .int (nI (cntB (isR np sb rp rl) k))), (0, .ref h), (1, .int i)] → W p l e ({ frames := 4, cells := 0, slots := 0, locals := 85 }) s m ([.ref h, .int i] : List Value).toArray below meth c H locs 0 0 Q (F0 m 4 ls []) := by
    intro n
    induction n with
    | zero => intro k h1 h2; exact absurd h2 (by omega)
    | succ n ih =>
      intro k hkA hkB hres H locs ls hP hD hS hl
      refine lv_iload_n hx hb dX0_recordOfRead_4 rfl (lv_at hl 0 rfl) ?_
      refine lv_aload_n hx hb dX0_recordOfRead_5 rfl (lv_at hl 2 rfl) ?_
      refine va_get (D := (dC, dI)) (ci := 0) (v := .int (nI rc)) (C := RX0) (T := TX0) (N := 9) hx hb hts hin0 hown hK hP 0 rfl rfl 6 (by decide) lkf34 (fun _ h9 => h9) rfl dX0_recordOfRead_6 ?_
      refine lv_icmp_ge (tgt := 36) hx hb dX0_recordOfRead_9 (by decide) (fun c_9 => ?_) (fun c_9 => ?_)
      · have c_9 := (nI_leI (by omega) (by omega)).mp c_9
        refine lv_iconst (v := (-1)) hx hb dX0_recordOfRead_36 (by decide) ?_
        refine kv_top (show _ = rOf (isR np sb rp rl) i rc 0 0 from (by rw [← hres, show rc - k = 0 by omega]; rfl)) ?_
        exact hret _ _ _ _ hP hD hS dX0_recordOfRead_37
      · have c_9 := kmt (nI_leI (by omega) (by omega)).mpr c_9
        refine lv_aload_n hx hb dX0_recordOfRead_12 rfl (lv_at hl 2 rfl) ?_
        refine lv_iload_n hx hb dX0_recordOfRead_13 rfl (lv_at hl 0 rfl) ?_
        refine kc_vi (WR := []) (As := [.int (nI k)]) (rest := []) ⟨hx, hb, hml, hown, hts⟩ (c_isRead l dC dI h a1 a2 a3 a4 a5 a6 cb ci tp tl vo np rp rl rc sb sa H.size k (by omega) hsb (by omega) (hrow _ (by omega))) (cwV 1 hts gX0_recordOfRead_X0_isRead rfl rfl rfl (by decide +kernel) ⟨Nat.le_of_ble_eq_true rfl, Nat.le_of_ble_eq_true rfl⟩) hK hP hD hS hA [0, 1, 2, 3, 4, 5, 6] [] [0, 1] rfl rfl (by decide) (by decide) (by decide) rfl 0 0 rfl rfl rfl rfl hl.1 rfl (Nat.le_of_ble_eq_true rfl) dX0_recordOfRead_14 ⟨Nat.zero_le _, Nat.zero_le _⟩ (fun H locs hP hD hS => ?_)
        have hP : va_P (dC, dI) vwCl (wB h a1 a2 a3 a4 a5 a6 cb ci tp tl vo np rp rl rc sb sa) H := hP
        have hD : va_D A (wB h a1 a2 a3 a4 a5 a6 cb ci tp tl vo np rp rl rc sb sa) := hD
        refine lv_if_eq (tgt := 30) hx hb dX0_recordOfRead_17 (by decide) (fun c_17 => ?_) (fun c_17 => ?_)
        · have c_17 := (bI_e _).mp c_17
          rw [rOf_step (by omega), if_neg (by rw [c_17]; decide)] at hres
          rw [show cntB (isR np sb rp rl) k = cntB (isR np sb rp rl) (k + 1) from (by rw [cntB, if_neg (by rw [c_17]; decide)])] at hl hres
          refine lv_iinc (v := nI (k + 1)) (lv' := [(3, .int (nI (k + 1))), (2, .int (nI (cntB (isR np sb rp rl) (k + 1)))), (0, .ref h), (1, .int i)]) hx hb dX0_recordOfRead_30 hl (k := 0) rfl (ki_inc _) (by decide) rfl (fun ls hl => ?_)
          refine lv_goto (tgt := 4) hx hb dX0_recordOfRead_33 (by decide) ?_
          have hP : va_P (dC, dI) vwCl (wB h a1 a2 a3 a4 a5 a6 cb ci tp tl vo np rp rl rc sb sa) H := hP
          have hD : va_D A (wB h a1 a2 a3 a4 a5 a6 cb ci tp tl vo np rp rl rc sb sa) := hD
          exact ih (k + 1) (by omega) (by omega) (hres) _ _ _ hP hD hS (lv_sub hl [0, 1, 2, 3] rfl)
        · have c_17 := kmt (bI_e _).mpr c_17
          have c_17 := bT c_17
          rw [rOf_step (by omega), if_pos c_17] at hres
          have hcb := cntB_le (isR np sb rp rl) k
          refine lv_iload_n hx hb dX0_recordOfRead_20 rfl (lv_at hl 1 rfl) ?_
          refine lv_iload_n hx hb dX0_recordOfRead_21 rfl (lv_at hl 3 rfl) ?_
          refine lv_icmp_ne (tgt := 27) hx hb dX0_recordOfRead_22 (by decide) (fun c_22 => ?_) (fun c_22 => ?_)
          · have c_22 := kmt (kx_eqr (by omega)).mpr c_22
            rw [if_neg (fun h9 => c_22 ((kx_eqr (by omega)).mp h9))] at hres
            refine lv_iinc (v := nI ((cntB (isR np sb rp rl) k) + 1)) (lv' := [(2, .int (nI ((cntB (isR np sb rp rl) k) + 1))), (3, .int (nI k)), (0, .ref h), (1, .int i)]) hx hb dX0_recordOfRead_27 hl (k := 1) rfl (ki_inc _) (by decide) rfl (fun ls hl => ?_)
            rw [show (cntB (isR np sb rp rl) k) + 1 = cntB (isR np sb rp rl) (k + 1) from (by rw [cntB, if_pos c_17])] at hl hres
            refine lv_iinc (v := nI (k + 1)) (lv' := [(3, .int (nI (k + 1))), (2, .int (nI (cntB (isR np sb rp rl) (k + 1)))), (0, .ref h), (1, .int i)]) hx hb dX0_recordOfRead_30 hl (k := 1) rfl (ki_inc _) (by decide) rfl (fun ls hl => ?_)
            refine lv_goto (tgt := 4) hx hb dX0_recordOfRead_33 (by decide) ?_
            have hP : va_P (dC, dI) vwCl (wB h a1 a2 a3 a4 a5 a6 cb ci tp tl vo np rp rl rc sb sa) H := hP
            have hD : va_D A (wB h a1 a2 a3 a4 a5 a6 cb ci tp tl vo np rp rl rc sb sa) := hD
            exact ih (k + 1) (by omega) (by omega) (hres) _ _ _ hP hD hS (lv_sub hl [0, 1, 2, 3] rfl)
          · have c_22 := (kx_eqr (by omega)).mp c_22
            rw [if_pos ((kx_eqr (by omega)).mpr c_22)] at hres
            refine lv_iload_n hx hb dX0_recordOfRead_25 rfl (lv_at hl 0 rfl) ?_
            refine kv_top (show _ = rOf (isR np sb rp rl) i rc 0 0 from hres) ?_
            exact hret _ _ _ _ hP hD hS dX0_recordOfRead_26
  have hP : va_P (dC, dI) vwCl (wB h a1 a2 a3 a4 a5 a6 cb ci tp tl vo np rp rl rc sb sa) H := hP
  have hD : va_D A (wB h a1 a2 a3 a4 a5 a6 cb ci tp tl vo np rp rl rc sb sa) := hD
  exact hloopk (rc + 1) 0 (by omega) (by omega) (rfl) _ _ _ hP hD hS (lv_sub hl [0, 1, 2, 3] rfl)
set_option maxHeartbeats 4000000 in
set_option maxRecDepth 100000 in
theorem c_recordsRead (l : Launch) (dC : Nat → ClassId) (dI : Nat → Nat → Nat) (h a1 a2 a3 a4 a5 a6 : Nat) (cb ci : ClassId) (tp : Nat → Int32) (tl : Nat) (vo : Nat → Int32) (np : Nat) (rp rl : Nat → Nat) (rc : Nat) (sb sa : Nat → Nat) (sz : Nat) (hnp : np ≤ 4480) (hsb : ∀ b, b < 80 → sb b < 256) (hrc : rc ≤ 200) (hrow : ∀ k, k < rc → rp k + rl k ≤ 4480 ∧ 6 ≤ rl k) : Met l yX0_recordsRead wsX0_recordsRead ({ frames := 4, cells := 0, slots := 0, locals := 85 }) (kPre (dC, dI) vwCl (wB h a1 a2 a3 a4 a5 a6 cb ci tp tl vo np rp rl rc sb sa) (tB cb ci) sz [.ref h]) (kQi (dC, dI) vwCl (wB h a1 a2 a3 a4 a5 a6 cb ci tp tl vo np rp rl rc sb sa) (tB cb ci) sz (nI (cntB (isR np sb rp rl) rc)) (wB h a1 a2 a3 a4 a5 a6 cb ci tp tl vo np rp rl rc sb sa)) 0 0 (va_A (wB h a1 a2 a3 a4 a5 a6 cb ci tp tl vo np rp rl rc sb sa) sz) := by
  refine kM_i (cc := cX0_recordsRead) (maxL := 3) (by decide) rfl (Nat.le_of_ble_eq_true rfl) ?_
  intro p e s m below meth c A Q ls H locs S hP hK hD hS hA hl hret
  obtain ⟨hx, hb, hml, hown, hts⟩ := id S
  have hin0 : ∀ w ∈ u_ws RX0 TX0 9, w ∈ wsX0_recordsRead := fun _ h => List.mem_cons_of_mem _ (List.mem_append_right _ h)
  have lkf34 := hts (.fieldLink RX0 34 "BlockTape" "records" "I") (by decide +kernel)
  have hl : lv_has ls 3 [(0, .ref h)] := hl
  refine lv_iconst (v := nI 0) hx hb dX0_recordsRead_0 (by decide) ?_
  refine lv_istore_n (lv' := [(1, .int (nI 0)), (0, .ref h)]) hx hb dX0_recordsRead_1 rfl hl (by decide) rfl (fun ls hl => ?_)
  refine lv_iconst (v := nI 0) hx hb dX0_recordsRead_2 (by decide) ?_
  refine lv_istore_n (lv' := [(2, .int (nI 0)), (1, .int (nI 0)), (0, .ref h)]) hx hb dX0_recordsRead_3 rfl hl (by decide) rfl (fun ls hl => ?_)
  have hloopk : ∀ (n k : Nat), k ≤ rc → rc + 1 ≤ k + n → ∀ (H : Heap) (locs : List Loc) (ls : Array Slot), va_P (dC, dI) vwCl (wB h a1 a2 a3 a4 a5 a6 cb ci tp tl vo np rp rl rc sb sa) H → va_D A (wB h a1 a2 a3 a4 a5 a6 cb ci tp tl vo np rp rl rc sb sa) → va_S A s.heap H locs → lv_has ls 3 [(2, .int (nI k)), (1, .int (nI (cntB (isR np sb rp rl) k))), (0, .ref h)] → W p l e ({ frames := 4, cells := 0, slots := 0, locals := 85 }) s m ([.ref h] : List Value).toArray below meth c H locs 0 0 Q (F0 m 4 ls []) := by
    intro n
    induction n with
    | zero => intro k h1 h2; exact absurd h2 (by omega)
    | succ n ih =>
      intro k hkA hkB H locs ls hP hD hS hl
      refine lv_iload_n hx hb dX0_recordsRead_4 rfl (lv_at hl 0 rfl) ?_
      refine lv_aload_n hx hb dX0_recordsRead_5 rfl (lv_at hl 2 rfl) ?_
      refine va_get (D := (dC, dI)) (ci := 0) (v := .int (nI rc)) (C := RX0) (T := TX0) (N := 9) hx hb hts hin0 hown hK hP 0 rfl rfl 6 (by decide) lkf34 (fun _ h9 => h9) rfl dX0_recordsRead_6 ?_
      refine lv_icmp_ge (tgt := 29) hx hb dX0_recordsRead_9 (by decide) (fun c_9 => ?_) (fun c_9 => ?_)
      · have c_9 := (nI_leI (by omega) (by omega)).mp c_9
        refine lv_iload_n hx hb dX0_recordsRead_29 rfl (lv_at hl 1 rfl) ?_
        refine kv_top (show _ = nI (cntB (isR np sb rp rl) rc) from (by rw [show k = rc by omega])) ?_
        exact hret _ _ _ _ hP hD hS dX0_recordsRead_30
      · have c_9 := kmt (nI_leI (by omega) (by omega)).mpr c_9
        refine lv_aload_n hx hb dX0_recordsRead_12 rfl (lv_at hl 2 rfl) ?_
        refine lv_iload_n hx hb dX0_recordsRead_13 rfl (lv_at hl 0 rfl) ?_
        refine kc_vi (WR := []) (As := [.int (nI k)]) (rest := []) ⟨hx, hb, hml, hown, hts⟩ (c_isRead l dC dI h a1 a2 a3 a4 a5 a6 cb ci tp tl vo np rp rl rc sb sa H.size k (by omega) hsb (by omega) (hrow _ (by omega))) (cwV 1 hts gX0_recordsRead_X0_isRead rfl rfl rfl (by decide +kernel) ⟨Nat.le_of_ble_eq_true rfl, Nat.le_of_ble_eq_true rfl⟩) hK hP hD hS hA [0, 1, 2, 3, 4, 5, 6] [] [0, 1] rfl rfl (by decide) (by decide) (by decide) rfl 0 0 rfl rfl rfl rfl hl.1 rfl (Nat.le_of_ble_eq_true rfl) dX0_recordsRead_14 ⟨Nat.zero_le _, Nat.zero_le _⟩ (fun H locs hP hD hS => ?_)
        have hP : va_P (dC, dI) vwCl (wB h a1 a2 a3 a4 a5 a6 cb ci tp tl vo np rp rl rc sb sa) H := hP
        have hD : va_D A (wB h a1 a2 a3 a4 a5 a6 cb ci tp tl vo np rp rl rc sb sa) := hD
        refine lv_if_eq (tgt := 23) hx hb dX0_recordsRead_17 (by decide) (fun c_17 => ?_) (fun c_17 => ?_)
        · have c_17 := (bI_e _).mp c_17
          rw [show cntB (isR np sb rp rl) k = cntB (isR np sb rp rl) (k + 1) from (by rw [cntB, if_neg (by rw [c_17]; decide)])] at hl
          refine lv_iinc (v := nI (k + 1)) (lv' := [(2, .int (nI (k + 1))), (1, .int (nI (cntB (isR np sb rp rl) (k + 1)))), (0, .ref h)]) hx hb dX0_recordsRead_23 hl (k := 0) rfl (ki_inc _) (by decide) rfl (fun ls hl => ?_)
          refine lv_goto (tgt := 4) hx hb dX0_recordsRead_26 (by decide) ?_
          have hP : va_P (dC, dI) vwCl (wB h a1 a2 a3 a4 a5 a6 cb ci tp tl vo np rp rl rc sb sa) H := hP
          have hD : va_D A (wB h a1 a2 a3 a4 a5 a6 cb ci tp tl vo np rp rl rc sb sa) := hD
          exact ih (k + 1) (by omega) (by omega) _ _ _ hP hD hS (lv_sub hl [0, 1, 2] rfl)
        · have c_17 := kmt (bI_e _).mpr c_17
          have c_17 := bT c_17
          refine lv_iinc (v := nI ((cntB (isR np sb rp rl) k) + 1)) (lv' := [(1, .int (nI ((cntB (isR np sb rp rl) k) + 1))), (2, .int (nI k)), (0, .ref h)]) hx hb dX0_recordsRead_20 hl (k := 1) rfl (ki_inc _) (by decide) rfl (fun ls hl => ?_)
          rw [show (cntB (isR np sb rp rl) k) + 1 = cntB (isR np sb rp rl) (k + 1) from (by rw [cntB, if_pos (c_17)])] at hl
          refine lv_iinc (v := nI (k + 1)) (lv' := [(2, .int (nI (k + 1))), (1, .int (nI (cntB (isR np sb rp rl) (k + 1)))), (0, .ref h)]) hx hb dX0_recordsRead_23 hl (k := 1) rfl (ki_inc _) (by decide) rfl (fun ls hl => ?_)
          refine lv_goto (tgt := 4) hx hb dX0_recordsRead_26 (by decide) ?_
          have hP : va_P (dC, dI) vwCl (wB h a1 a2 a3 a4 a5 a6 cb ci tp tl vo np rp rl rc sb sa) H := hP
          have hD : va_D A (wB h a1 a2 a3 a4 a5 a6 cb ci tp tl vo np rp rl rc sb sa) := hD
          exact ih (k + 1) (by omega) (by omega) _ _ _ hP hD hS (lv_sub hl [0, 1, 2] rfl)
  have hP : va_P (dC, dI) vwCl (wB h a1 a2 a3 a4 a5 a6 cb ci tp tl vo np rp rl rc sb sa) H := hP
  have hD : va_D A (wB h a1 a2 a3 a4 a5 a6 cb ci tp tl vo np rp rl rc sb sa) := hD
  exact hloopk (rc + 1) 0 (by omega) (by omega) _ _ _ hP hD hS (lv_sub hl [0, 1, 2] rfl)
set_option maxHeartbeats 4000000 in
set_option maxRecDepth 100000 in
theorem c_blocksNotGood (l : Launch) (dC : Nat → ClassId) (dI : Nat → Nat → Nat) (h a1 a2 a3 a4 a5 a6 : Nat) (cb ci : ClassId) (tp : Nat → Int32) (tl : Nat) (vo : Nat → Int32) (np : Nat) (rp rl : Nat → Nat) (rc : Nat) (sb sa : Nat → Nat) (sz : Nat) (hnp : np ≤ 4480) (hsb : ∀ b, b < 80 → sb b < 256) : Met l yX0_blocksNotGood wsX0_blocksNotGood ({ frames := 3, cells := 0, slots := 0, locals := 62 }) (kPre (dC, dI) vwCl (wB h a1 a2 a3 a4 a5 a6 cb ci tp tl vo np rp rl rc sb sa) (tB cb ci) sz [.ref h]) (kQi (dC, dI) vwCl (wB h a1 a2 a3 a4 a5 a6 cb ci tp tl vo np rp rl rc sb sa) (tB cb ci) sz (nI (cntB (nG np sb) (np / 56))) (wB h a1 a2 a3 a4 a5 a6 cb ci tp tl vo np rp rl rc sb sa)) 0 0 (va_A (wB h a1 a2 a3 a4 a5 a6 cb ci tp tl vo np rp rl rc sb sa) sz) := by
  refine kM_i (cc := cX0_blocksNotGood) (maxL := 3) (by decide) rfl (Nat.le_of_ble_eq_true rfl) ?_
  intro p e s m below meth c A Q ls H locs S hP hK hD hS hA hl hret
  obtain ⟨hx, hb, hml, hown, hts⟩ := id S
  have hl : lv_has ls 3 [(0, .ref h)] := hl
  refine lv_iconst (v := nI 0) hx hb dX0_blocksNotGood_0 (by decide) ?_
  refine lv_istore_n (lv' := [(1, .int (nI 0)), (0, .ref h)]) hx hb dX0_blocksNotGood_1 rfl hl (by decide) rfl (fun ls hl => ?_)
  refine lv_iconst (v := nI 0) hx hb dX0_blocksNotGood_2 (by decide) ?_
  refine lv_istore_n (lv' := [(2, .int (nI 0)), (1, .int (nI 0)), (0, .ref h)]) hx hb dX0_blocksNotGood_3 rfl hl (by decide) rfl (fun ls hl => ?_)
  have hloopk : ∀ (n k : Nat), k ≤ np / 56 → np / 56 + 1 ≤ k + n → ∀ (H : Heap) (locs : List Loc) (ls : Array Slot), va_P (dC, dI) vwCl (wB h a1 a2 a3 a4 a5 a6 cb ci tp tl vo np rp rl rc sb sa) H → va_D A (wB h a1 a2 a3 a4 a5 a6 cb ci tp tl vo np rp rl rc sb sa) → va_S A s.heap H locs → lv_has ls 3 [(2, .int (nI k)), (1, .int (nI (cntB (nG np sb) k))), (0, .ref h)] → W p l e ({ frames := 3, cells := 0, slots := 0, locals := 62 }) s m ([.ref h] : List Value).toArray below meth c H locs 0 0 Q (F0 m 4 ls []) := by
    intro n
    induction n with
    | zero => intro k h1 h2; exact absurd h2 (by omega)
    | succ n ih =>
      intro k hkA hkB H locs ls hP hD hS hl
      refine lv_iload_n hx hb dX0_blocksNotGood_4 rfl (lv_at hl 0 rfl) ?_
      refine lv_aload_n hx hb dX0_blocksNotGood_5 rfl (lv_at hl 2 rfl) ?_
      refine kc_vi (WR := []) (As := []) (rest := [.int (nI k)]) ⟨hx, hb, hml, hown, hts⟩ (c_blocksWritten l dC dI h a1 a2 a3 a4 a5 a6 cb ci tp tl vo np rp rl rc sb sa H.size (by omega)) (cwV 0 hts gX0_blocksNotGood_X0_blocksWritten rfl rfl rfl (by decide +kernel) ⟨Nat.le_of_ble_eq_true rfl, Nat.le_of_ble_eq_true rfl⟩) hK hP hD hS hA [0, 1, 2, 3, 4, 5, 6] [] [0, 1] rfl rfl (by decide) (by decide) (by decide) rfl 0 0 rfl rfl rfl rfl hl.1 rfl (Nat.le_of_ble_eq_true rfl) dX0_blocksNotGood_6 ⟨Nat.zero_le _, Nat.zero_le _⟩ (fun H locs hP hD hS => ?_)
      have hP : va_P (dC, dI) vwCl (wB h a1 a2 a3 a4 a5 a6 cb ci tp tl vo np rp rl rc sb sa) H := hP
      have hD : va_D A (wB h a1 a2 a3 a4 a5 a6 cb ci tp tl vo np rp rl rc sb sa) := hD
      refine lv_icmp_ge (tgt := 29) hx hb dX0_blocksNotGood_9 (by decide) (fun c_9 => ?_) (fun c_9 => ?_)
      · have c_9 := (nI_leI (by omega) (by omega)).mp c_9
        refine lv_iload_n hx hb dX0_blocksNotGood_29 rfl (lv_at hl 1 rfl) ?_
        refine kv_top (show _ = nI (cntB (nG np sb) (np / 56)) from (by rw [show k = np / 56 by omega])) ?_
        exact hret _ _ _ _ hP hD hS dX0_blocksNotGood_30
      · have c_9 := kmt (nI_leI (by omega) (by omega)).mpr c_9
        refine lv_aload_n hx hb dX0_blocksNotGood_12 rfl (lv_at hl 2 rfl) ?_
        refine lv_iload_n hx hb dX0_blocksNotGood_13 rfl (lv_at hl 0 rfl) ?_
        refine kc_vi (WR := []) (As := [.int (nI k)]) (rest := []) ⟨hx, hb, hml, hown, hts⟩ (c_good l dC dI h a1 a2 a3 a4 a5 a6 cb ci tp tl vo np rp rl rc sb sa H.size (nI k) (by omega) hsb) (cwV 1 hts gX0_blocksNotGood_X0_good rfl rfl rfl (by decide +kernel) ⟨Nat.le_of_ble_eq_true rfl, Nat.le_of_ble_eq_true rfl⟩) hK hP hD hS hA [0, 1, 2, 3, 4, 5, 6] [] [0, 1] rfl rfl (by decide) (by decide) (by decide) rfl 0 0 rfl rfl rfl rfl hl.1 rfl (Nat.le_of_ble_eq_true rfl) dX0_blocksNotGood_14 ⟨Nat.zero_le _, Nat.zero_le _⟩ (fun H locs hP hD hS => ?_)
        have hP : va_P (dC, dI) vwCl (wB h a1 a2 a3 a4 a5 a6 cb ci tp tl vo np rp rl rc sb sa) H := hP
        have hD : va_D A (wB h a1 a2 a3 a4 a5 a6 cb ci tp tl vo np rp rl rc sb sa) := hD
        refine kv_top (show _ = bI (gd np sb k) from by rw [goodX_n (by omega)]) ?_
        refine lv_if_ne (tgt := 23) hx hb dX0_blocksNotGood_17 (by decide) (fun c_17 => ?_) (fun c_17 => ?_)
        · have c_17 := kmt (bI_e _).mpr c_17
          have c_17 := bT c_17
          rw [show cntB (nG np sb) k = cntB (nG np sb) (k + 1) from (by rw [cntB, if_neg (by simp [nG, c_17])])] at hl
          refine lv_iinc (v := nI (k + 1)) (lv' := [(2, .int (nI (k + 1))), (1, .int (nI (cntB (nG np sb) (k + 1)))), (0, .ref h)]) hx hb dX0_blocksNotGood_23 hl (k := 0) rfl (ki_inc _) (by decide) rfl (fun ls hl => ?_)
          refine lv_goto (tgt := 4) hx hb dX0_blocksNotGood_26 (by decide) ?_
          have hP : va_P (dC, dI) vwCl (wB h a1 a2 a3 a4 a5 a6 cb ci tp tl vo np rp rl rc sb sa) H := hP
          have hD : va_D A (wB h a1 a2 a3 a4 a5 a6 cb ci tp tl vo np rp rl rc sb sa) := hD
          exact ih (k + 1) (by omega) (by omega) _ _ _ hP hD hS (lv_sub hl [0, 1, 2] rfl)
        · have c_17 := (bI_e _).mp c_17
          refine lv_iinc (v := nI ((cntB (nG np sb) k) + 1)) (lv' := [(1, .int (nI ((cntB (nG np sb) k) + 1))), (2, .int (nI k)), (0, .ref h)]) hx hb dX0_blocksNotGood_20 hl (k := 1) rfl (ki_inc _) (by decide) rfl (fun ls hl => ?_)
          rw [show (cntB (nG np sb) k) + 1 = cntB (nG np sb) (k + 1) from (by rw [cntB, if_pos (by simp [nG, c_17])])] at hl
          refine lv_iinc (v := nI (k + 1)) (lv' := [(2, .int (nI (k + 1))), (1, .int (nI (cntB (nG np sb) (k + 1)))), (0, .ref h)]) hx hb dX0_blocksNotGood_23 hl (k := 1) rfl (ki_inc _) (by decide) rfl (fun ls hl => ?_)
          refine lv_goto (tgt := 4) hx hb dX0_blocksNotGood_26 (by decide) ?_
          have hP : va_P (dC, dI) vwCl (wB h a1 a2 a3 a4 a5 a6 cb ci tp tl vo np rp rl rc sb sa) H := hP
          have hD : va_D A (wB h a1 a2 a3 a4 a5 a6 cb ci tp tl vo np rp rl rc sb sa) := hD
          exact ih (k + 1) (by omega) (by omega) _ _ _ hP hD hS (lv_sub hl [0, 1, 2] rfl)
  have hP : va_P (dC, dI) vwCl (wB h a1 a2 a3 a4 a5 a6 cb ci tp tl vo np rp rl rc sb sa) H := hP
  have hD : va_D A (wB h a1 a2 a3 a4 a5 a6 cb ci tp tl vo np rp rl rc sb sa) := hD
  exact hloopk ((np / 56) + 1) 0 (by omega) (by omega) _ _ _ hP hD hS (lv_sub hl [0, 1, 2] rfl)
set_option maxHeartbeats 4000000 in
set_option maxRecDepth 100000 in
theorem c_rowByte (l : Launch) (dC : Nat → ClassId) (dI : Nat → Nat → Nat) (h a1 a2 a3 a4 a5 a6 : Nat) (cb ci : ClassId) (tp : Nat → Int32) (tl : Nat) (vo : Nat → Int32) (np : Nat) (rp rl : Nat → Nat) (rc : Nat) (sb sa : Nat → Nat) (sz : Nat) (r : Nat) (j : Nat) (hr : r < 200) (hj : rp r + j < 4480) : Met l yX0_rowByte wsX0_rowByte ({ frames := 1, cells := 0, slots := 0, locals := 20 }) (kPre (dC, dI) vwCl (wB h a1 a2 a3 a4 a5 a6 cb ci tp tl vo np rp rl rc sb sa) (tB cb ci) sz [.ref h, .int (nI r), .int (nI j)]) (kQi (dC, dI) vwCl (wB h a1 a2 a3 a4 a5 a6 cb ci tp tl vo np rp rl rc sb sa) (tB cb ci) sz (vo (ix (rp r + j)) &&& nI 255) (wB h a1 a2 a3 a4 a5 a6 cb ci tp tl vo np rp rl rc sb sa)) 0 0 (va_A (wB h a1 a2 a3 a4 a5 a6 cb ci tp tl vo np rp rl rc sb sa) sz) := by
  refine kM_i (cc := cX0_rowByte) (maxL := 3) (by decide) rfl (Nat.le_of_ble_eq_true rfl) ?_
  intro p e s m below meth c A Q ls H locs S hP hK hD hS hA hl hret
  obtain ⟨hx, hb, hml, hown, hts⟩ := id S
  have hin0 : ∀ w ∈ u_ws RX0 TX0 9, w ∈ wsX0_rowByte := fun _ h => List.mem_cons_of_mem _ (List.mem_append_right _ h)
  have lkf13 := hts (.fieldLink RX0 13 "BlockTape" "volume" "[B") (by decide +kernel)
  have lkf16 := hts (.fieldLink RX0 16 "BlockTape" "rowPlace" "[I") (by decide +kernel)
  have hl : lv_has ls 3 [(0, .ref h), (1, .int (nI r)), (2, .int (nI j))] := hl
  refine lv_aload_n hx hb dX0_rowByte_0 rfl (lv_at hl 0 rfl) ?_
  refine va_get (D := (dC, dI)) (ci := 0) (v := .ref a2) (C := RX0) (T := TX0) (N := 9) hx hb hts hin0 hown hK hP 0 rfl rfl 2 (by decide) lkf13 (fun _ h9 => h9) rfl dX0_rowByte_1 ?_
  refine lv_aload_n hx hb dX0_rowByte_4 rfl (lv_at hl 0 rfl) ?_
  refine va_get (D := (dC, dI)) (ci := 0) (v := .ref a3) (C := RX0) (T := TX0) (N := 9) hx hb hts hin0 hown hK hP 0 rfl rfl 4 (by decide) lkf16 (fun _ h9 => h9) rfl dX0_rowByte_5 ?_
  refine lv_iload_n hx hb dX0_rowByte_8 rfl (lv_at hl 1 rfl) ?_
  refine ka_ialdN hx hb hK hP 3 1 rfl rfl (k := r) (by omega) (by decide) dX0_rowByte_9 ?_
  refine lv_iload_n hx hb dX0_rowByte_10 rfl (lv_at hl 2 rfl) ?_
  refine lv_iadd hx hb dX0_rowByte_11 ?_
  refine kv_top (show _ = nI ((rp r) + j) from nI_add _ _) ?_
  refine kc_si (WR := wB h a1 a2 a3 a4 a5 a6 cb ci tp tl vo np rp rl rc sb sa) (As := [.int (nI ((rp r) + j))]) (rest := [.ref a2]) ⟨hx, hb, hml, hown, hts⟩ (c_indexOfPlace l dC dI H.size ((rp r) + j) (by omega)) (va_cwS 1 hts gX0_rowByte_X0_indexOfPlace rfl rfl rfl (by decide +kernel) ⟨Nat.le_of_ble_eq_true rfl, Nat.le_of_ble_eq_true rfl⟩) hK hP hD hS hA [] [0, 1, 2, 3, 4, 5, 6] [] rfl rfl (by decide) (by decide) (by decide) rfl rfl hl.1 rfl (Nat.le_of_ble_eq_true rfl) dX0_rowByte_12 ⟨Nat.zero_le _, Nat.zero_le _⟩ (fun H locs hP hD hS => ?_)
  have hP : va_P (dC, dI) vwCl (wB h a1 a2 a3 a4 a5 a6 cb ci tp tl vo np rp rl rc sb sa) H := hP
  have hD : va_D A (wB h a1 a2 a3 a4 a5 a6 cb ci tp tl vo np rp rl rc sb sa) := hD
  refine ka_bald hx hb hK hP 2 0 rfl rfl (k := ix ((rp r) + j)) (ix_lt (by omega)) (by decide) dX0_rowByte_15 ?_
  refine lv_sipush (v := nI 255) hx hb dX0_rowByte_16 (by decide) ?_
  refine lv_iand hx hb dX0_rowByte_19 ?_
  refine kv_top (show _ = vo (ix (rp r + j)) &&& nI 255 from rfl) ?_
  exact hret _ _ _ _ hP hD hS dX0_rowByte_20
set_option maxHeartbeats 4000000 in
set_option maxRecDepth 100000 in
theorem c_recordByte (l : Launch) (dC : Nat → ClassId) (dI : Nat → Nat → Nat) (h a1 a2 a3 a4 a5 a6 : Nat) (cb ci : ClassId) (tp : Nat → Int32) (tl : Nat) (vo : Nat → Int32) (np : Nat) (rp rl : Nat → Nat) (rc : Nat) (sb sa : Nat → Nat) (sz : Nat) (r : Nat) (x : Int32) (hr : r < 200) (hrow : rp r + rl r ≤ 4480 ∧ 6 ≤ rl r) : Met l yX0_recordByte wsX0_recordByte ({ frames := 2, cells := 0, slots := 0, locals := 42 }) (kPre (dC, dI) vwCl (wB h a1 a2 a3 a4 a5 a6 cb ci tp tl vo np rp rl rc sb sa) (tB cb ci) sz [.ref h, .int (nI r), .int x]) (kQi (dC, dI) vwCl (wB h a1 a2 a3 a4 a5 a6 cb ci tp tl vo np rp rl rc sb sa) (tB cb ci) sz (recB vo rp rl r x) (wB h a1 a2 a3 a4 a5 a6 cb ci tp tl vo np rp rl rc sb sa)) 0 0 (va_A (wB h a1 a2 a3 a4 a5 a6 cb ci tp tl vo np rp rl rc sb sa) sz) := by
  refine kM_i (cc := cX0_recordByte) (maxL := 3) (by decide) rfl (Nat.le_of_ble_eq_true rfl) ?_
  intro p e s m below meth c A Q ls H locs S hP hK hD hS hA hl hret
  obtain ⟨hx, hb, hml, hown, hts⟩ := id S
  have hin0 : ∀ w ∈ u_ws RX0 TX0 9, w ∈ wsX0_recordByte := fun _ h => List.mem_cons_of_mem _ (List.mem_append_right _ h)
  have lkf20 := hts (.fieldLink RX0 20 "BlockTape" "rowLength" "[I") (by decide +kernel)
  have hl : lv_has ls 3 [(0, .ref h), (1, .int (nI r)), (2, .int x)] := hl
  refine lv_iload_n hx hb dX0_recordByte_0 rfl (lv_at hl 2 rfl) ?_
  refine lv_if_lt (tgt := 17) hx hb dX0_recordByte_1 (by decide) (fun c_1 => ?_) (fun c_1 => ?_)
  · have c_1 := (kx_lt0).mp c_1
    refine lv_iconst (v := (-1)) hx hb dX0_recordByte_17 (by decide) ?_
    refine kv_top (show _ = recB vo rp rl r x from (by rw [recB, if_neg (by omega)])) ?_
    exact hret _ _ _ _ hP hD hS dX0_recordByte_18
  · have c_1 := kmt (kx_lt0).mpr c_1
    refine lv_iload_n hx hb dX0_recordByte_4 rfl (lv_at hl 2 rfl) ?_
    refine lv_aload_n hx hb dX0_recordByte_5 rfl (lv_at hl 0 rfl) ?_
    refine va_get (D := (dC, dI)) (ci := 0) (v := .ref a4) (C := RX0) (T := TX0) (N := 9) hx hb hts hin0 hown hK hP 0 rfl rfl 5 (by decide) lkf20 (fun _ h9 => h9) rfl dX0_recordByte_6 ?_
    refine lv_iload_n hx hb dX0_recordByte_9 rfl (lv_at hl 1 rfl) ?_
    refine ka_ialdN hx hb hK hP 4 1 rfl rfl (k := r) (by omega) (by decide) dX0_recordByte_10 ?_
    refine lv_bipush (v := nI 6) hx hb dX0_recordByte_11 (by decide) ?_
    refine lv_isub hx hb dX0_recordByte_13 ?_
    refine kv_top (show _ = nI ((rl r) - 6) from pk_sub (by omega)) ?_
    refine lv_icmp_lt (tgt := 19) hx hb dX0_recordByte_14 (by decide) (fun c_14 => ?_) (fun c_14 => ?_)
    · have c_14 := (kx_lt (by omega)).mp c_14
      obtain ⟨j, hj, rfl⟩ := kx_of (x := x) (by omega)
      rw [nI_toInt hj] at c_1 c_14
      refine lv_aload_n hx hb dX0_recordByte_19 rfl (lv_at hl 0 rfl) ?_
      refine lv_iload_n hx hb dX0_recordByte_20 rfl (lv_at hl 1 rfl) ?_
      refine lv_bipush (v := nI 6) hx hb dX0_recordByte_21 (by decide) ?_
      refine lv_iload_n hx hb dX0_recordByte_23 rfl (lv_at hl 2 rfl) ?_
      refine lv_iadd hx hb dX0_recordByte_24 ?_
      refine kv_top (show _ = nI (6 + j) from nI_add _ _) ?_
      refine kc_vi (WR := []) (As := [.int (nI r), .int (nI (6 + j))]) (rest := []) ⟨hx, hb, hml, hown, hts⟩ (c_rowByte l dC dI h a1 a2 a3 a4 a5 a6 cb ci tp tl vo np rp rl rc sb sa H.size r (6 + j) (by omega) (by omega)) (cwV 2 hts gX0_recordByte_X0_rowByte rfl rfl rfl (by decide +kernel) ⟨Nat.le_of_ble_eq_true rfl, Nat.le_of_ble_eq_true rfl⟩) hK hP hD hS hA [0, 1, 2, 3, 4, 5, 6] [] [0, 1] rfl rfl (by decide) (by decide) (by decide) rfl 0 0 rfl rfl rfl rfl hl.1 rfl (Nat.le_of_ble_eq_true rfl) dX0_recordByte_25 ⟨Nat.zero_le _, Nat.zero_le _⟩ (fun H locs hP hD hS => ?_)
      have hP : va_P (dC, dI) vwCl (wB h a1 a2 a3 a4 a5 a6 cb ci tp tl vo np rp rl rc sb sa) H := hP
      have hD : va_D A (wB h a1 a2 a3 a4 a5 a6 cb ci tp tl vo np rp rl rc sb sa) := hD
      refine kv_top (show _ = recB vo rp rl r (nI j) from (by rw [recB_n (by omega) (by omega)])) ?_
      exact hret _ _ _ _ hP hD hS dX0_recordByte_28
    · have c_14 := kmt (kx_lt (by omega)).mpr c_14
      refine lv_iconst (v := (-1)) hx hb dX0_recordByte_17 (by decide) ?_
      refine kv_top (show _ = recB vo rp rl r x from (by rw [recB, if_neg (by omega)])) ?_
      exact hret _ _ _ _ hP hD hS dX0_recordByte_18
set_option maxHeartbeats 4000000 in
set_option maxRecDepth 100000 in
theorem c_feed (l : Launch) (dC : Nat → ClassId) (dI : Nat → Nat → Nat) (h a1 a2 a3 a4 a5 a6 : Nat) (cb ci : ClassId) (tp : Nat → Int32) (tl : Nat) (vo : Nat → Int32) (np : Nat) (rp rl : Nat → Nat) (rc : Nat) (sb sa : Nat → Nat) (sz : Nat) (v : Int32) (j : Nat) (hj : 1 ≤ j ∧ j ≤ 4) (htl : tl + j ≤ 300) : Met l yX0_feed wsX0_feed ({ frames := 0, cells := 0, slots := 0, locals := 0 }) (kPre (dC, dI) vwCl (wB h a1 a2 a3 a4 a5 a6 cb ci tp tl vo np rp rl rc sb sa) (tB cb ci) sz [.ref h, .int v, .int (nI j)]) (kQi (dC, dI) vwCl (wB h a1 a2 a3 a4 a5 a6 cb ci tp tl vo np rp rl rc sb sa) (tB cb ci) sz (nI (tl + j)) (wB h a1 a2 a3 a4 a5 a6 cb ci (fdT tp tl v j) (tl + j) vo np rp rl rc sb sa)) 0 0 (va_A (wB h a1 a2 a3 a4 a5 a6 cb ci tp tl vo np rp rl rc sb sa) sz) := by
  refine kM_i (cc := cX0_feed) (maxL := 4) (by decide) rfl (Nat.le_of_ble_eq_true rfl) ?_
  intro p e s m below meth c A Q ls H locs S hP hK hD hS hA hl hret
  obtain ⟨hx, hb, hml, hown, hts⟩ := id S
  have hin0 : ∀ w ∈ u_ws RX0 TX0 9, w ∈ wsX0_feed := fun _ h => List.mem_cons_of_mem _ (List.mem_append_right _ h)
  have lkf29 := hts (.fieldLink RX0 29 "BlockTape" "tapeLength" "I") (by decide +kernel)
  have lkf9 := hts (.fieldLink RX0 9 "BlockTape" "tape" "[B") (by decide +kernel)
  have hl : lv_has ls 4 [(0, .ref h), (1, .int v), (2, .int (nI j))] := hl
  refine lv_iload_n hx hb dX0_feed_0 rfl (lv_at hl 2 rfl) ?_
  refine lv_iconst (v := nI 1) hx hb dX0_feed_1 (by decide) ?_
  refine lv_icmp_lt (tgt := 22) hx hb dX0_feed_2 (by decide) (fun c_2 => ?_) (fun c_2 => ?_)
  · have c_2 := (nI_ltI (by omega) (by omega)).mp c_2
    exfalso; omega
  · have c_2 := kmt (nI_ltI (by omega) (by omega)).mpr c_2
    refine lv_iload_n hx hb dX0_feed_5 rfl (lv_at hl 2 rfl) ?_
    refine lv_iconst (v := nI 4) hx hb dX0_feed_6 (by decide) ?_
    refine lv_icmp_gt (tgt := 22) hx hb dX0_feed_7 (by decide) (fun c_7 => ?_) (fun c_7 => ?_)
    · have c_7 := (nI_ltI (by omega) (by omega)).mp c_7
      exfalso; omega
    · have c_7 := kmt (nI_ltI (by omega) (by omega)).mpr c_7
      refine lv_iload_n hx hb dX0_feed_10 rfl (lv_at hl 2 rfl) ?_
      refine lv_sipush (v := nI 300) hx hb dX0_feed_11 (by decide) ?_
      refine lv_aload_n hx hb dX0_feed_14 rfl (lv_at hl 0 rfl) ?_
      refine va_get (D := (dC, dI)) (ci := 0) (v := .int (nI tl)) (C := RX0) (T := TX0) (N := 9) hx hb hts hin0 hown hK hP 0 rfl rfl 1 (by decide) lkf29 (fun _ h9 => h9) rfl dX0_feed_15 ?_
      refine lv_isub hx hb dX0_feed_18 ?_
      refine kv_top (show _ = nI (300 - tl) from pk_sub (by omega)) ?_
      refine lv_icmp_le (tgt := 24) hx hb dX0_feed_19 (by decide) (fun c_19 => ?_) (fun c_19 => ?_)
      · have c_19 := (nI_leI (by omega) (by omega)).mp c_19
        refine lv_iconst (v := nI 0) hx hb dX0_feed_24 (by decide) ?_
        refine lv_istore_n (lv' := [(3, .int (nI 0)), (0, .ref h), (1, .int v), (2, .int (nI j))]) hx hb dX0_feed_25 rfl hl (by decide) rfl (fun ls hl => ?_)
        have hloopk : ∀ (n k : Nat), k ≤ j → j + 1 ≤ k + n → ∀ (H : Heap) (locs : List Loc) (ls : Array Slot), va_P (dC, dI) vwCl (wB h a1 a2 a3 a4 a5 a6 cb ci (fdT tp tl v k) (tl + k) vo np rp rl rc sb sa) H → va_D A (wB h a1 a2 a3 a4 a5 a6 cb ci (fdT tp tl v k) (tl + k) vo np rp rl rc sb sa) → va_S A s.heap H locs → lv_has ls 4 [(3, .int (nI k)), (0, .ref h), (1, .int v), (2, .int (nI j))] → W p l e ({ frames := 0, cells := 0, slots := 0, locals := 0 }) s m ([.ref h, .int v, .int (nI j)] : List Value).toArray below meth c H locs 0 0 Q (F0 m 26 ls []) := by
          intro n
          induction n with
          | zero => intro k h1 h2; exact absurd h2 (by omega)
          | succ n ih =>
            intro k hkA hkB H locs ls hP hD hS hl
            refine lv_iload_n hx hb dX0_feed_26 rfl (lv_at hl 0 rfl) ?_
            refine lv_iload_n hx hb dX0_feed_27 rfl (lv_at hl 3 rfl) ?_
            refine lv_icmp_ge (tgt := 66) hx hb dX0_feed_28 (by decide) (fun c_28 => ?_) (fun c_28 => ?_)
            · have c_28 := (nI_leI (by omega) (by omega)).mp c_28
              have hkE : k = j := by omega
              subst hkE
              refine lv_aload_n hx hb dX0_feed_66 rfl (lv_at hl 1 rfl) ?_
              refine va_get (D := (dC, dI)) (ci := 0) (v := .int (nI (tl + k))) (C := RX0) (T := TX0) (N := 9) hx hb hts hin0 hown hK hP 0 rfl rfl 1 (by decide) lkf29 (fun _ h9 => h9) rfl dX0_feed_67 ?_
              exact hret _ _ _ _ hP hD hS dX0_feed_70
            · have c_28 := kmt (nI_leI (by omega) (by omega)).mpr c_28
              refine lv_aload_n hx hb dX0_feed_31 rfl (lv_at hl 1 rfl) ?_
              refine va_get (D := (dC, dI)) (ci := 0) (v := .ref a1) (C := RX0) (T := TX0) (N := 9) hx hb hts hin0 hown hK hP 0 rfl rfl 0 (by decide) lkf9 (fun _ h9 => h9) rfl dX0_feed_32 ?_
              refine lv_aload_n hx hb dX0_feed_35 rfl (lv_at hl 1 rfl) ?_
              refine va_get (D := (dC, dI)) (ci := 0) (v := .int (nI (tl + k))) (C := RX0) (T := TX0) (N := 9) hx hb hts hin0 hown hK hP 0 rfl rfl 1 (by decide) lkf29 (fun _ h9 => h9) rfl dX0_feed_36 ?_
              refine lv_iload_n hx hb dX0_feed_39 rfl (lv_at hl 2 rfl) ?_
              refine lv_bipush (v := nI 24) hx hb dX0_feed_40 (by decide) ?_
              refine lv_bipush (v := nI 8) hx hb dX0_feed_42 (by decide) ?_
              refine lv_iload_n hx hb dX0_feed_44 rfl (lv_at hl 0 rfl) ?_
              refine lv_imul hx hb dX0_feed_45 ?_
              refine kv_top (show _ = nI (8 * k) from pk_mul _ _) ?_
              refine lv_isub hx hb dX0_feed_46 ?_
              refine kv_top (show _ = nI (24 - (8 * k)) from pk_sub (by omega)) ?_
              refine lv_iushr (v := ush v (24 - (8 * k))) hx hb dX0_feed_47 rfl ?_
              refine lv_i2b (v := bn (ush v (24 - (8 * k)))) hx hb dX0_feed_48 rfl ?_
              refine ka_bast hx hb hK hP hD hS 1 0 rfl rfl (k := tl + k) (x := bn (ush v (24 - (8 * k)))) (by omega) (by decide) (pk_vb _) dX0_feed_49 (fun H locs hP hD hS => ?_)
              have hP : va_P (dC, dI) vwCl (wB h a1 a2 a3 a4 a5 a6 cb ci (upd (fdT tp tl v k) (tl + k) (bn (ush v (24 - (8 * k))))) (tl + k) vo np rp rl rc sb sa) H := hP
              have hD : va_D A (wB h a1 a2 a3 a4 a5 a6 cb ci (upd (fdT tp tl v k) (tl + k) (bn (ush v (24 - (8 * k))))) (tl + k) vo np rp rl rc sb sa) := hD
              refine lv_aload_n hx hb dX0_feed_50 rfl (lv_at hl 1 rfl) ?_
              refine lv_dup hx hb dX0_feed_51 rfl ?_
              refine va_get (D := (dC, dI)) (ci := 0) (v := .int (nI (tl + k))) (C := RX0) (T := TX0) (N := 9) hx hb hts hin0 hown hK hP 0 rfl rfl 1 (by decide) lkf29 (fun _ h9 => h9) rfl dX0_feed_52 ?_
              refine lv_iconst (v := nI 1) hx hb dX0_feed_55 (by decide) ?_
              refine lv_iadd hx hb dX0_feed_56 ?_
              refine kv_top (show _ = nI ((tl + k) + 1) from nI_add _ _) ?_
              refine va_put (D := (dC, dI)) (ci := 0) (v := .int (nI ((tl + k) + 1))) (ty := .int) (C := RX0) (T := TX0) (N := 9) hx hb hts hin0 tyX0 tyX0_ok nmX0 hown hK hP hD hS 0 rfl rfl 1 (by decide) lkf29 (fun _ h9 => h9) rfl (by decide +kernel) rfl rfl (Nat.le_of_ble_eq_true rfl) dX0_feed_57 (fun H locs hP hD hS => ?_)
              have hP : va_P (dC, dI) vwCl (wB h a1 a2 a3 a4 a5 a6 cb ci (upd (fdT tp tl v k) (tl + k) (bn (ush v (24 - (8 * k))))) ((tl + k) + 1) vo np rp rl rc sb sa) H := hP
              have hD : va_D A (wB h a1 a2 a3 a4 a5 a6 cb ci (upd (fdT tp tl v k) (tl + k) (bn (ush v (24 - (8 * k))))) ((tl + k) + 1) vo np rp rl rc sb sa) := hD
              refine lv_iinc (v := nI (k + 1)) (lv' := [(3, .int (nI (k + 1))), (0, .ref h), (1, .int v), (2, .int (nI j))]) hx hb dX0_feed_60 hl (k := 0) rfl (ki_inc _) (by decide) rfl (fun ls hl => ?_)
              refine lv_goto (tgt := 26) hx hb dX0_feed_63 (by decide) ?_
              have hP : va_P (dC, dI) vwCl (wB h a1 a2 a3 a4 a5 a6 cb ci (fdT tp tl v (k + 1)) (tl + (k + 1)) vo np rp rl rc sb sa) H := hP
              have hD : va_D A (wB h a1 a2 a3 a4 a5 a6 cb ci (fdT tp tl v (k + 1)) (tl + (k + 1)) vo np rp rl rc sb sa) := hD
              exact ih (k + 1) (by omega) (by omega) _ _ _ hP hD hS (lv_sub hl [0, 1, 2, 3] rfl)
        have hP : va_P (dC, dI) vwCl (wB h a1 a2 a3 a4 a5 a6 cb ci (fdT tp tl v (0)) (tl + (0)) vo np rp rl rc sb sa) H := hP
        have hD : va_D A (wB h a1 a2 a3 a4 a5 a6 cb ci (fdT tp tl v (0)) (tl + (0)) vo np rp rl rc sb sa) := hD
        exact hloopk (j + 1) 0 (by omega) (by omega) _ _ _ hP hD hS (lv_sub hl [0, 1, 2, 3] rfl)
      · have c_19 := kmt (nI_leI (by omega) (by omega)).mpr c_19
        exfalso; omega
set_option maxHeartbeats 4000000 in
set_option maxRecDepth 100000 in
theorem c_feedN (l : Launch) (dC : Nat → ClassId) (dI : Nat → Nat → Nat) (h a1 a2 a3 a4 a5 a6 : Nat) (cb ci : ClassId) (tp : Nat → Int32) (tl : Nat) (vo : Nat → Int32) (np : Nat) (rp rl : Nat → Nat) (rc : Nat) (sb sa : Nat → Nat) (sz : Nat) (v : Int32) (x : Int32) (htl : tl ≤ 300) (hno : ¬ (1 ≤ x.toInt ∧ x.toInt ≤ 4 ∧ tl + x.toInt ≤ 300)) : Met l yX0_feed wsX0_feed ({ frames := 0, cells := 0, slots := 0, locals := 0 }) (kPre (dC, dI) vwCl (wB h a1 a2 a3 a4 a5 a6 cb ci tp tl vo np rp rl rc sb sa) (tB cb ci) sz [.ref h, .int v, .int x]) (kQi (dC, dI) vwCl (wB h a1 a2 a3 a4 a5 a6 cb ci tp tl vo np rp rl rc sb sa) (tB cb ci) sz ((-1)) (wB h a1 a2 a3 a4 a5 a6 cb ci tp tl vo np rp rl rc sb sa)) 0 0 (va_A (wB h a1 a2 a3 a4 a5 a6 cb ci tp tl vo np rp rl rc sb sa) sz) := by
  refine kM_i (cc := cX0_feed) (maxL := 4) (by decide) rfl (Nat.le_of_ble_eq_true rfl) ?_
  intro p e s m below meth c A Q ls H locs S hP hK hD hS hA hl hret
  obtain ⟨hx, hb, hml, hown, hts⟩ := id S
  have hin0 : ∀ w ∈ u_ws RX0 TX0 9, w ∈ wsX0_feed := fun _ h => List.mem_cons_of_mem _ (List.mem_append_right _ h)
  have lkf29 := hts (.fieldLink RX0 29 "BlockTape" "tapeLength" "I") (by decide +kernel)
  have hl : lv_has ls 4 [(0, .ref h), (1, .int v), (2, .int x)] := hl
  refine lv_iload_n hx hb dX0_feed_0 rfl (lv_at hl 2 rfl) ?_
  refine lv_iconst (v := nI 1) hx hb dX0_feed_1 (by decide) ?_
  refine lv_icmp_lt (tgt := 22) hx hb dX0_feed_2 (by decide) (fun c_2 => ?_) (fun c_2 => ?_)
  · have c_2 := (kx_lt (by omega)).mp c_2
    refine lv_iconst (v := (-1)) hx hb dX0_feed_22 (by decide) ?_
    exact hret _ _ _ _ hP hD hS dX0_feed_23
  · have c_2 := kmt (kx_lt (by omega)).mpr c_2
    refine lv_iload_n hx hb dX0_feed_5 rfl (lv_at hl 2 rfl) ?_
    refine lv_iconst (v := nI 4) hx hb dX0_feed_6 (by decide) ?_
    refine lv_icmp_gt (tgt := 22) hx hb dX0_feed_7 (by decide) (fun c_7 => ?_) (fun c_7 => ?_)
    · have c_7 := (kx_gt (by omega)).mp c_7
      refine lv_iconst (v := (-1)) hx hb dX0_feed_22 (by decide) ?_
      exact hret _ _ _ _ hP hD hS dX0_feed_23
    · have c_7 := kmt (kx_gt (by omega)).mpr c_7
      refine lv_iload_n hx hb dX0_feed_10 rfl (lv_at hl 2 rfl) ?_
      refine lv_sipush (v := nI 300) hx hb dX0_feed_11 (by decide) ?_
      refine lv_aload_n hx hb dX0_feed_14 rfl (lv_at hl 0 rfl) ?_
      refine va_get (D := (dC, dI)) (ci := 0) (v := .int (nI tl)) (C := RX0) (T := TX0) (N := 9) hx hb hts hin0 hown hK hP 0 rfl rfl 1 (by decide) lkf29 (fun _ h9 => h9) rfl dX0_feed_15 ?_
      refine lv_isub hx hb dX0_feed_18 ?_
      refine kv_top (show _ = nI (300 - tl) from pk_sub (by omega)) ?_
      refine lv_icmp_le (tgt := 24) hx hb dX0_feed_19 (by decide) (fun c_19 => ?_) (fun c_19 => ?_)
      · have c_19 := (kx_le (by omega)).mp c_19
        exfalso; omega
      · have c_19 := kmt (kx_le (by omega)).mpr c_19
        refine lv_iconst (v := (-1)) hx hb dX0_feed_22 (by decide) ?_
        exact hret _ _ _ _ hP hD hS dX0_feed_23
set_option maxHeartbeats 4000000 in
set_option maxRecDepth 100000 in
theorem c_put (l : Launch) (dC : Nat → ClassId) (dI : Nat → Nat → Nat) (h a1 a2 a3 a4 a5 a6 : Nat) (cb ci : ClassId) (tp : Nat → Int32) (tl : Nat) (vo : Nat → Int32) (np : Nat) (rp rl : Nat → Nat) (rc : Nat) (sb sa : Nat → Nat) (sz : Nat) (sv : Int32) (iv : Int32) (htl : tl ≤ 300) (hnp : np ≤ 4480) (hrc : rc ≤ 200) (hs : 0 ≤ sv.toInt ∧ sv.toInt ≤ 255) (hi : 0 ≤ iv.toInt ∧ iv.toInt ≤ 65535) (hroom : rc < 200 ∧ np + 6 + tl ≤ 4480) : Met l yX0_put wsX0_put ({ frames := 5, cells := 0, slots := 0, locals := 117 }) (kPre (dC, dI) vwCl (wB h a1 a2 a3 a4 a5 a6 cb ci tp tl vo np rp rl rc sb sa) (tB cb ci) sz [.ref h, .int sv, .int iv]) (kQi (dC, dI) vwCl (wB h a1 a2 a3 a4 a5 a6 cb ci tp tl vo np rp rl rc sb sa) (tB cb ci) sz (nI rc) (wB h a1 a2 a3 a4 a5 a6 cb ci tp 0 (apR (ntB vo np) np sv iv tp tl) (np + 6 + tl) (updN rp rc np) (updN rl rc (6 + tl)) (rc + 1) sb sa)) 0 0 (va_A (wB h a1 a2 a3 a4 a5 a6 cb ci tp tl vo np rp rl rc sb sa) sz) := by
  refine kM_i (cc := cX0_put) (maxL := 4) (by decide) rfl (Nat.le_of_ble_eq_true rfl) ?_
  intro p e s m below meth c A Q ls H locs S hP hK hD hS hA hl hret
  obtain ⟨hx, hb, hml, hown, hts⟩ := id S
  have hin0 : ∀ w ∈ u_ws RX0 TX0 9, w ∈ wsX0_put := fun _ h => List.mem_cons_of_mem _ (List.mem_append_right _ h)
  have lkc33 := hts (.constant RX0 33 (65535)) (by decide +kernel)
  have lkf29 := hts (.fieldLink RX0 29 "BlockTape" "tapeLength" "I") (by decide +kernel)
  have lkf34 := hts (.fieldLink RX0 34 "BlockTape" "records" "I") (by decide +kernel)
  have lkf16 := hts (.fieldLink RX0 16 "BlockTape" "rowPlace" "[I") (by decide +kernel)
  have lkf44 := hts (.fieldLink RX0 44 "BlockTape" "nextPlace" "I") (by decide +kernel)
  have lkf20 := hts (.fieldLink RX0 20 "BlockTape" "rowLength" "[I") (by decide +kernel)
  have hl : lv_has ls 4 [(0, .ref h), (1, .int sv), (2, .int iv)] := hl
  refine lv_iload_n hx hb dX0_put_0 rfl (lv_at hl 1 rfl) ?_
  refine lv_if_lt (tgt := 21) hx hb dX0_put_1 (by decide) (fun c_1 => ?_) (fun c_1 => ?_)
  · have c_1 := (kx_lt0).mp c_1
    exfalso; omega
  · have c_1 := kmt (kx_lt0).mpr c_1
    refine lv_iload_n hx hb dX0_put_4 rfl (lv_at hl 1 rfl) ?_
    refine lv_sipush (v := nI 255) hx hb dX0_put_5 (by decide) ?_
    refine lv_icmp_gt (tgt := 21) hx hb dX0_put_8 (by decide) (fun c_8 => ?_) (fun c_8 => ?_)
    · have c_8 := (kx_gt (by omega)).mp c_8
      exfalso; omega
    · have c_8 := kmt (kx_gt (by omega)).mpr c_8
      refine lv_iload_n hx hb dX0_put_11 rfl (lv_at hl 2 rfl) ?_
      refine lv_if_lt (tgt := 21) hx hb dX0_put_12 (by decide) (fun c_12 => ?_) (fun c_12 => ?_)
      · have c_12 := (kx_lt0).mp c_12
        exfalso; omega
      · have c_12 := kmt (kx_lt0).mpr c_12
        refine lv_iload_n hx hb dX0_put_15 rfl (lv_at hl 2 rfl) ?_
        refine lv_ldc (v := nI 65535) hx hb hown lkc33 dX0_put_16 ?_
        refine lv_icmp_le (tgt := 23) hx hb dX0_put_18 (by decide) (fun c_18 => ?_) (fun c_18 => ?_)
        · have c_18 := (kx_le (by omega)).mp c_18
          refine lv_bipush (v := nI 6) hx hb dX0_put_23 (by decide) ?_
          refine lv_aload_n hx hb dX0_put_25 rfl (lv_at hl 0 rfl) ?_
          refine va_get (D := (dC, dI)) (ci := 0) (v := .int (nI tl)) (C := RX0) (T := TX0) (N := 9) hx hb hts hin0 hown hK hP 0 rfl rfl 1 (by decide) lkf29 (fun _ h9 => h9) rfl dX0_put_26 ?_
          refine lv_iadd hx hb dX0_put_29 ?_
          refine kv_top (show _ = nI (6 + tl) from nI_add _ _) ?_
          refine lv_istore_n (lv' := [(3, .int (nI (6 + tl))), (0, .ref h), (1, .int sv), (2, .int iv)]) hx hb dX0_put_30 rfl hl (by decide) rfl (fun ls hl => ?_)
          refine lv_aload_n hx hb dX0_put_31 rfl (lv_at hl 1 rfl) ?_
          refine va_get (D := (dC, dI)) (ci := 0) (v := .int (nI rc)) (C := RX0) (T := TX0) (N := 9) hx hb hts hin0 hown hK hP 0 rfl rfl 6 (by decide) lkf34 (fun _ h9 => h9) rfl dX0_put_32 ?_
          refine lv_sipush (v := nI 200) hx hb dX0_put_35 (by decide) ?_
          refine lv_icmp_ge (tgt := 49) hx hb dX0_put_38 (by decide) (fun c_38 => ?_) (fun c_38 => ?_)
          · have c_38 := (nI_leI (by omega) (by omega)).mp c_38
            exfalso; omega
          · have c_38 := kmt (nI_leI (by omega) (by omega)).mpr c_38
            refine lv_iload_n hx hb dX0_put_41 rfl (lv_at hl 0 rfl) ?_
            refine lv_aload_n hx hb dX0_put_42 rfl (lv_at hl 1 rfl) ?_
            refine kc_vi (WR := []) (As := []) (rest := [.int (nI (6 + tl))]) ⟨hx, hb, hml, hown, hts⟩ (c_placesLeft l dC dI h a1 a2 a3 a4 a5 a6 cb ci tp tl vo np rp rl rc sb sa H.size (by omega)) (cwV 0 hts gX0_put_X0_placesLeft rfl rfl rfl (by decide +kernel) ⟨Nat.le_of_ble_eq_true rfl, Nat.le_of_ble_eq_true rfl⟩) hK hP hD hS hA [0, 1, 2, 3, 4, 5, 6] [] [0, 1] rfl rfl (by decide) (by decide) (by decide) rfl 0 0 rfl rfl rfl rfl hl.1 rfl (Nat.le_of_ble_eq_true rfl) dX0_put_43 ⟨Nat.zero_le _, Nat.zero_le _⟩ (fun H locs hP hD hS => ?_)
            have hP : va_P (dC, dI) vwCl (wB h a1 a2 a3 a4 a5 a6 cb ci tp tl vo np rp rl rc sb sa) H := hP
            have hD : va_D A (wB h a1 a2 a3 a4 a5 a6 cb ci tp tl vo np rp rl rc sb sa) := hD
            refine lv_icmp_le (tgt := 51) hx hb dX0_put_46 (by decide) (fun c_46 => ?_) (fun c_46 => ?_)
            · have c_46 := (nI_leI (by omega) (by omega)).mp c_46
              refine lv_aload_n hx hb dX0_put_51 rfl (lv_at hl 1 rfl) ?_
              refine kc_vv (WR := []) (As := []) (rest := []) ⟨hx, hb, hml, hown, hts⟩ (c_noteBeginning l dC dI h a1 a2 a3 a4 a5 a6 cb ci tp tl vo np rp rl rc sb sa H.size (by omega)) (cwV 0 hts gX0_put_X0_noteBeginning rfl rfl rfl (by decide +kernel) ⟨Nat.le_of_ble_eq_true rfl, Nat.le_of_ble_eq_true rfl⟩) hK hP hD hS hA [0, 1, 2, 3, 4, 5, 6] [] [0, 1] rfl rfl (by decide) (by decide) (by decide) rfl 0 0 rfl rfl rfl rfl hl.1 rfl (Nat.le_of_ble_eq_true rfl) dX0_put_52 ⟨Nat.zero_le _, Nat.zero_le _⟩ (fun H locs hP hD hS => ?_)
              have hP : va_P (dC, dI) vwCl (wB h a1 a2 a3 a4 a5 a6 cb ci tp tl (ntB vo np) np rp rl rc sb sa) H := hP
              have hD : va_D A (wB h a1 a2 a3 a4 a5 a6 cb ci tp tl (ntB vo np) np rp rl rc sb sa) := hD
              refine lv_aload_n hx hb dX0_put_55 rfl (lv_at hl 1 rfl) ?_
              refine va_get (D := (dC, dI)) (ci := 0) (v := .ref a3) (C := RX0) (T := TX0) (N := 9) hx hb hts hin0 hown hK hP 0 rfl rfl 4 (by decide) lkf16 (fun _ h9 => h9) rfl dX0_put_56 ?_
              refine lv_aload_n hx hb dX0_put_59 rfl (lv_at hl 1 rfl) ?_
              refine va_get (D := (dC, dI)) (ci := 0) (v := .int (nI rc)) (C := RX0) (T := TX0) (N := 9) hx hb hts hin0 hown hK hP 0 rfl rfl 6 (by decide) lkf34 (fun _ h9 => h9) rfl dX0_put_60 ?_
              refine lv_aload_n hx hb dX0_put_63 rfl (lv_at hl 1 rfl) ?_
              refine va_get (D := (dC, dI)) (ci := 0) (v := .int (nI np)) (C := RX0) (T := TX0) (N := 9) hx hb hts hin0 hown hK hP 0 rfl rfl 3 (by decide) lkf44 (fun _ h9 => h9) rfl dX0_put_64 ?_
              refine ka_iastN hx hb hK hP hD hS 3 1 rfl rfl (k := rc) (x := np) (by omega) (by decide) dX0_put_67 (fun H locs hP hD hS => ?_)
              have hP : va_P (dC, dI) vwCl (wB h a1 a2 a3 a4 a5 a6 cb ci tp tl (ntB vo np) np (updN rp rc np) rl rc sb sa) H := hP
              have hD : va_D A (wB h a1 a2 a3 a4 a5 a6 cb ci tp tl (ntB vo np) np (updN rp rc np) rl rc sb sa) := hD
              refine lv_aload_n hx hb dX0_put_68 rfl (lv_at hl 1 rfl) ?_
              refine va_get (D := (dC, dI)) (ci := 0) (v := .ref a4) (C := RX0) (T := TX0) (N := 9) hx hb hts hin0 hown hK hP 0 rfl rfl 5 (by decide) lkf20 (fun _ h9 => h9) rfl dX0_put_69 ?_
              refine lv_aload_n hx hb dX0_put_72 rfl (lv_at hl 1 rfl) ?_
              refine va_get (D := (dC, dI)) (ci := 0) (v := .int (nI rc)) (C := RX0) (T := TX0) (N := 9) hx hb hts hin0 hown hK hP 0 rfl rfl 6 (by decide) lkf34 (fun _ h9 => h9) rfl dX0_put_73 ?_
              refine lv_iload_n hx hb dX0_put_76 rfl (lv_at hl 0 rfl) ?_
              refine ka_iastN hx hb hK hP hD hS 4 1 rfl rfl (k := rc) (x := 6 + tl) (by omega) (by decide) dX0_put_77 (fun H locs hP hD hS => ?_)
              have hP : va_P (dC, dI) vwCl (wB h a1 a2 a3 a4 a5 a6 cb ci tp tl (ntB vo np) np (updN rp rc np) (updN rl rc (6 + tl)) rc sb sa) H := hP
              have hD : va_D A (wB h a1 a2 a3 a4 a5 a6 cb ci tp tl (ntB vo np) np (updN rp rc np) (updN rl rc (6 + tl)) rc sb sa) := hD
              refine lv_aload_n hx hb dX0_put_78 rfl (lv_at hl 1 rfl) ?_
              refine lv_iload_n hx hb dX0_put_79 rfl (lv_at hl 2 rfl) ?_
              refine lv_iload_n hx hb dX0_put_80 rfl (lv_at hl 3 rfl) ?_
              refine kc_vv (WR := []) (As := [.int sv, .int iv]) (rest := []) ⟨hx, hb, hml, hown, hts⟩ (c_appendRow l dC dI h a1 a2 a3 a4 a5 a6 cb ci tp tl (ntB vo np) np (updN rp rc np) (updN rl rc (6 + tl)) rc sb sa H.size sv iv (by omega) (by omega)) (cwV 2 hts gX0_put_X0_appendRow rfl rfl rfl (by decide +kernel) ⟨Nat.le_of_ble_eq_true rfl, Nat.le_of_ble_eq_true rfl⟩) hK hP hD hS hA [0, 1, 2, 3, 4, 5, 6] [] [0, 1] rfl rfl (by decide) (by decide) (by decide) rfl 0 0 rfl rfl rfl rfl hl.1 rfl (Nat.le_of_ble_eq_true rfl) dX0_put_81 ⟨Nat.zero_le _, Nat.zero_le _⟩ (fun H locs hP hD hS => ?_)
              have hP : va_P (dC, dI) vwCl (wB h a1 a2 a3 a4 a5 a6 cb ci tp tl (apR (ntB vo np) np sv iv tp tl) (np + 6 + tl) (updN rp rc np) (updN rl rc (6 + tl)) rc sb sa) H := hP
              have hD : va_D A (wB h a1 a2 a3 a4 a5 a6 cb ci tp tl (apR (ntB vo np) np sv iv tp tl) (np + 6 + tl) (updN rp rc np) (updN rl rc (6 + tl)) rc sb sa) := hD
              refine lv_aload_n hx hb dX0_put_84 rfl (lv_at hl 1 rfl) ?_
              refine lv_iconst (v := nI 0) hx hb dX0_put_85 (by decide) ?_
              refine va_put (D := (dC, dI)) (ci := 0) (v := .int (nI 0)) (ty := .int) (C := RX0) (T := TX0) (N := 9) hx hb hts hin0 tyX0 tyX0_ok nmX0 hown hK hP hD hS 0 rfl rfl 1 (by decide) lkf29 (fun _ h9 => h9) rfl (by decide +kernel) rfl rfl (Nat.le_of_ble_eq_true rfl) dX0_put_86 (fun H locs hP hD hS => ?_)
              have hP : va_P (dC, dI) vwCl (wB h a1 a2 a3 a4 a5 a6 cb ci tp 0 (apR (ntB vo np) np sv iv tp tl) (np + 6 + tl) (updN rp rc np) (updN rl rc (6 + tl)) rc sb sa) H := hP
              have hD : va_D A (wB h a1 a2 a3 a4 a5 a6 cb ci tp 0 (apR (ntB vo np) np sv iv tp tl) (np + 6 + tl) (updN rp rc np) (updN rl rc (6 + tl)) rc sb sa) := hD
              refine lv_aload_n hx hb dX0_put_89 rfl (lv_at hl 1 rfl) ?_
              refine lv_dup hx hb dX0_put_90 rfl ?_
              refine va_get (D := (dC, dI)) (ci := 0) (v := .int (nI rc)) (C := RX0) (T := TX0) (N := 9) hx hb hts hin0 hown hK hP 0 rfl rfl 6 (by decide) lkf34 (fun _ h9 => h9) rfl dX0_put_91 ?_
              refine lv_iconst (v := nI 1) hx hb dX0_put_94 (by decide) ?_
              refine lv_iadd hx hb dX0_put_95 ?_
              refine kv_top (show _ = nI (rc + 1) from nI_add _ _) ?_
              refine va_put (D := (dC, dI)) (ci := 0) (v := .int (nI (rc + 1))) (ty := .int) (C := RX0) (T := TX0) (N := 9) hx hb hts hin0 tyX0 tyX0_ok nmX0 hown hK hP hD hS 0 rfl rfl 6 (by decide) lkf34 (fun _ h9 => h9) rfl (by decide +kernel) rfl rfl (Nat.le_of_ble_eq_true rfl) dX0_put_96 (fun H locs hP hD hS => ?_)
              have hP : va_P (dC, dI) vwCl (wB h a1 a2 a3 a4 a5 a6 cb ci tp 0 (apR (ntB vo np) np sv iv tp tl) (np + 6 + tl) (updN rp rc np) (updN rl rc (6 + tl)) (rc + 1) sb sa) H := hP
              have hD : va_D A (wB h a1 a2 a3 a4 a5 a6 cb ci tp 0 (apR (ntB vo np) np sv iv tp tl) (np + 6 + tl) (updN rp rc np) (updN rl rc (6 + tl)) (rc + 1) sb sa) := hD
              refine lv_aload_n hx hb dX0_put_99 rfl (lv_at hl 1 rfl) ?_
              refine va_get (D := (dC, dI)) (ci := 0) (v := .int (nI (rc + 1))) (C := RX0) (T := TX0) (N := 9) hx hb hts hin0 hown hK hP 0 rfl rfl 6 (by decide) lkf34 (fun _ h9 => h9) rfl dX0_put_100 ?_
              refine lv_iconst (v := nI 1) hx hb dX0_put_103 (by decide) ?_
              refine lv_isub hx hb dX0_put_104 ?_
              refine kv_top (show _ = nI ((rc + 1) - 1) from pk_sub (by omega)) ?_
              refine kv_top (show _ = nI rc from rfl) ?_
              exact hret _ _ _ _ hP hD hS dX0_put_105
            · have c_46 := kmt (nI_leI (by omega) (by omega)).mpr c_46
              exfalso; omega
        · have c_18 := kmt (kx_le (by omega)).mpr c_18
          exfalso; omega
set_option maxHeartbeats 4000000 in
set_option maxRecDepth 100000 in
theorem c_putN (l : Launch) (dC : Nat → ClassId) (dI : Nat → Nat → Nat) (h a1 a2 a3 a4 a5 a6 : Nat) (cb ci : ClassId) (tp : Nat → Int32) (tl : Nat) (vo : Nat → Int32) (np : Nat) (rp rl : Nat → Nat) (rc : Nat) (sb sa : Nat → Nat) (sz : Nat) (sv : Int32) (iv : Int32) (htl : tl ≤ 300) (hnp : np ≤ 4480) (hrc : rc ≤ 200) (hno : ¬ (0 ≤ sv.toInt ∧ sv.toInt ≤ 255 ∧ 0 ≤ iv.toInt ∧ iv.toInt ≤ 65535 ∧ rc < 200 ∧ np + 6 + tl ≤ 4480)) : Met l yX0_put wsX0_put ({ frames := 5, cells := 0, slots := 0, locals := 117 }) (kPre (dC, dI) vwCl (wB h a1 a2 a3 a4 a5 a6 cb ci tp tl vo np rp rl rc sb sa) (tB cb ci) sz [.ref h, .int sv, .int iv]) (kQi (dC, dI) vwCl (wB h a1 a2 a3 a4 a5 a6 cb ci tp tl vo np rp rl rc sb sa) (tB cb ci) sz ((-1)) (wB h a1 a2 a3 a4 a5 a6 cb ci tp tl vo np rp rl rc sb sa)) 0 0 (va_A (wB h a1 a2 a3 a4 a5 a6 cb ci tp tl vo np rp rl rc sb sa) sz) := by
  refine kM_i (cc := cX0_put) (maxL := 4) (by decide) rfl (Nat.le_of_ble_eq_true rfl) ?_
  intro p e s m below meth c A Q ls H locs S hP hK hD hS hA hl hret
  obtain ⟨hx, hb, hml, hown, hts⟩ := id S
  have hin0 : ∀ w ∈ u_ws RX0 TX0 9, w ∈ wsX0_put := fun _ h => List.mem_cons_of_mem _ (List.mem_append_right _ h)
  have lkc33 := hts (.constant RX0 33 (65535)) (by decide +kernel)
  have lkf29 := hts (.fieldLink RX0 29 "BlockTape" "tapeLength" "I") (by decide +kernel)
  have lkf34 := hts (.fieldLink RX0 34 "BlockTape" "records" "I") (by decide +kernel)
  have hl : lv_has ls 4 [(0, .ref h), (1, .int sv), (2, .int iv)] := hl
  refine lv_iload_n hx hb dX0_put_0 rfl (lv_at hl 1 rfl) ?_
  refine lv_if_lt (tgt := 21) hx hb dX0_put_1 (by decide) (fun c_1 => ?_) (fun c_1 => ?_)
  · have c_1 := (kx_lt0).mp c_1
    refine lv_iconst (v := (-1)) hx hb dX0_put_21 (by decide) ?_
    exact hret _ _ _ _ hP hD hS dX0_put_22
  · have c_1 := kmt (kx_lt0).mpr c_1
    refine lv_iload_n hx hb dX0_put_4 rfl (lv_at hl 1 rfl) ?_
    refine lv_sipush (v := nI 255) hx hb dX0_put_5 (by decide) ?_
    refine lv_icmp_gt (tgt := 21) hx hb dX0_put_8 (by decide) (fun c_8 => ?_) (fun c_8 => ?_)
    · have c_8 := (kx_gt (by omega)).mp c_8
      refine lv_iconst (v := (-1)) hx hb dX0_put_21 (by decide) ?_
      exact hret _ _ _ _ hP hD hS dX0_put_22
    · have c_8 := kmt (kx_gt (by omega)).mpr c_8
      refine lv_iload_n hx hb dX0_put_11 rfl (lv_at hl 2 rfl) ?_
      refine lv_if_lt (tgt := 21) hx hb dX0_put_12 (by decide) (fun c_12 => ?_) (fun c_12 => ?_)
      · have c_12 := (kx_lt0).mp c_12
        refine lv_iconst (v := (-1)) hx hb dX0_put_21 (by decide) ?_
        exact hret _ _ _ _ hP hD hS dX0_put_22
      · have c_12 := kmt (kx_lt0).mpr c_12
        refine lv_iload_n hx hb dX0_put_15 rfl (lv_at hl 2 rfl) ?_
        refine lv_ldc (v := nI 65535) hx hb hown lkc33 dX0_put_16 ?_
        refine lv_icmp_le (tgt := 23) hx hb dX0_put_18 (by decide) (fun c_18 => ?_) (fun c_18 => ?_)
        · have c_18 := (kx_le (by omega)).mp c_18
          refine lv_bipush (v := nI 6) hx hb dX0_put_23 (by decide) ?_
          refine lv_aload_n hx hb dX0_put_25 rfl (lv_at hl 0 rfl) ?_
          refine va_get (D := (dC, dI)) (ci := 0) (v := .int (nI tl)) (C := RX0) (T := TX0) (N := 9) hx hb hts hin0 hown hK hP 0 rfl rfl 1 (by decide) lkf29 (fun _ h9 => h9) rfl dX0_put_26 ?_
          refine lv_iadd hx hb dX0_put_29 ?_
          refine kv_top (show _ = nI (6 + tl) from nI_add _ _) ?_
          refine lv_istore_n (lv' := [(3, .int (nI (6 + tl))), (0, .ref h), (1, .int sv), (2, .int iv)]) hx hb dX0_put_30 rfl hl (by decide) rfl (fun ls hl => ?_)
          refine lv_aload_n hx hb dX0_put_31 rfl (lv_at hl 1 rfl) ?_
          refine va_get (D := (dC, dI)) (ci := 0) (v := .int (nI rc)) (C := RX0) (T := TX0) (N := 9) hx hb hts hin0 hown hK hP 0 rfl rfl 6 (by decide) lkf34 (fun _ h9 => h9) rfl dX0_put_32 ?_
          refine lv_sipush (v := nI 200) hx hb dX0_put_35 (by decide) ?_
          refine lv_icmp_ge (tgt := 49) hx hb dX0_put_38 (by decide) (fun c_38 => ?_) (fun c_38 => ?_)
          · have c_38 := (nI_leI (by omega) (by omega)).mp c_38
            refine lv_iconst (v := (-1)) hx hb dX0_put_49 (by decide) ?_
            exact hret _ _ _ _ hP hD hS dX0_put_50
          · have c_38 := kmt (nI_leI (by omega) (by omega)).mpr c_38
            refine lv_iload_n hx hb dX0_put_41 rfl (lv_at hl 0 rfl) ?_
            refine lv_aload_n hx hb dX0_put_42 rfl (lv_at hl 1 rfl) ?_
            refine kc_vi (WR := []) (As := []) (rest := [.int (nI (6 + tl))]) ⟨hx, hb, hml, hown, hts⟩ (c_placesLeft l dC dI h a1 a2 a3 a4 a5 a6 cb ci tp tl vo np rp rl rc sb sa H.size (by omega)) (cwV 0 hts gX0_put_X0_placesLeft rfl rfl rfl (by decide +kernel) ⟨Nat.le_of_ble_eq_true rfl, Nat.le_of_ble_eq_true rfl⟩) hK hP hD hS hA [0, 1, 2, 3, 4, 5, 6] [] [0, 1] rfl rfl (by decide) (by decide) (by decide) rfl 0 0 rfl rfl rfl rfl hl.1 rfl (Nat.le_of_ble_eq_true rfl) dX0_put_43 ⟨Nat.zero_le _, Nat.zero_le _⟩ (fun H locs hP hD hS => ?_)
            have hP : va_P (dC, dI) vwCl (wB h a1 a2 a3 a4 a5 a6 cb ci tp tl vo np rp rl rc sb sa) H := hP
            have hD : va_D A (wB h a1 a2 a3 a4 a5 a6 cb ci tp tl vo np rp rl rc sb sa) := hD
            refine lv_icmp_le (tgt := 51) hx hb dX0_put_46 (by decide) (fun c_46 => ?_) (fun c_46 => ?_)
            · have c_46 := (nI_leI (by omega) (by omega)).mp c_46
              exfalso; omega
            · have c_46 := kmt (nI_leI (by omega) (by omega)).mpr c_46
              refine lv_iconst (v := (-1)) hx hb dX0_put_49 (by decide) ?_
              exact hret _ _ _ _ hP hD hS dX0_put_50
        · have c_18 := kmt (kx_le (by omega)).mpr c_18
          refine lv_iconst (v := (-1)) hx hb dX0_put_21 (by decide) ?_
          exact hret _ _ _ _ hP hD hS dX0_put_22
set_option maxHeartbeats 4000000 in
set_option maxRecDepth 100000 in
theorem c_close (l : Launch) (dC : Nat → ClassId) (dI : Nat → Nat → Nat) (h a1 a2 a3 a4 a5 a6 : Nat) (cb ci : ClassId) (tp : Nat → Int32) (tl : Nat) (vo : Nat → Int32) (np : Nat) (rp rl : Nat → Nat) (rc : Nat) (sb sa : Nat → Nat) (sz : Nat) (hnp : np ≤ 4480) (hu : np % 56 ≠ 0) : Met l yX0_close wsX0_close ({ frames := 3, cells := 0, slots := 0, locals := 73 }) (kPre (dC, dI) vwCl (wB h a1 a2 a3 a4 a5 a6 cb ci tp tl vo np rp rl rc sb sa) (tB cb ci) sz [.ref h]) (kQi (dC, dI) vwCl (wB h a1 a2 a3 a4 a5 a6 cb ci tp tl vo np rp rl rc sb sa) (tB cb ci) sz (nI 1) (wB h a1 a2 a3 a4 a5 a6 cb ci tp tl (wbV vo (np / 56) (np % 56)) (np + (56 - np % 56)) rp rl rc sb sa)) 0 0 (va_A (wB h a1 a2 a3 a4 a5 a6 cb ci tp tl vo np rp rl rc sb sa) sz) := by
  refine kM_z (cc := cX0_close) (maxL := 2) (by decide) rfl (Nat.le_of_ble_eq_true rfl) (rfl) ?_
  intro p e s m below meth c A Q ls H locs S hP hK hD hS hA hl hret
  obtain ⟨hx, hb, hml, hown, hts⟩ := id S
  have hin0 : ∀ w ∈ u_ws RX0 TX0 9, w ∈ wsX0_close := fun _ h => List.mem_cons_of_mem _ (List.mem_append_right _ h)
  have lkf44 := hts (.fieldLink RX0 44 "BlockTape" "nextPlace" "I") (by decide +kernel)
  have hl : lv_has ls 2 [(0, .ref h)] := hl
  refine lv_aload_n hx hb dX0_close_0 rfl (lv_at hl 0 rfl) ?_
  refine va_get (D := (dC, dI)) (ci := 0) (v := .int (nI np)) (C := RX0) (T := TX0) (N := 9) hx hb hts hin0 hown hK hP 0 rfl rfl 3 (by decide) lkf44 (fun _ h9 => h9) rfl dX0_close_1 ?_
  refine lv_bipush (v := nI 56) hx hb dX0_close_4 (by decide) ?_
  refine lv_irem hx hb dX0_close_6 (by decide) ?_
  refine kv_top (show _ = nI (np % 56) from pk_rem (by omega) (by omega) (by omega)) ?_
  refine lv_istore_n (lv' := [(1, .int (nI (np % 56))), (0, .ref h)]) hx hb dX0_close_7 rfl hl (by decide) rfl (fun ls hl => ?_)
  refine lv_iload_n hx hb dX0_close_8 rfl (lv_at hl 0 rfl) ?_
  refine lv_if_ne (tgt := 14) hx hb dX0_close_9 (by decide) (fun c_9 => ?_) (fun c_9 => ?_)
  · have c_9 := kmt (kn_eq0 (by omega)).mpr c_9
    refine lv_aload_n hx hb dX0_close_14 rfl (lv_at hl 1 rfl) ?_
    refine lv_aload_n hx hb dX0_close_15 rfl (lv_at hl 1 rfl) ?_
    refine va_get (D := (dC, dI)) (ci := 0) (v := .int (nI np)) (C := RX0) (T := TX0) (N := 9) hx hb hts hin0 hown hK hP 0 rfl rfl 3 (by decide) lkf44 (fun _ h9 => h9) rfl dX0_close_16 ?_
    refine lv_bipush (v := nI 56) hx hb dX0_close_19 (by decide) ?_
    refine lv_idiv hx hb dX0_close_21 (by decide) ?_
    refine kv_top (show _ = nI (np / 56) from pk_div (by omega) (by omega) (by omega)) ?_
    refine lv_iload_n hx hb dX0_close_22 rfl (lv_at hl 0 rfl) ?_
    refine kc_vv (WR := []) (As := [.int (nI (np / 56)), .int (nI (np % 56))]) (rest := []) ⟨hx, hb, hml, hown, hts⟩ (c_writeBlock l dC dI h a1 a2 a3 a4 a5 a6 cb ci tp tl vo np rp rl rc sb sa H.size (np / 56) (np % 56) (by omega) (by omega)) (cwV 2 hts gX0_close_X0_writeBlock rfl rfl rfl (by decide +kernel) ⟨Nat.le_of_ble_eq_true rfl, Nat.le_of_ble_eq_true rfl⟩) hK hP hD hS hA [0, 1, 2, 3, 4, 5, 6] [] [0, 1] rfl rfl (by decide) (by decide) (by decide) rfl 0 0 rfl rfl rfl rfl hl.1 rfl (Nat.le_of_ble_eq_true rfl) dX0_close_23 ⟨Nat.zero_le _, Nat.zero_le _⟩ (fun H locs hP hD hS => ?_)
    have hP : va_P (dC, dI) vwCl (wB h a1 a2 a3 a4 a5 a6 cb ci tp tl (wbV vo (np / 56) (np % 56)) np rp rl rc sb sa) H := hP
    have hD : va_D A (wB h a1 a2 a3 a4 a5 a6 cb ci tp tl (wbV vo (np / 56) (np % 56)) np rp rl rc sb sa) := hD
    refine lv_aload_n hx hb dX0_close_26 rfl (lv_at hl 1 rfl) ?_
    refine lv_dup hx hb dX0_close_27 rfl ?_
    refine va_get (D := (dC, dI)) (ci := 0) (v := .int (nI np)) (C := RX0) (T := TX0) (N := 9) hx hb hts hin0 hown hK hP 0 rfl rfl 3 (by decide) lkf44 (fun _ h9 => h9) rfl dX0_close_28 ?_
    refine lv_bipush (v := nI 56) hx hb dX0_close_31 (by decide) ?_
    refine lv_iload_n hx hb dX0_close_33 rfl (lv_at hl 0 rfl) ?_
    refine lv_isub hx hb dX0_close_34 ?_
    refine kv_top (show _ = nI (56 - (np % 56)) from pk_sub (by omega)) ?_
    refine lv_iadd hx hb dX0_close_35 ?_
    refine kv_top (show _ = nI (np + (56 - (np % 56))) from nI_add _ _) ?_
    refine va_put (D := (dC, dI)) (ci := 0) (v := .int (nI (np + (56 - (np % 56))))) (ty := .int) (C := RX0) (T := TX0) (N := 9) hx hb hts hin0 tyX0 tyX0_ok nmX0 hown hK hP hD hS 0 rfl rfl 3 (by decide) lkf44 (fun _ h9 => h9) rfl (by decide +kernel) rfl rfl (Nat.le_of_ble_eq_true rfl) dX0_close_36 (fun H locs hP hD hS => ?_)
    have hP : va_P (dC, dI) vwCl (wB h a1 a2 a3 a4 a5 a6 cb ci tp tl (wbV vo (np / 56) (np % 56)) (np + (56 - (np % 56))) rp rl rc sb sa) H := hP
    have hD : va_D A (wB h a1 a2 a3 a4 a5 a6 cb ci tp tl (wbV vo (np / 56) (np % 56)) (np + (56 - (np % 56))) rp rl rc sb sa) := hD
    refine lv_iconst (v := nI 1) hx hb dX0_close_39 (by decide) ?_
    have hP : va_P (dC, dI) vwCl (wB h a1 a2 a3 a4 a5 a6 cb ci tp tl (wbV vo (np / 56) (np % 56)) (np + (56 - np % 56)) rp rl rc sb sa) H := hP
    have hD : va_D A (wB h a1 a2 a3 a4 a5 a6 cb ci tp tl (wbV vo (np / 56) (np % 56)) (np + (56 - np % 56)) rp rl rc sb sa) := hD
    exact hret _ _ _ _ hP hD hS dX0_close_40
  · have c_9 := (kn_eq0 (by omega)).mp c_9
    exfalso; omega
end
section
set_option maxHeartbeats 4000000 in
set_option maxRecDepth 100000 in
theorem c_closeN (l : Launch) (dC : Nat → ClassId) (dI : Nat → Nat → Nat) (h a1 a2 a3 a4 a5 a6 : Nat) (cb ci : ClassId) (tp : Nat → Int32) (tl : Nat) (vo : Nat → Int32) (np : Nat) (rp rl : Nat → Nat) (rc : Nat) (sb sa : Nat → Nat) (sz : Nat) (hnp : np ≤ 4480) (hu : np % 56 = 0) : Met l yX0_close wsX0_close ({ frames := 3, cells := 0, slots := 0, locals := 73 }) (kPre (dC, dI) vwCl (wB h a1 a2 a3 a4 a5 a6 cb ci tp tl vo np rp rl rc sb sa) (tB cb ci) sz [.ref h]) (kQi (dC, dI) vwCl (wB h a1 a2 a3 a4 a5 a6 cb ci tp tl vo np rp rl rc sb sa) (tB cb ci) sz (nI 0) (wB h a1 a2 a3 a4 a5 a6 cb ci tp tl vo np rp rl rc sb sa)) 0 0 (va_A (wB h a1 a2 a3 a4 a5 a6 cb ci tp tl vo np rp rl rc sb sa) sz) := by
  refine kM_z (cc := cX0_close) (maxL := 2) (by decide) rfl (Nat.le_of_ble_eq_true rfl) (rfl) ?_
  intro p e s m below meth c A Q ls H locs S hP hK hD hS hA hl hret
  obtain ⟨hx, hb, hml, hown, hts⟩ := id S
  have hin0 : ∀ w ∈ u_ws RX0 TX0 9, w ∈ wsX0_close := fun _ h => List.mem_cons_of_mem _ (List.mem_append_right _ h)
  have lkf44 := hts (.fieldLink RX0 44 "BlockTape" "nextPlace" "I") (by decide +kernel)
  have hl : lv_has ls 2 [(0, .ref h)] := hl
  refine lv_aload_n hx hb dX0_close_0 rfl (lv_at hl 0 rfl) ?_
  refine va_get (D := (dC, dI)) (ci := 0) (v := .int (nI np)) (C := RX0) (T := TX0) (N := 9) hx hb hts hin0 hown hK hP 0 rfl rfl 3 (by decide) lkf44 (fun _ h9 => h9) rfl dX0_close_1 ?_
  refine lv_bipush (v := nI 56) hx hb dX0_close_4 (by decide) ?_
  refine lv_irem hx hb dX0_close_6 (by decide) ?_
  refine kv_top (show _ = nI (np % 56) from pk_rem (by omega) (by omega) (by omega)) ?_
  refine lv_istore_n (lv' := [(1, .int (nI (np % 56))), (0, .ref h)]) hx hb dX0_close_7 rfl hl (by decide) rfl (fun ls hl => ?_)
  refine lv_iload_n hx hb dX0_close_8 rfl (lv_at hl 0 rfl) ?_
  refine lv_if_ne (tgt := 14) hx hb dX0_close_9 (by decide) (fun c_9 => ?_) (fun c_9 => ?_)
  · have c_9 := kmt (kn_eq0 (by omega)).mpr c_9
    exfalso; omega
  · have c_9 := (kn_eq0 (by omega)).mp c_9
    refine lv_iconst (v := nI 0) hx hb dX0_close_12 (by decide) ?_
    exact hret _ _ _ _ hP hD hS dX0_close_13
set_option maxHeartbeats 4000000 in
set_option maxRecDepth 100000 in
theorem c_spoil (l : Launch) (dC : Nat → ClassId) (dI : Nat → Nat → Nat) (h a1 a2 a3 a4 a5 a6 : Nat) (cb ci : ClassId) (tp : Nat → Int32) (tl : Nat) (vo : Nat → Int32) (np : Nat) (rp rl : Nat → Nat) (rc : Nat) (sb sa : Nat → Nat) (sz : Nat) (b : Nat) (q : Nat) (v : Nat) (hnp : np ≤ 4480) (hb80 : b < np / 56) (hq : q < 64) (hv : 1 ≤ v ∧ v ≤ 255) (hs0 : sb b = 0) : Met l yX0_spoil wsX0_spoil ({ frames := 2, cells := 0, slots := 0, locals := 41 }) (kPre (dC, dI) vwCl (wB h a1 a2 a3 a4 a5 a6 cb ci tp tl vo np rp rl rc sb sa) (tB cb ci) sz [.ref h, .int (nI b), .int (nI q), .int (nI v)]) (kQi (dC, dI) vwCl (wB h a1 a2 a3 a4 a5 a6 cb ci tp tl vo np rp rl rc sb sa) (tB cb ci) sz (nI 1) (wB h a1 a2 a3 a4 a5 a6 cb ci tp tl (upd vo (b * 64 + q) (bn (vo (b * 64 + q) + nI v))) np rp rl rc (updN sb b v) (updN sa b q))) 0 0 (va_A (wB h a1 a2 a3 a4 a5 a6 cb ci tp tl vo np rp rl rc sb sa) sz) := by
  refine kM_z (cc := cX0_spoil) (maxL := 4) (by decide) rfl (Nat.le_of_ble_eq_true rfl) (rfl) ?_
  intro p e s m below meth c A Q ls H locs S hP hK hD hS hA hl hret
  obtain ⟨hx, hb, hml, hown, hts⟩ := id S
  have hin0 : ∀ w ∈ u_ws RX0 TX0 9, w ∈ wsX0_spoil := fun _ h => List.mem_cons_of_mem _ (List.mem_append_right _ h)
  have lkf23 := hts (.fieldLink RX0 23 "BlockTape" "spoiltBy" "[I") (by decide +kernel)
  have lkf26 := hts (.fieldLink RX0 26 "BlockTape" "spoiltAt" "[I") (by decide +kernel)
  have hl : lv_has ls 4 [(0, .ref h), (1, .int (nI b)), (2, .int (nI q)), (3, .int (nI v))] := hl
  refine lv_aload_n hx hb dX0_spoil_0 rfl (lv_at hl 0 rfl) ?_
  refine lv_iload_n hx hb dX0_spoil_1 rfl (lv_at hl 1 rfl) ?_
  refine kc_vi (WR := []) (As := [.int (nI b)]) (rest := []) ⟨hx, hb, hml, hown, hts⟩ (c_isWritten l dC dI h a1 a2 a3 a4 a5 a6 cb ci tp tl vo np rp rl rc sb sa H.size (nI b) (by omega)) (cwV 1 hts gX0_spoil_X0_isWritten rfl rfl rfl (by decide +kernel) ⟨Nat.le_of_ble_eq_true rfl, Nat.le_of_ble_eq_true rfl⟩) hK hP hD hS hA [0, 1, 2, 3, 4, 5, 6] [] [0, 1] rfl rfl (by decide) (by decide) (by decide) rfl 0 0 rfl rfl rfl rfl hl.1 rfl (Nat.le_of_ble_eq_true rfl) dX0_spoil_2 ⟨Nat.zero_le _, Nat.zero_le _⟩ (fun H locs hP hD hS => ?_)
  have hP : va_P (dC, dI) vwCl (wB h a1 a2 a3 a4 a5 a6 cb ci tp tl vo np rp rl rc sb sa) H := hP
  have hD : va_D A (wB h a1 a2 a3 a4 a5 a6 cb ci tp tl vo np rp rl rc sb sa) := hD
  refine lv_if_eq (tgt := 36) hx hb dX0_spoil_5 (by decide) (fun c_5 => ?_) (fun c_5 => ?_)
  · have c_5 := (bI_e _).mp c_5
    exact absurd c_5 (by rw [isW_n (by omega)]; simp; omega)
  · have c_5 := kmt (bI_e _).mpr c_5
    refine lv_iload_n hx hb dX0_spoil_8 rfl (lv_at hl 2 rfl) ?_
    refine kc_si (WR := wB h a1 a2 a3 a4 a5 a6 cb ci tp tl vo np rp rl rc sb sa) (As := [.int (nI q)]) (rest := []) ⟨hx, hb, hml, hown, hts⟩ (c_isInBlock l dC dI H.size (nI q)) (va_cwS 1 hts gX0_spoil_X0_isInBlock rfl rfl rfl (by decide +kernel) ⟨Nat.le_of_ble_eq_true rfl, Nat.le_of_ble_eq_true rfl⟩) hK hP hD hS hA [] [0, 1, 2, 3, 4, 5, 6] [] rfl rfl (by decide) (by decide) (by decide) rfl rfl hl.1 rfl (Nat.le_of_ble_eq_true rfl) dX0_spoil_9 ⟨Nat.zero_le _, Nat.zero_le _⟩ (fun H locs hP hD hS => ?_)
    have hP : va_P (dC, dI) vwCl (wB h a1 a2 a3 a4 a5 a6 cb ci tp tl vo np rp rl rc sb sa) H := hP
    have hD : va_D A (wB h a1 a2 a3 a4 a5 a6 cb ci tp tl vo np rp rl rc sb sa) := hD
    refine lv_if_eq (tgt := 36) hx hb dX0_spoil_12 (by decide) (fun c_12 => ?_) (fun c_12 => ?_)
    · have c_12 := (bI_e _).mp c_12
      exact absurd c_12 (by rw [inB_n (by omega)]; simp; omega)
    · have c_12 := kmt (bI_e _).mpr c_12
      refine lv_iload_n hx hb dX0_spoil_15 rfl (lv_at hl 3 rfl) ?_
      refine lv_iconst (v := nI 1) hx hb dX0_spoil_16 (by decide) ?_
      refine lv_icmp_lt (tgt := 36) hx hb dX0_spoil_17 (by decide) (fun c_17 => ?_) (fun c_17 => ?_)
      · have c_17 := (nI_ltI (by omega) (by omega)).mp c_17
        exfalso; omega
      · have c_17 := kmt (nI_ltI (by omega) (by omega)).mpr c_17
        refine lv_iload_n hx hb dX0_spoil_20 rfl (lv_at hl 3 rfl) ?_
        refine lv_sipush (v := nI 255) hx hb dX0_spoil_21 (by decide) ?_
        refine lv_icmp_gt (tgt := 36) hx hb dX0_spoil_24 (by decide) (fun c_24 => ?_) (fun c_24 => ?_)
        · have c_24 := (nI_ltI (by omega) (by omega)).mp c_24
          exfalso; omega
        · have c_24 := kmt (nI_ltI (by omega) (by omega)).mpr c_24
          refine lv_aload_n hx hb dX0_spoil_27 rfl (lv_at hl 0 rfl) ?_
          refine va_get (D := (dC, dI)) (ci := 0) (v := .ref a5) (C := RX0) (T := TX0) (N := 9) hx hb hts hin0 hown hK hP 0 rfl rfl 7 (by decide) lkf23 (fun _ h9 => h9) rfl dX0_spoil_28 ?_
          refine lv_iload_n hx hb dX0_spoil_31 rfl (lv_at hl 1 rfl) ?_
          refine ka_ialdN hx hb hK hP 5 1 rfl rfl (k := b) (by omega) (by decide) dX0_spoil_32 ?_
          refine lv_if_eq (tgt := 38) hx hb dX0_spoil_33 (by decide) (fun c_33 => ?_) (fun c_33 => ?_)
          · have c_33 := (kn_eq0 (by omega)).mp c_33
            refine lv_aload_n hx hb dX0_spoil_38 rfl (lv_at hl 0 rfl) ?_
            refine lv_iload_n hx hb dX0_spoil_39 rfl (lv_at hl 1 rfl) ?_
            refine lv_bipush (v := nI 64) hx hb dX0_spoil_40 (by decide) ?_
            refine lv_imul hx hb dX0_spoil_42 ?_
            refine kv_top (show _ = nI (b * 64) from pk_mul _ _) ?_
            refine lv_iload_n hx hb dX0_spoil_43 rfl (lv_at hl 2 rfl) ?_
            refine lv_iadd hx hb dX0_spoil_44 ?_
            refine kv_top (show _ = nI ((b * 64) + q) from nI_add _ _) ?_
            refine lv_iload_n hx hb dX0_spoil_45 rfl (lv_at hl 3 rfl) ?_
            refine kc_vv (WR := []) (As := [.int (nI ((b * 64) + q)), .int (nI v)]) (rest := []) ⟨hx, hb, hml, hown, hts⟩ (c_addToByte l dC dI h a1 a2 a3 a4 a5 a6 cb ci tp tl vo np rp rl rc sb sa H.size ((b * 64) + q) (nI v) (by omega)) (cwV 2 hts gX0_spoil_X0_addToByte rfl rfl rfl (by decide +kernel) ⟨Nat.le_of_ble_eq_true rfl, Nat.le_of_ble_eq_true rfl⟩) hK hP hD hS hA [0, 1, 2, 3, 4, 5, 6] [] [0, 1] rfl rfl (by decide) (by decide) (by decide) rfl 0 0 rfl rfl rfl rfl hl.1 rfl (Nat.le_of_ble_eq_true rfl) dX0_spoil_46 ⟨Nat.zero_le _, Nat.zero_le _⟩ (fun H locs hP hD hS => ?_)
            have hP : va_P (dC, dI) vwCl (wB h a1 a2 a3 a4 a5 a6 cb ci tp tl (upd vo ((b * 64) + q) (bn (vo ((b * 64) + q) + (nI v)))) np rp rl rc sb sa) H := hP
            have hD : va_D A (wB h a1 a2 a3 a4 a5 a6 cb ci tp tl (upd vo ((b * 64) + q) (bn (vo ((b * 64) + q) + (nI v)))) np rp rl rc sb sa) := hD
            refine lv_aload_n hx hb dX0_spoil_49 rfl (lv_at hl 0 rfl) ?_
            refine va_get (D := (dC, dI)) (ci := 0) (v := .ref a5) (C := RX0) (T := TX0) (N := 9) hx hb hts hin0 hown hK hP 0 rfl rfl 7 (by decide) lkf23 (fun _ h9 => h9) rfl dX0_spoil_50 ?_
            refine lv_iload_n hx hb dX0_spoil_53 rfl (lv_at hl 1 rfl) ?_
            refine lv_iload_n hx hb dX0_spoil_54 rfl (lv_at hl 3 rfl) ?_
            refine ka_iastN hx hb hK hP hD hS 5 1 rfl rfl (k := b) (x := v) (by omega) (by decide) dX0_spoil_55 (fun H locs hP hD hS => ?_)
            have hP : va_P (dC, dI) vwCl (wB h a1 a2 a3 a4 a5 a6 cb ci tp tl (upd vo ((b * 64) + q) (bn (vo ((b * 64) + q) + (nI v)))) np rp rl rc (updN sb b v) sa) H := hP
            have hD : va_D A (wB h a1 a2 a3 a4 a5 a6 cb ci tp tl (upd vo ((b * 64) + q) (bn (vo ((b * 64) + q) + (nI v)))) np rp rl rc (updN sb b v) sa) := hD
            refine lv_aload_n hx hb dX0_spoil_56 rfl (lv_at hl 0 rfl) ?_
            refine va_get (D := (dC, dI)) (ci := 0) (v := .ref a6) (C := RX0) (T := TX0) (N := 9) hx hb hts hin0 hown hK hP 0 rfl rfl 8 (by decide) lkf26 (fun _ h9 => h9) rfl dX0_spoil_57 ?_
            refine lv_iload_n hx hb dX0_spoil_60 rfl (lv_at hl 1 rfl) ?_
            refine lv_iload_n hx hb dX0_spoil_61 rfl (lv_at hl 2 rfl) ?_
            refine ka_iastN hx hb hK hP hD hS 6 1 rfl rfl (k := b) (x := q) (by omega) (by decide) dX0_spoil_62 (fun H locs hP hD hS => ?_)
            have hP : va_P (dC, dI) vwCl (wB h a1 a2 a3 a4 a5 a6 cb ci tp tl (upd vo ((b * 64) + q) (bn (vo ((b * 64) + q) + (nI v)))) np rp rl rc (updN sb b v) (updN sa b q)) H := hP
            have hD : va_D A (wB h a1 a2 a3 a4 a5 a6 cb ci tp tl (upd vo ((b * 64) + q) (bn (vo ((b * 64) + q) + (nI v)))) np rp rl rc (updN sb b v) (updN sa b q)) := hD
            refine lv_iconst (v := nI 1) hx hb dX0_spoil_63 (by decide) ?_
            have hP : va_P (dC, dI) vwCl (wB h a1 a2 a3 a4 a5 a6 cb ci tp tl (upd vo (b * 64 + q) (bn (vo (b * 64 + q) + nI v))) np rp rl rc (updN sb b v) (updN sa b q)) H := hP
            have hD : va_D A (wB h a1 a2 a3 a4 a5 a6 cb ci tp tl (upd vo (b * 64 + q) (bn (vo (b * 64 + q) + nI v))) np rp rl rc (updN sb b v) (updN sa b q)) := hD
            exact hret _ _ _ _ hP hD hS dX0_spoil_64
          · have c_33 := kmt (kn_eq0 (by omega)).mpr c_33
            exfalso; omega
set_option maxHeartbeats 4000000 in
set_option maxRecDepth 100000 in
theorem c_spoilN (l : Launch) (dC : Nat → ClassId) (dI : Nat → Nat → Nat) (h a1 a2 a3 a4 a5 a6 : Nat) (cb ci : ClassId) (tp : Nat → Int32) (tl : Nat) (vo : Nat → Int32) (np : Nat) (rp rl : Nat → Nat) (rc : Nat) (sb sa : Nat → Nat) (sz : Nat) (x : Int32) (q : Int32) (v : Int32) (hnp : np ≤ 4480) (hsb : ∀ b, b < 80 → sb b < 256) (hno : isW np x = true → inB q = true → 1 ≤ v.toInt → v.toInt ≤ 255 → sb x.toInt.toNat ≠ 0) : Met l yX0_spoil wsX0_spoil ({ frames := 2, cells := 0, slots := 0, locals := 41 }) (kPre (dC, dI) vwCl (wB h a1 a2 a3 a4 a5 a6 cb ci tp tl vo np rp rl rc sb sa) (tB cb ci) sz [.ref h, .int x, .int q, .int v]) (kQi (dC, dI) vwCl (wB h a1 a2 a3 a4 a5 a6 cb ci tp tl vo np rp rl rc sb sa) (tB cb ci) sz (nI 0) (wB h a1 a2 a3 a4 a5 a6 cb ci tp tl vo np rp rl rc sb sa)) 0 0 (va_A (wB h a1 a2 a3 a4 a5 a6 cb ci tp tl vo np rp rl rc sb sa) sz) := by
  refine kM_z (cc := cX0_spoil) (maxL := 4) (by decide) rfl (Nat.le_of_ble_eq_true rfl) (rfl) ?_
  intro p e s m below meth c A Q ls H locs S hP hK hD hS hA hl hret
  obtain ⟨hx, hb, hml, hown, hts⟩ := id S
  have hin0 : ∀ w ∈ u_ws RX0 TX0 9, w ∈ wsX0_spoil := fun _ h => List.mem_cons_of_mem _ (List.mem_append_right _ h)
  have lkf23 := hts (.fieldLink RX0 23 "BlockTape" "spoiltBy" "[I") (by decide +kernel)
  have hl : lv_has ls 4 [(0, .ref h), (1, .int x), (2, .int q), (3, .int v)] := hl
  refine lv_aload_n hx hb dX0_spoil_0 rfl (lv_at hl 0 rfl) ?_
  refine lv_iload_n hx hb dX0_spoil_1 rfl (lv_at hl 1 rfl) ?_
  refine kc_vi (WR := []) (As := [.int x]) (rest := []) ⟨hx, hb, hml, hown, hts⟩ (c_isWritten l dC dI h a1 a2 a3 a4 a5 a6 cb ci tp tl vo np rp rl rc sb sa H.size x (by omega)) (cwV 1 hts gX0_spoil_X0_isWritten rfl rfl rfl (by decide +kernel) ⟨Nat.le_of_ble_eq_true rfl, Nat.le_of_ble_eq_true rfl⟩) hK hP hD hS hA [0, 1, 2, 3, 4, 5, 6] [] [0, 1] rfl rfl (by decide) (by decide) (by decide) rfl 0 0 rfl rfl rfl rfl hl.1 rfl (Nat.le_of_ble_eq_true rfl) dX0_spoil_2 ⟨Nat.zero_le _, Nat.zero_le _⟩ (fun H locs hP hD hS => ?_)
  have hP : va_P (dC, dI) vwCl (wB h a1 a2 a3 a4 a5 a6 cb ci tp tl vo np rp rl rc sb sa) H := hP
  have hD : va_D A (wB h a1 a2 a3 a4 a5 a6 cb ci tp tl vo np rp rl rc sb sa) := hD
  refine lv_if_eq (tgt := 36) hx hb dX0_spoil_5 (by decide) (fun c_5 => ?_) (fun c_5 => ?_)
  · have c_5 := (bI_e _).mp c_5
    refine lv_iconst (v := nI 0) hx hb dX0_spoil_36 (by decide) ?_
    exact hret _ _ _ _ hP hD hS dX0_spoil_37
  · have c_5 := kmt (bI_e _).mpr c_5
    have c_5 := bT c_5
    obtain ⟨j, hj, rfl⟩ := isW_of c_5
    refine lv_iload_n hx hb dX0_spoil_8 rfl (lv_at hl 2 rfl) ?_
    refine kc_si (WR := wB h a1 a2 a3 a4 a5 a6 cb ci tp tl vo np rp rl rc sb sa) (As := [.int q]) (rest := []) ⟨hx, hb, hml, hown, hts⟩ (c_isInBlock l dC dI H.size q) (va_cwS 1 hts gX0_spoil_X0_isInBlock rfl rfl rfl (by decide +kernel) ⟨Nat.le_of_ble_eq_true rfl, Nat.le_of_ble_eq_true rfl⟩) hK hP hD hS hA [] [0, 1, 2, 3, 4, 5, 6] [] rfl rfl (by decide) (by decide) (by decide) rfl rfl hl.1 rfl (Nat.le_of_ble_eq_true rfl) dX0_spoil_9 ⟨Nat.zero_le _, Nat.zero_le _⟩ (fun H locs hP hD hS => ?_)
    have hP : va_P (dC, dI) vwCl (wB h a1 a2 a3 a4 a5 a6 cb ci tp tl vo np rp rl rc sb sa) H := hP
    have hD : va_D A (wB h a1 a2 a3 a4 a5 a6 cb ci tp tl vo np rp rl rc sb sa) := hD
    refine lv_if_eq (tgt := 36) hx hb dX0_spoil_12 (by decide) (fun c_12 => ?_) (fun c_12 => ?_)
    · have c_12 := (bI_e _).mp c_12
      refine lv_iconst (v := nI 0) hx hb dX0_spoil_36 (by decide) ?_
      exact hret _ _ _ _ hP hD hS dX0_spoil_37
    · have c_12 := kmt (bI_e _).mpr c_12
      have c_12 := bT c_12
      have hsj := hsb j (by omega)
      refine lv_iload_n hx hb dX0_spoil_15 rfl (lv_at hl 3 rfl) ?_
      refine lv_iconst (v := nI 1) hx hb dX0_spoil_16 (by decide) ?_
      refine lv_icmp_lt (tgt := 36) hx hb dX0_spoil_17 (by decide) (fun c_17 => ?_) (fun c_17 => ?_)
      · have c_17 := (kx_lt (by omega)).mp c_17
        refine lv_iconst (v := nI 0) hx hb dX0_spoil_36 (by decide) ?_
        exact hret _ _ _ _ hP hD hS dX0_spoil_37
      · have c_17 := kmt (kx_lt (by omega)).mpr c_17
        refine lv_iload_n hx hb dX0_spoil_20 rfl (lv_at hl 3 rfl) ?_
        refine lv_sipush (v := nI 255) hx hb dX0_spoil_21 (by decide) ?_
        refine lv_icmp_gt (tgt := 36) hx hb dX0_spoil_24 (by decide) (fun c_24 => ?_) (fun c_24 => ?_)
        · have c_24 := (kx_gt (by omega)).mp c_24
          refine lv_iconst (v := nI 0) hx hb dX0_spoil_36 (by decide) ?_
          exact hret _ _ _ _ hP hD hS dX0_spoil_37
        · have c_24 := kmt (kx_gt (by omega)).mpr c_24
          refine lv_aload_n hx hb dX0_spoil_27 rfl (lv_at hl 0 rfl) ?_
          refine va_get (D := (dC, dI)) (ci := 0) (v := .ref a5) (C := RX0) (T := TX0) (N := 9) hx hb hts hin0 hown hK hP 0 rfl rfl 7 (by decide) lkf23 (fun _ h9 => h9) rfl dX0_spoil_28 ?_
          refine lv_iload_n hx hb dX0_spoil_31 rfl (lv_at hl 1 rfl) ?_
          refine ka_ialdN hx hb hK hP 5 1 rfl rfl (k := j) (by omega) (by decide) dX0_spoil_32 ?_
          refine lv_if_eq (tgt := 38) hx hb dX0_spoil_33 (by decide) (fun c_33 => ?_) (fun c_33 => ?_)
          · have c_33 := (kn_eq0 (by omega)).mp c_33
            exact absurd (by rw [nI_tn (by omega)]; exact c_33) (hno c_5 c_12 (by omega) (by omega))
          · have c_33 := kmt (kn_eq0 (by omega)).mpr c_33
            refine lv_iconst (v := nI 0) hx hb dX0_spoil_36 (by decide) ?_
            exact hret _ _ _ _ hP hD hS dX0_spoil_37
set_option maxHeartbeats 4000000 in
set_option maxRecDepth 100000 in
theorem c_heal (l : Launch) (dC : Nat → ClassId) (dI : Nat → Nat → Nat) (h a1 a2 a3 a4 a5 a6 : Nat) (cb ci : ClassId) (tp : Nat → Int32) (tl : Nat) (vo : Nat → Int32) (np : Nat) (rp rl : Nat → Nat) (rc : Nat) (sb sa : Nat → Nat) (sz : Nat) (b : Nat) (hnp : np ≤ 4480) (hb80 : b < np / 56) (hs0 : sb b ≠ 0 ∧ sb b < 256) (hsa : sa b < 64) : Met l yX0_heal wsX0_heal ({ frames := 2, cells := 0, slots := 0, locals := 41 }) (kPre (dC, dI) vwCl (wB h a1 a2 a3 a4 a5 a6 cb ci tp tl vo np rp rl rc sb sa) (tB cb ci) sz [.ref h, .int (nI b)]) (kQi (dC, dI) vwCl (wB h a1 a2 a3 a4 a5 a6 cb ci tp tl vo np rp rl rc sb sa) (tB cb ci) sz (nI 1) (wB h a1 a2 a3 a4 a5 a6 cb ci tp tl (upd vo (b * 64 + sa b) (bn (vo (b * 64 + sa b) + -(nI (sb b))))) np rp rl rc (updN sb b 0) sa)) 0 0 (va_A (wB h a1 a2 a3 a4 a5 a6 cb ci tp tl vo np rp rl rc sb sa) sz) := by
  refine kM_z (cc := cX0_heal) (maxL := 2) (by decide) rfl (Nat.le_of_ble_eq_true rfl) (rfl) ?_
  intro p e s m below meth c A Q ls H locs S hP hK hD hS hA hl hret
  obtain ⟨hx, hb, hml, hown, hts⟩ := id S
  have hin0 : ∀ w ∈ u_ws RX0 TX0 9, w ∈ wsX0_heal := fun _ h => List.mem_cons_of_mem _ (List.mem_append_right _ h)
  have lkf23 := hts (.fieldLink RX0 23 "BlockTape" "spoiltBy" "[I") (by decide +kernel)
  have lkf26 := hts (.fieldLink RX0 26 "BlockTape" "spoiltAt" "[I") (by decide +kernel)
  have hl : lv_has ls 2 [(0, .ref h), (1, .int (nI b))] := hl
  refine lv_aload_n hx hb dX0_heal_0 rfl (lv_at hl 0 rfl) ?_
  refine lv_iload_n hx hb dX0_heal_1 rfl (lv_at hl 1 rfl) ?_
  refine kc_vi (WR := []) (As := [.int (nI b)]) (rest := []) ⟨hx, hb, hml, hown, hts⟩ (c_isWritten l dC dI h a1 a2 a3 a4 a5 a6 cb ci tp tl vo np rp rl rc sb sa H.size (nI b) (by omega)) (cwV 1 hts gX0_heal_X0_isWritten rfl rfl rfl (by decide +kernel) ⟨Nat.le_of_ble_eq_true rfl, Nat.le_of_ble_eq_true rfl⟩) hK hP hD hS hA [0, 1, 2, 3, 4, 5, 6] [] [0, 1] rfl rfl (by decide) (by decide) (by decide) rfl 0 0 rfl rfl rfl rfl hl.1 rfl (Nat.le_of_ble_eq_true rfl) dX0_heal_2 ⟨Nat.zero_le _, Nat.zero_le _⟩ (fun H locs hP hD hS => ?_)
  have hP : va_P (dC, dI) vwCl (wB h a1 a2 a3 a4 a5 a6 cb ci tp tl vo np rp rl rc sb sa) H := hP
  have hD : va_D A (wB h a1 a2 a3 a4 a5 a6 cb ci tp tl vo np rp rl rc sb sa) := hD
  refine lv_if_eq (tgt := 17) hx hb dX0_heal_5 (by decide) (fun c_5 => ?_) (fun c_5 => ?_)
  · have c_5 := (bI_e _).mp c_5
    exact absurd c_5 (by rw [isW_n (by omega)]; simp; omega)
  · have c_5 := kmt (bI_e _).mpr c_5
    refine lv_aload_n hx hb dX0_heal_8 rfl (lv_at hl 0 rfl) ?_
    refine va_get (D := (dC, dI)) (ci := 0) (v := .ref a5) (C := RX0) (T := TX0) (N := 9) hx hb hts hin0 hown hK hP 0 rfl rfl 7 (by decide) lkf23 (fun _ h9 => h9) rfl dX0_heal_9 ?_
    refine lv_iload_n hx hb dX0_heal_12 rfl (lv_at hl 1 rfl) ?_
    refine ka_ialdN hx hb hK hP 5 1 rfl rfl (k := b) (by omega) (by decide) dX0_heal_13 ?_
    refine lv_if_ne (tgt := 19) hx hb dX0_heal_14 (by decide) (fun c_14 => ?_) (fun c_14 => ?_)
    · have c_14 := kmt (kn_eq0 (by omega)).mpr c_14
      refine lv_aload_n hx hb dX0_heal_19 rfl (lv_at hl 0 rfl) ?_
      refine lv_iload_n hx hb dX0_heal_20 rfl (lv_at hl 1 rfl) ?_
      refine lv_bipush (v := nI 64) hx hb dX0_heal_21 (by decide) ?_
      refine lv_imul hx hb dX0_heal_23 ?_
      refine kv_top (show _ = nI (b * 64) from pk_mul _ _) ?_
      refine lv_aload_n hx hb dX0_heal_24 rfl (lv_at hl 0 rfl) ?_
      refine va_get (D := (dC, dI)) (ci := 0) (v := .ref a6) (C := RX0) (T := TX0) (N := 9) hx hb hts hin0 hown hK hP 0 rfl rfl 8 (by decide) lkf26 (fun _ h9 => h9) rfl dX0_heal_25 ?_
      refine lv_iload_n hx hb dX0_heal_28 rfl (lv_at hl 1 rfl) ?_
      refine ka_ialdN hx hb hK hP 6 1 rfl rfl (k := b) (by omega) (by decide) dX0_heal_29 ?_
      refine lv_iadd hx hb dX0_heal_30 ?_
      refine kv_top (show _ = nI ((b * 64) + (sa b)) from nI_add _ _) ?_
      refine lv_aload_n hx hb dX0_heal_31 rfl (lv_at hl 0 rfl) ?_
      refine va_get (D := (dC, dI)) (ci := 0) (v := .ref a5) (C := RX0) (T := TX0) (N := 9) hx hb hts hin0 hown hK hP 0 rfl rfl 7 (by decide) lkf23 (fun _ h9 => h9) rfl dX0_heal_32 ?_
      refine lv_iload_n hx hb dX0_heal_35 rfl (lv_at hl 1 rfl) ?_
      refine ka_ialdN hx hb hK hP 5 1 rfl rfl (k := b) (by omega) (by decide) dX0_heal_36 ?_
      refine lv_ineg hx hb dX0_heal_37 ?_
      refine kc_vv (WR := []) (As := [.int (nI ((b * 64) + (sa b))), .int (-(nI (sb b)))]) (rest := []) ⟨hx, hb, hml, hown, hts⟩ (c_addToByte l dC dI h a1 a2 a3 a4 a5 a6 cb ci tp tl vo np rp rl rc sb sa H.size ((b * 64) + (sa b)) (-(nI (sb b))) (by omega)) (cwV 2 hts gX0_heal_X0_addToByte rfl rfl rfl (by decide +kernel) ⟨Nat.le_of_ble_eq_true rfl, Nat.le_of_ble_eq_true rfl⟩) hK hP hD hS hA [0, 1, 2, 3, 4, 5, 6] [] [0, 1] rfl rfl (by decide) (by decide) (by decide) rfl 0 0 rfl rfl rfl rfl hl.1 rfl (Nat.le_of_ble_eq_true rfl) dX0_heal_38 ⟨Nat.zero_le _, Nat.zero_le _⟩ (fun H locs hP hD hS => ?_)
      have hP : va_P (dC, dI) vwCl (wB h a1 a2 a3 a4 a5 a6 cb ci tp tl (upd vo ((b * 64) + (sa b)) (bn (vo ((b * 64) + (sa b)) + (-(nI (sb b)))))) np rp rl rc sb sa) H := hP
      have hD : va_D A (wB h a1 a2 a3 a4 a5 a6 cb ci tp tl (upd vo ((b * 64) + (sa b)) (bn (vo ((b * 64) + (sa b)) + (-(nI (sb b)))))) np rp rl rc sb sa) := hD
      refine lv_aload_n hx hb dX0_heal_41 rfl (lv_at hl 0 rfl) ?_
      refine va_get (D := (dC, dI)) (ci := 0) (v := .ref a5) (C := RX0) (T := TX0) (N := 9) hx hb hts hin0 hown hK hP 0 rfl rfl 7 (by decide) lkf23 (fun _ h9 => h9) rfl dX0_heal_42 ?_
      refine lv_iload_n hx hb dX0_heal_45 rfl (lv_at hl 1 rfl) ?_
      refine lv_iconst (v := nI 0) hx hb dX0_heal_46 (by decide) ?_
      refine ka_iastN hx hb hK hP hD hS 5 1 rfl rfl (k := b) (x := 0) (by omega) (by decide) dX0_heal_47 (fun H locs hP hD hS => ?_)
      have hP : va_P (dC, dI) vwCl (wB h a1 a2 a3 a4 a5 a6 cb ci tp tl (upd vo ((b * 64) + (sa b)) (bn (vo ((b * 64) + (sa b)) + (-(nI (sb b)))))) np rp rl rc (updN sb b 0) sa) H := hP
      have hD : va_D A (wB h a1 a2 a3 a4 a5 a6 cb ci tp tl (upd vo ((b * 64) + (sa b)) (bn (vo ((b * 64) + (sa b)) + (-(nI (sb b)))))) np rp rl rc (updN sb b 0) sa) := hD
      refine lv_iconst (v := nI 1) hx hb dX0_heal_48 (by decide) ?_
      have hP : va_P (dC, dI) vwCl (wB h a1 a2 a3 a4 a5 a6 cb ci tp tl (upd vo (b * 64 + sa b) (bn (vo (b * 64 + sa b) + -(nI (sb b))))) np rp rl rc (updN sb b 0) sa) H := hP
      have hD : va_D A (wB h a1 a2 a3 a4 a5 a6 cb ci tp tl (upd vo (b * 64 + sa b) (bn (vo (b * 64 + sa b) + -(nI (sb b))))) np rp rl rc (updN sb b 0) sa) := hD
      exact hret _ _ _ _ hP hD hS dX0_heal_49
    · have c_14 := (kn_eq0 (by omega)).mp c_14
      exfalso; omega
set_option maxHeartbeats 4000000 in
set_option maxRecDepth 100000 in
theorem c_healN (l : Launch) (dC : Nat → ClassId) (dI : Nat → Nat → Nat) (h a1 a2 a3 a4 a5 a6 : Nat) (cb ci : ClassId) (tp : Nat → Int32) (tl : Nat) (vo : Nat → Int32) (np : Nat) (rp rl : Nat → Nat) (rc : Nat) (sb sa : Nat → Nat) (sz : Nat) (x : Int32) (hnp : np ≤ 4480) (hsb : ∀ b, b < 80 → sb b < 256) (hno : isW np x = true → sb x.toInt.toNat = 0) : Met l yX0_heal wsX0_heal ({ frames := 2, cells := 0, slots := 0, locals := 41 }) (kPre (dC, dI) vwCl (wB h a1 a2 a3 a4 a5 a6 cb ci tp tl vo np rp rl rc sb sa) (tB cb ci) sz [.ref h, .int x]) (kQi (dC, dI) vwCl (wB h a1 a2 a3 a4 a5 a6 cb ci tp tl vo np rp rl rc sb sa) (tB cb ci) sz (nI 0) (wB h a1 a2 a3 a4 a5 a6 cb ci tp tl vo np rp rl rc sb sa)) 0 0 (va_A (wB h a1 a2 a3 a4 a5 a6 cb ci tp tl vo np rp rl rc sb sa) sz) := by
  refine kM_z (cc := cX0_heal) (maxL := 2) (by decide) rfl (Nat.le_of_ble_eq_true rfl) (rfl) ?_
  intro p e s m below meth c A Q ls H locs S hP hK hD hS hA hl hret
  obtain ⟨hx, hb, hml, hown, hts⟩ := id S
  have hin0 : ∀ w ∈ u_ws RX0 TX0 9, w ∈ wsX0_heal := fun _ h => List.mem_cons_of_mem _ (List.mem_append_right _ h)
  have lkf23 := hts (.fieldLink RX0 23 "BlockTape" "spoiltBy" "[I") (by decide +kernel)
  have hl : lv_has ls 2 [(0, .ref h), (1, .int x)] := hl
  refine lv_aload_n hx hb dX0_heal_0 rfl (lv_at hl 0 rfl) ?_
  refine lv_iload_n hx hb dX0_heal_1 rfl (lv_at hl 1 rfl) ?_
  refine kc_vi (WR := []) (As := [.int x]) (rest := []) ⟨hx, hb, hml, hown, hts⟩ (c_isWritten l dC dI h a1 a2 a3 a4 a5 a6 cb ci tp tl vo np rp rl rc sb sa H.size x (by omega)) (cwV 1 hts gX0_heal_X0_isWritten rfl rfl rfl (by decide +kernel) ⟨Nat.le_of_ble_eq_true rfl, Nat.le_of_ble_eq_true rfl⟩) hK hP hD hS hA [0, 1, 2, 3, 4, 5, 6] [] [0, 1] rfl rfl (by decide) (by decide) (by decide) rfl 0 0 rfl rfl rfl rfl hl.1 rfl (Nat.le_of_ble_eq_true rfl) dX0_heal_2 ⟨Nat.zero_le _, Nat.zero_le _⟩ (fun H locs hP hD hS => ?_)
  have hP : va_P (dC, dI) vwCl (wB h a1 a2 a3 a4 a5 a6 cb ci tp tl vo np rp rl rc sb sa) H := hP
  have hD : va_D A (wB h a1 a2 a3 a4 a5 a6 cb ci tp tl vo np rp rl rc sb sa) := hD
  refine lv_if_eq (tgt := 17) hx hb dX0_heal_5 (by decide) (fun c_5 => ?_) (fun c_5 => ?_)
  · have c_5 := (bI_e _).mp c_5
    refine lv_iconst (v := nI 0) hx hb dX0_heal_17 (by decide) ?_
    exact hret _ _ _ _ hP hD hS dX0_heal_18
  · have c_5 := kmt (bI_e _).mpr c_5
    have c_5 := bT c_5
    obtain ⟨j, hj, rfl⟩ := isW_of c_5
    have hsj := hsb j (by omega)
    refine lv_aload_n hx hb dX0_heal_8 rfl (lv_at hl 0 rfl) ?_
    refine va_get (D := (dC, dI)) (ci := 0) (v := .ref a5) (C := RX0) (T := TX0) (N := 9) hx hb hts hin0 hown hK hP 0 rfl rfl 7 (by decide) lkf23 (fun _ h9 => h9) rfl dX0_heal_9 ?_
    refine lv_iload_n hx hb dX0_heal_12 rfl (lv_at hl 1 rfl) ?_
    refine ka_ialdN hx hb hK hP 5 1 rfl rfl (k := j) (by omega) (by decide) dX0_heal_13 ?_
    refine lv_if_ne (tgt := 19) hx hb dX0_heal_14 (by decide) (fun c_14 => ?_) (fun c_14 => ?_)
    · have c_14 := kmt (kn_eq0 (by omega)).mpr c_14
      exact absurd (by have h9 := hno c_5; rw [nI_tn (by omega)] at h9; exact h9) c_14
    · have c_14 := (kn_eq0 (by omega)).mp c_14
      refine lv_iconst (v := nI 0) hx hb dX0_heal_17 (by decide) ?_
      exact hret _ _ _ _ hP hD hS dX0_heal_18
set_option maxHeartbeats 4000000 in
set_option maxRecDepth 100000 in
theorem c_byteOf (l : Launch) (dC : Nat → ClassId) (dI : Nat → Nat → Nat) (h a1 a2 a3 a4 a5 a6 : Nat) (cb ci : ClassId) (tp : Nat → Int32) (tl : Nat) (vo : Nat → Int32) (np : Nat) (rp rl : Nat → Nat) (rc : Nat) (sb sa : Nat → Nat) (sz : Nat) (x : Int32) (i : Int32) (hnp : np ≤ 4480) : Met l yX0_byteOf wsX0_byteOf ({ frames := 2, cells := 0, slots := 0, locals := 41 }) (kPre (dC, dI) vwCl (wB h a1 a2 a3 a4 a5 a6 cb ci tp tl vo np rp rl rc sb sa) (tB cb ci) sz [.ref h, .int x, .int i]) (kQi (dC, dI) vwCl (wB h a1 a2 a3 a4 a5 a6 cb ci tp tl vo np rp rl rc sb sa) (tB cb ci) sz (bof np vo x i) (wB h a1 a2 a3 a4 a5 a6 cb ci tp tl vo np rp rl rc sb sa)) 0 0 (va_A (wB h a1 a2 a3 a4 a5 a6 cb ci tp tl vo np rp rl rc sb sa) sz) := by
  refine kM_i (cc := cX0_byteOf) (maxL := 3) (by decide) rfl (Nat.le_of_ble_eq_true rfl) ?_
  intro p e s m below meth c A Q ls H locs S hP hK hD hS hA hl hret
  obtain ⟨hx, hb, hml, hown, hts⟩ := id S
  have hin0 : ∀ w ∈ u_ws RX0 TX0 9, w ∈ wsX0_byteOf := fun _ h => List.mem_cons_of_mem _ (List.mem_append_right _ h)
  have lkf13 := hts (.fieldLink RX0 13 "BlockTape" "volume" "[B") (by decide +kernel)
  have hl : lv_has ls 3 [(0, .ref h), (1, .int x), (2, .int i)] := hl
  refine lv_aload_n hx hb dX0_byteOf_0 rfl (lv_at hl 0 rfl) ?_
  refine lv_iload_n hx hb dX0_byteOf_1 rfl (lv_at hl 1 rfl) ?_
  refine kc_vi (WR := []) (As := [.int x]) (rest := []) ⟨hx, hb, hml, hown, hts⟩ (c_isWritten l dC dI h a1 a2 a3 a4 a5 a6 cb ci tp tl vo np rp rl rc sb sa H.size x (by omega)) (cwV 1 hts gX0_byteOf_X0_isWritten rfl rfl rfl (by decide +kernel) ⟨Nat.le_of_ble_eq_true rfl, Nat.le_of_ble_eq_true rfl⟩) hK hP hD hS hA [0, 1, 2, 3, 4, 5, 6] [] [0, 1] rfl rfl (by decide) (by decide) (by decide) rfl 0 0 rfl rfl rfl rfl hl.1 rfl (Nat.le_of_ble_eq_true rfl) dX0_byteOf_2 ⟨Nat.zero_le _, Nat.zero_le _⟩ (fun H locs hP hD hS => ?_)
  have hP : va_P (dC, dI) vwCl (wB h a1 a2 a3 a4 a5 a6 cb ci tp tl vo np rp rl rc sb sa) H := hP
  have hD : va_D A (wB h a1 a2 a3 a4 a5 a6 cb ci tp tl vo np rp rl rc sb sa) := hD
  refine lv_if_eq (tgt := 15) hx hb dX0_byteOf_5 (by decide) (fun c_5 => ?_) (fun c_5 => ?_)
  · have c_5 := (bI_e _).mp c_5
    refine lv_iconst (v := (-1)) hx hb dX0_byteOf_15 (by decide) ?_
    refine kv_top (show _ = bof np vo x i from (bof_f (Or.inl c_5)).symm) ?_
    exact hret _ _ _ _ hP hD hS dX0_byteOf_16
  · have c_5 := kmt (bI_e _).mpr c_5
    have c_5 := bT c_5
    refine lv_iload_n hx hb dX0_byteOf_8 rfl (lv_at hl 2 rfl) ?_
    refine kc_si (WR := wB h a1 a2 a3 a4 a5 a6 cb ci tp tl vo np rp rl rc sb sa) (As := [.int i]) (rest := []) ⟨hx, hb, hml, hown, hts⟩ (c_isInBlock l dC dI H.size i) (va_cwS 1 hts gX0_byteOf_X0_isInBlock rfl rfl rfl (by decide +kernel) ⟨Nat.le_of_ble_eq_true rfl, Nat.le_of_ble_eq_true rfl⟩) hK hP hD hS hA [] [0, 1, 2, 3, 4, 5, 6] [] rfl rfl (by decide) (by decide) (by decide) rfl rfl hl.1 rfl (Nat.le_of_ble_eq_true rfl) dX0_byteOf_9 ⟨Nat.zero_le _, Nat.zero_le _⟩ (fun H locs hP hD hS => ?_)
    have hP : va_P (dC, dI) vwCl (wB h a1 a2 a3 a4 a5 a6 cb ci tp tl vo np rp rl rc sb sa) H := hP
    have hD : va_D A (wB h a1 a2 a3 a4 a5 a6 cb ci tp tl vo np rp rl rc sb sa) := hD
    refine lv_if_ne (tgt := 17) hx hb dX0_byteOf_12 (by decide) (fun c_12 => ?_) (fun c_12 => ?_)
    · have c_12 := kmt (bI_e _).mpr c_12
      have c_12 := bT c_12
      have hbE := bof_t (vo := vo) c_5 c_12
      obtain ⟨j, hj, rfl⟩ := isW_of c_5
      obtain ⟨q, hq, rfl⟩ := inB_of c_12
      rw [nI_tn (by omega), nI_tn (by omega)] at hbE
      refine lv_aload_n hx hb dX0_byteOf_17 rfl (lv_at hl 0 rfl) ?_
      refine va_get (D := (dC, dI)) (ci := 0) (v := .ref a2) (C := RX0) (T := TX0) (N := 9) hx hb hts hin0 hown hK hP 0 rfl rfl 2 (by decide) lkf13 (fun _ h9 => h9) rfl dX0_byteOf_18 ?_
      refine lv_iload_n hx hb dX0_byteOf_21 rfl (lv_at hl 1 rfl) ?_
      refine lv_bipush (v := nI 64) hx hb dX0_byteOf_22 (by decide) ?_
      refine lv_imul hx hb dX0_byteOf_24 ?_
      refine kv_top (show _ = nI (j * 64) from pk_mul _ _) ?_
      refine lv_iload_n hx hb dX0_byteOf_25 rfl (lv_at hl 2 rfl) ?_
      refine lv_iadd hx hb dX0_byteOf_26 ?_
      refine kv_top (show _ = nI ((j * 64) + q) from nI_add _ _) ?_
      refine ka_bald hx hb hK hP 2 0 rfl rfl (k := (j * 64) + q) (by omega) (by decide) dX0_byteOf_27 ?_
      refine lv_sipush (v := nI 255) hx hb dX0_byteOf_28 (by decide) ?_
      refine lv_iand hx hb dX0_byteOf_31 ?_
      refine kv_top (show _ = bof np vo (nI j) (nI q) from hbE.symm) ?_
      exact hret _ _ _ _ hP hD hS dX0_byteOf_32
    · have c_12 := (bI_e _).mp c_12
      refine lv_iconst (v := (-1)) hx hb dX0_byteOf_15 (by decide) ?_
      refine kv_top (show _ = bof np vo x i from (bof_f (Or.inr c_12)).symm) ?_
      exact hret _ _ _ _ hP hD hS dX0_byteOf_16
set_option maxHeartbeats 4000000 in
set_option maxRecDepth 100000 in
theorem c_verify (l : Launch) (dC : Nat → ClassId) (dI : Nat → Nat → Nat) (h a1 a2 a3 a4 a5 a6 : Nat) (cb ci : ClassId) (tp : Nat → Int32) (tl : Nat) (vo : Nat → Int32) (np : Nat) (rp rl : Nat → Nat) (rc : Nat) (sb sa : Nat → Nat) (sz : Nat) (x : Int32) (hnp : np ≤ 4480) (hsb : ∀ b, b < 80 → sb b < 256) : Met l yX0_verify wsX0_verify ({ frames := 3, cells := 0, slots := 0, locals := 62 }) (kPre (dC, dI) vwCl (wB h a1 a2 a3 a4 a5 a6 cb ci tp tl vo np rp rl rc sb sa) (tB cb ci) sz [.ref h, .int x]) (kQi (dC, dI) vwCl (wB h a1 a2 a3 a4 a5 a6 cb ci tp tl vo np rp rl rc sb sa) (tB cb ci) sz (vfX np sb x) (wB h a1 a2 a3 a4 a5 a6 cb ci tp tl vo np rp rl rc sb sa)) 0 0 (va_A (wB h a1 a2 a3 a4 a5 a6 cb ci tp tl vo np rp rl rc sb sa) sz) := by
  refine kM_i (cc := cX0_verify) (maxL := 3) (by decide) rfl (Nat.le_of_ble_eq_true rfl) ?_
  intro p e s m below meth c A Q ls H locs S hP hK hD hS hA hl hret
  obtain ⟨hx, hb, hml, hown, hts⟩ := id S
  have hl : lv_has ls 3 [(0, .ref h), (1, .int x)] := hl
  have hxm := kx_max x
  refine lv_iload_n hx hb dX0_verify_0 rfl (lv_at hl 1 rfl) ?_
  refine lv_iconst (v := nI 0) hx hb dX0_verify_1 (by decide) ?_
  refine va_mmax hx hb (by rw [hml]; exact hl.1.symm) hown (hts (.methodLink RX0 75 Lib.Math.max.name) (by decide +kernel)) (hts (.static Lib.Math.max.name) (by decide +kernel)) (hts (.initialized "java/lang/Math") (by decide +kernel)) (hts (.code Lib.Math.max.name Lib.Math.max.code 2 (some .int)) (by decide +kernel)) (Nat.le_of_ble_eq_true rfl) (Nat.le_of_ble_eq_true rfl) (Nat.zero_le _) (Nat.zero_le _) dX0_verify_2 ?_
  refine kv_top (show _ = nI x.toInt.toNat from vmax x) ?_
  refine lv_istore_n (lv' := [(2, .int (nI x.toInt.toNat)), (0, .ref h), (1, .int x)]) hx hb dX0_verify_5 rfl hl (by decide) rfl (fun ls hl => ?_)
  have hloopk : ∀ (n k : Nat), k ≤ 2147483647 → 2147483647 + 1 ≤ k + n → (vfR np sb (np / 56 - k) k = vfX np sb x) → ∀ (H : Heap) (locs : List Loc) (ls : Array Slot), va_P (dC, dI) vwCl (wB h a1 a2 a3 a4 a5 a6 cb ci tp tl vo np rp rl rc sb sa) H → va_D A (wB h a1 a2 a3 a4 a5 a6 cb ci tp tl vo np rp rl rc sb sa) → va_S A s.heap H locs → lv_has ls 3 [(2, .int (nI k)), (0, .ref h)] → W p l e ({ frames := 3, cells := 0, slots := 0, locals := 62 }) s m ([.ref h, .int x] : List Value).toArray below meth c H locs 0 0 Q (F0 m 6 ls []) := by
    intro n
    induction n with
    | zero => intro k h1 h2; exact absurd h2 (by omega)
    | succ n ih =>
      intro k hkA hkB hres H locs ls hP hD hS hl
      refine lv_iload_n hx hb dX0_verify_6 rfl (lv_at hl 0 rfl) ?_
      refine lv_aload_n hx hb dX0_verify_7 rfl (lv_at hl 1 rfl) ?_
      refine kc_vi (WR := []) (As := []) (rest := [.int (nI k)]) ⟨hx, hb, hml, hown, hts⟩ (c_blocksWritten l dC dI h a1 a2 a3 a4 a5 a6 cb ci tp tl vo np rp rl rc sb sa H.size (by omega)) (cwV 0 hts gX0_verify_X0_blocksWritten rfl rfl rfl (by decide +kernel) ⟨Nat.le_of_ble_eq_true rfl, Nat.le_of_ble_eq_true rfl⟩) hK hP hD hS hA [0, 1, 2, 3, 4, 5, 6] [] [0, 1] rfl rfl (by decide) (by decide) (by decide) rfl 0 0 rfl rfl rfl rfl hl.1 rfl (Nat.le_of_ble_eq_true rfl) dX0_verify_8 ⟨Nat.zero_le _, Nat.zero_le _⟩ (fun H locs hP hD hS => ?_)
      have hP : va_P (dC, dI) vwCl (wB h a1 a2 a3 a4 a5 a6 cb ci tp tl vo np rp rl rc sb sa) H := hP
      have hD : va_D A (wB h a1 a2 a3 a4 a5 a6 cb ci tp tl vo np rp rl rc sb sa) := hD
      refine lv_icmp_ge (tgt := 30) hx hb dX0_verify_11 (by decide) (fun c_11 => ?_) (fun c_11 => ?_)
      · have c_11 := (nI_leI (by omega) (by omega)).mp c_11
        refine lv_iconst (v := (-1)) hx hb dX0_verify_30 (by decide) ?_
        refine kv_top (show _ = vfX np sb x from (by rw [← hres, show np / 56 - k = 0 by omega]; rfl)) ?_
        exact hret _ _ _ _ hP hD hS dX0_verify_31
      · have c_11 := kmt (nI_leI (by omega) (by omega)).mpr c_11
        refine lv_aload_n hx hb dX0_verify_14 rfl (lv_at hl 1 rfl) ?_
        refine lv_iload_n hx hb dX0_verify_15 rfl (lv_at hl 0 rfl) ?_
        refine kc_vi (WR := []) (As := [.int (nI k)]) (rest := []) ⟨hx, hb, hml, hown, hts⟩ (c_good l dC dI h a1 a2 a3 a4 a5 a6 cb ci tp tl vo np rp rl rc sb sa H.size (nI k) (by omega) hsb) (cwV 1 hts gX0_verify_X0_good rfl rfl rfl (by decide +kernel) ⟨Nat.le_of_ble_eq_true rfl, Nat.le_of_ble_eq_true rfl⟩) hK hP hD hS hA [0, 1, 2, 3, 4, 5, 6] [] [0, 1] rfl rfl (by decide) (by decide) (by decide) rfl 0 0 rfl rfl rfl rfl hl.1 rfl (Nat.le_of_ble_eq_true rfl) dX0_verify_16 ⟨Nat.zero_le _, Nat.zero_le _⟩ (fun H locs hP hD hS => ?_)
        have hP : va_P (dC, dI) vwCl (wB h a1 a2 a3 a4 a5 a6 cb ci tp tl vo np rp rl rc sb sa) H := hP
        have hD : va_D A (wB h a1 a2 a3 a4 a5 a6 cb ci tp tl vo np rp rl rc sb sa) := hD
        refine kv_top (show _ = bI (gd np sb k) from by rw [goodX_n (by omega)]) ?_
        refine lv_if_ne (tgt := 24) hx hb dX0_verify_19 (by decide) (fun c_19 => ?_) (fun c_19 => ?_)
        · have c_19 := kmt (bI_e _).mpr c_19
          have c_19 := bT c_19
          refine lv_iinc (v := nI (k + 1)) (lv' := [(2, .int (nI (k + 1))), (0, .ref h)]) hx hb dX0_verify_24 hl (k := 0) rfl (ki_inc _) (by decide) rfl (fun ls hl => ?_)
          refine lv_goto (tgt := 6) hx hb dX0_verify_27 (by decide) ?_
          have hP : va_P (dC, dI) vwCl (wB h a1 a2 a3 a4 a5 a6 cb ci tp tl vo np rp rl rc sb sa) H := hP
          have hD : va_D A (wB h a1 a2 a3 a4 a5 a6 cb ci tp tl vo np rp rl rc sb sa) := hD
          exact ih (k + 1) (by omega) (by omega) (by rw [← hres, vfR_step (T := np / 56) (k := k) (by omega), if_pos c_19]) _ _ _ hP hD hS (lv_sub hl [0, 1] rfl)
        · have c_19 := (bI_e _).mp c_19
          refine lv_iload_n hx hb dX0_verify_22 rfl (lv_at hl 0 rfl) ?_
          refine kv_top (show _ = vfX np sb x from (by rw [← hres, vfR_step (T := np / 56) (k := k) (by omega), if_neg (by rw [c_19]; decide)])) ?_
          exact hret _ _ _ _ hP hD hS dX0_verify_23
  have hP : va_P (dC, dI) vwCl (wB h a1 a2 a3 a4 a5 a6 cb ci tp tl vo np rp rl rc sb sa) H := hP
  have hD : va_D A (wB h a1 a2 a3 a4 a5 a6 cb ci tp tl vo np rp rl rc sb sa) := hD
  exact hloopk (2147483647 + 1) x.toInt.toNat (by omega) (by omega) (rfl) _ _ _ hP hD hS (lv_sub hl [0, 1] rfl)
set_option maxHeartbeats 4000000 in
set_option maxRecDepth 100000 in
theorem c_count (l : Launch) (dC : Nat → ClassId) (dI : Nat → Nat → Nat) (h a1 a2 a3 a4 a5 a6 : Nat) (cb ci : ClassId) (tp : Nat → Int32) (tl : Nat) (vo : Nat → Int32) (np : Nat) (rp rl : Nat → Nat) (rc : Nat) (sb sa : Nat → Nat) (sz : Nat) (x : Int32) (hnp : np ≤ 4480) (hsb : ∀ b, b < 80 → sb b < 256) (hrc : rc ≤ 200) (hrow : ∀ k, k < rc → rp k + rl k ≤ 4480 ∧ 6 ≤ rl k) (htl : tl ≤ 300) : Met l yX0_count wsX0_count ({ frames := 5, cells := 0, slots := 0, locals := 107 }) (kPre (dC, dI) vwCl (wB h a1 a2 a3 a4 a5 a6 cb ci tp tl vo np rp rl rc sb sa) (tB cb ci) sz [.ref h, .int x]) (kQi (dC, dI) vwCl (wB h a1 a2 a3 a4 a5 a6 cb ci tp tl vo np rp rl rc sb sa) (tB cb ci) sz (cntX tl np rc rp rl sb x) (wB h a1 a2 a3 a4 a5 a6 cb ci tp tl vo np rp rl rc sb sa)) 0 0 (va_A (wB h a1 a2 a3 a4 a5 a6 cb ci tp tl vo np rp rl rc sb sa) sz) := by
  refine kM_i (cc := cX0_count) (maxL := 2) (by decide) rfl (Nat.le_of_ble_eq_true rfl) ?_
  intro p e s m below meth c A Q ls H locs S hP hK hD hS hA hl hret
  obtain ⟨hx, hb, hml, hown, hts⟩ := id S
  have hin0 : ∀ w ∈ u_ws RX0 TX0 9, w ∈ wsX0_count := fun _ h => List.mem_cons_of_mem _ (List.mem_append_right _ h)
  have lkf29 := hts (.fieldLink RX0 29 "BlockTape" "tapeLength" "I") (by decide +kernel)
  have lkf34 := hts (.fieldLink RX0 34 "BlockTape" "records" "I") (by decide +kernel)
  have lkf44 := hts (.fieldLink RX0 44 "BlockTape" "nextPlace" "I") (by decide +kernel)
  have hl : lv_has ls 2 [(0, .ref h), (1, .int x)] := hl
  refine lv_iload_n hx hb dX0_count_0 rfl (lv_at hl 1 rfl) ?_
  rcases kx_sw x 7 with hsw | ⟨j, hj, rfl⟩
  · refine lv_tableOut (tgt := 82) hx hb dX0_count_1 (by omega) (by decide) ?_
    refine lv_iconst (v := (-1)) hx hb dX0_count_82 (by decide) ?_
    refine kv_top (show _ = cntX tl np rc rp rl sb x from (cntX_out hsw).symm) ?_
    exact hret _ _ _ _ hP hD hS dX0_count_83
  · have hj7 : j = 0 ∨ j = 1 ∨ j = 2 ∨ j = 3 ∨ j = 4 ∨ j = 5 ∨ j = 6 := by omega
    rcases hj7 with rfl | rfl | rfl | rfl | rfl | rfl | rfl
    · refine lv_tableIn (tgt := 44) (off := 43) hx hb dX0_count_1 (by decide) (by decide) (by decide) (by decide) ?_
      refine lv_aload_n hx hb dX0_count_44 rfl (lv_at hl 0 rfl) ?_
      refine va_get (D := (dC, dI)) (ci := 0) (v := .int (nI tl)) (C := RX0) (T := TX0) (N := 9) hx hb hts hin0 hown hK hP 0 rfl rfl 1 (by decide) lkf29 (fun _ h9 => h9) rfl dX0_count_45 ?_
      refine kv_top (show _ = cntX tl np rc rp rl sb (nI 0) from rfl) ?_
      exact hret _ _ _ _ hP hD hS dX0_count_48
    · refine lv_tableIn (tgt := 49) (off := 48) hx hb dX0_count_1 (by decide) (by decide) (by decide) (by decide) ?_
      refine lv_aload_n hx hb dX0_count_49 rfl (lv_at hl 0 rfl) ?_
      refine va_get (D := (dC, dI)) (ci := 0) (v := .int (nI rc)) (C := RX0) (T := TX0) (N := 9) hx hb hts hin0 hown hK hP 0 rfl rfl 6 (by decide) lkf34 (fun _ h9 => h9) rfl dX0_count_50 ?_
      refine kv_top (show _ = cntX tl np rc rp rl sb (nI 1) from rfl) ?_
      exact hret _ _ _ _ hP hD hS dX0_count_53
    · refine lv_tableIn (tgt := 54) (off := 53) hx hb dX0_count_1 (by decide) (by decide) (by decide) (by decide) ?_
      refine lv_aload_n hx hb dX0_count_54 rfl (lv_at hl 0 rfl) ?_
      refine kc_vi (WR := []) (As := []) (rest := []) ⟨hx, hb, hml, hown, hts⟩ (c_blocksWritten l dC dI h a1 a2 a3 a4 a5 a6 cb ci tp tl vo np rp rl rc sb sa H.size (by omega)) (cwV 0 hts gX0_count_X0_blocksWritten rfl rfl rfl (by decide +kernel) ⟨Nat.le_of_ble_eq_true rfl, Nat.le_of_ble_eq_true rfl⟩) hK hP hD hS hA [0, 1, 2, 3, 4, 5, 6] [] [0, 1] rfl rfl (by decide) (by decide) (by decide) rfl 0 0 rfl rfl rfl rfl hl.1 rfl (Nat.le_of_ble_eq_true rfl) dX0_count_55 ⟨Nat.zero_le _, Nat.zero_le _⟩ (fun H locs hP hD hS => ?_)
      have hP : va_P (dC, dI) vwCl (wB h a1 a2 a3 a4 a5 a6 cb ci tp tl vo np rp rl rc sb sa) H := hP
      have hD : va_D A (wB h a1 a2 a3 a4 a5 a6 cb ci tp tl vo np rp rl rc sb sa) := hD
      refine kv_top (show _ = cntX tl np rc rp rl sb (nI 2) from rfl) ?_
      exact hret _ _ _ _ hP hD hS dX0_count_58
    · refine lv_tableIn (tgt := 59) (off := 58) hx hb dX0_count_1 (by decide) (by decide) (by decide) (by decide) ?_
      refine lv_aload_n hx hb dX0_count_59 rfl (lv_at hl 0 rfl) ?_
      refine va_get (D := (dC, dI)) (ci := 0) (v := .int (nI np)) (C := RX0) (T := TX0) (N := 9) hx hb hts hin0 hown hK hP 0 rfl rfl 3 (by decide) lkf44 (fun _ h9 => h9) rfl dX0_count_60 ?_
      refine lv_bipush (v := nI 56) hx hb dX0_count_63 (by decide) ?_
      refine lv_irem hx hb dX0_count_65 (by decide) ?_
      refine kv_top (show _ = nI (np % 56) from pk_rem (by omega) (by omega) (by omega)) ?_
      refine kv_top (show _ = cntX tl np rc rp rl sb (nI 3) from rfl) ?_
      exact hret _ _ _ _ hP hD hS dX0_count_66
    · refine lv_tableIn (tgt := 67) (off := 66) hx hb dX0_count_1 (by decide) (by decide) (by decide) (by decide) ?_
      refine lv_aload_n hx hb dX0_count_67 rfl (lv_at hl 0 rfl) ?_
      refine kc_vi (WR := []) (As := []) (rest := []) ⟨hx, hb, hml, hown, hts⟩ (c_recordsRead l dC dI h a1 a2 a3 a4 a5 a6 cb ci tp tl vo np rp rl rc sb sa H.size (by omega) hsb (by omega) hrow) (cwV 0 hts gX0_count_X0_recordsRead rfl rfl rfl (by decide +kernel) ⟨Nat.le_of_ble_eq_true rfl, Nat.le_of_ble_eq_true rfl⟩) hK hP hD hS hA [0, 1, 2, 3, 4, 5, 6] [] [0, 1] rfl rfl (by decide) (by decide) (by decide) rfl 0 0 rfl rfl rfl rfl hl.1 rfl (Nat.le_of_ble_eq_true rfl) dX0_count_68 ⟨Nat.zero_le _, Nat.zero_le _⟩ (fun H locs hP hD hS => ?_)
      have hP : va_P (dC, dI) vwCl (wB h a1 a2 a3 a4 a5 a6 cb ci tp tl vo np rp rl rc sb sa) H := hP
      have hD : va_D A (wB h a1 a2 a3 a4 a5 a6 cb ci tp tl vo np rp rl rc sb sa) := hD
      refine kv_top (show _ = cntX tl np rc rp rl sb (nI 4) from rfl) ?_
      exact hret _ _ _ _ hP hD hS dX0_count_71
    · refine lv_tableIn (tgt := 72) (off := 71) hx hb dX0_count_1 (by decide) (by decide) (by decide) (by decide) ?_
      refine lv_aload_n hx hb dX0_count_72 rfl (lv_at hl 0 rfl) ?_
      refine kc_vi (WR := []) (As := []) (rest := []) ⟨hx, hb, hml, hown, hts⟩ (c_blocksNotGood l dC dI h a1 a2 a3 a4 a5 a6 cb ci tp tl vo np rp rl rc sb sa H.size (by omega) hsb) (cwV 0 hts gX0_count_X0_blocksNotGood rfl rfl rfl (by decide +kernel) ⟨Nat.le_of_ble_eq_true rfl, Nat.le_of_ble_eq_true rfl⟩) hK hP hD hS hA [0, 1, 2, 3, 4, 5, 6] [] [0, 1] rfl rfl (by decide) (by decide) (by decide) rfl 0 0 rfl rfl rfl rfl hl.1 rfl (Nat.le_of_ble_eq_true rfl) dX0_count_73 ⟨Nat.zero_le _, Nat.zero_le _⟩ (fun H locs hP hD hS => ?_)
      have hP : va_P (dC, dI) vwCl (wB h a1 a2 a3 a4 a5 a6 cb ci tp tl vo np rp rl rc sb sa) H := hP
      have hD : va_D A (wB h a1 a2 a3 a4 a5 a6 cb ci tp tl vo np rp rl rc sb sa) := hD
      refine kv_top (show _ = cntX tl np rc rp rl sb (nI 5) from rfl) ?_
      exact hret _ _ _ _ hP hD hS dX0_count_76
    · refine lv_tableIn (tgt := 77) (off := 76) hx hb dX0_count_1 (by decide) (by decide) (by decide) (by decide) ?_
      refine lv_aload_n hx hb dX0_count_77 rfl (lv_at hl 0 rfl) ?_
      refine kc_vi (WR := []) (As := []) (rest := []) ⟨hx, hb, hml, hown, hts⟩ (c_placesLeft l dC dI h a1 a2 a3 a4 a5 a6 cb ci tp tl vo np rp rl rc sb sa H.size (by omega)) (cwV 0 hts gX0_count_X0_placesLeft rfl rfl rfl (by decide +kernel) ⟨Nat.le_of_ble_eq_true rfl, Nat.le_of_ble_eq_true rfl⟩) hK hP hD hS hA [0, 1, 2, 3, 4, 5, 6] [] [0, 1] rfl rfl (by decide) (by decide) (by decide) rfl 0 0 rfl rfl rfl rfl hl.1 rfl (Nat.le_of_ble_eq_true rfl) dX0_count_78 ⟨Nat.zero_le _, Nat.zero_le _⟩ (fun H locs hP hD hS => ?_)
      have hP : va_P (dC, dI) vwCl (wB h a1 a2 a3 a4 a5 a6 cb ci tp tl vo np rp rl rc sb sa) H := hP
      have hD : va_D A (wB h a1 a2 a3 a4 a5 a6 cb ci tp tl vo np rp rl rc sb sa) := hD
      refine kv_top (show _ = cntX tl np rc rp rl sb (nI 6) from rfl) ?_
      exact hret _ _ _ _ hP hD hS dX0_count_81
set_option maxHeartbeats 4000000 in
set_option maxRecDepth 100000 in
theorem c_readN (l : Launch) (dC : Nat → ClassId) (dI : Nat → Nat → Nat) (h a1 a2 a3 a4 a5 a6 : Nat) (cb ci : ClassId) (tp : Nat → Int32) (tl : Nat) (vo : Nat → Int32) (np : Nat) (rp rl : Nat → Nat) (rc : Nat) (sb sa : Nat → Nat) (sz : Nat) (i : Int32) (x : Int32) (hnp : np ≤ 4480) (hsb : ∀ b, b < 80 → sb b < 256) (hrc : rc ≤ 200) (hrow : ∀ k, k < rc → rp k + rl k ≤ 4480 ∧ 6 ≤ rl k) (hN : rOf (isR np sb rp rl) i rc 0 0 = -1) : Met l yX0_read wsX0_read ({ frames := 5, cells := 0, slots := 0, locals := 108 }) (kPre (dC, dI) vwCl (wB h a1 a2 a3 a4 a5 a6 cb ci tp tl vo np rp rl rc sb sa) (tB cb ci) sz [.ref h, .int i, .int x]) (kQi (dC, dI) vwCl (wB h a1 a2 a3 a4 a5 a6 cb ci tp tl vo np rp rl rc sb sa) (tB cb ci) sz ((-1)) (wB h a1 a2 a3 a4 a5 a6 cb ci tp tl vo np rp rl rc sb sa)) 0 0 (va_A (wB h a1 a2 a3 a4 a5 a6 cb ci tp tl vo np rp rl rc sb sa) sz) := by
  refine kM_i (cc := cX0_read) (maxL := 4) (by decide) rfl (Nat.le_of_ble_eq_true rfl) ?_
  intro p e s m below meth c A Q ls H locs S hP hK hD hS hA hl hret
  obtain ⟨hx, hb, hml, hown, hts⟩ := id S
  have hl : lv_has ls 4 [(0, .ref h), (1, .int i), (2, .int x)] := hl
  refine lv_aload_n hx hb dX0_read_0 rfl (lv_at hl 0 rfl) ?_
  refine lv_iload_n hx hb dX0_read_1 rfl (lv_at hl 1 rfl) ?_
  refine kc_vi (WR := []) (As := [.int i]) (rest := []) ⟨hx, hb, hml, hown, hts⟩ (c_recordOfRead l dC dI h a1 a2 a3 a4 a5 a6 cb ci tp tl vo np rp rl rc sb sa H.size i (by omega) hsb (by omega) hrow) (cwV 1 hts gX0_read_X0_recordOfRead rfl rfl rfl (by decide +kernel) ⟨Nat.le_of_ble_eq_true rfl, Nat.le_of_ble_eq_true rfl⟩) hK hP hD hS hA [0, 1, 2, 3, 4, 5, 6] [] [0, 1] rfl rfl (by decide) (by decide) (by decide) rfl 0 0 rfl rfl rfl rfl hl.1 rfl (Nat.le_of_ble_eq_true rfl) dX0_read_2 ⟨Nat.zero_le _, Nat.zero_le _⟩ (fun H locs hP hD hS => ?_)
  have hP : va_P (dC, dI) vwCl (wB h a1 a2 a3 a4 a5 a6 cb ci tp tl vo np rp rl rc sb sa) H := hP
  have hD : va_D A (wB h a1 a2 a3 a4 a5 a6 cb ci tp tl vo np rp rl rc sb sa) := hD
  refine kv_top (show _ = (-1) from hN) ?_
  refine lv_istore_n (lv' := [(3, .int ((-1))), (0, .ref h), (1, .int i), (2, .int x)]) hx hb dX0_read_5 rfl hl (by decide) rfl (fun ls hl => ?_)
  refine lv_iload_n hx hb dX0_read_6 rfl (lv_at hl 0 rfl) ?_
  refine lv_iconst (v := (-1)) hx hb dX0_read_7 (by decide) ?_
  refine lv_icmp_eq (tgt := 15) hx hb dX0_read_8 (by decide) (fun c_8 => ?_) (fun c_8 => ?_)
  · refine lv_iconst (v := (-1)) hx hb dX0_read_15 (by decide) ?_
    exact hret _ _ _ _ hP hD hS dX0_read_16
  · exact absurd rfl c_8
set_option maxHeartbeats 4000000 in
set_option maxRecDepth 100000 in
theorem c_read (l : Launch) (dC : Nat → ClassId) (dI : Nat → Nat → Nat) (h a1 a2 a3 a4 a5 a6 : Nat) (cb ci : ClassId) (tp : Nat → Int32) (tl : Nat) (vo : Nat → Int32) (np : Nat) (rp rl : Nat → Nat) (rc : Nat) (sb sa : Nat → Nat) (sz : Nat) (i : Int32) (x : Int32) (hnp : np ≤ 4480) (hsb : ∀ b, b < 80 → sb b < 256) (hrc : rc ≤ 200) (hrow : ∀ k, k < rc → rp k + rl k ≤ 4480 ∧ 6 ≤ rl k) (r : Nat) (hr : r < rc) (hN : rOf (isR np sb rp rl) i rc 0 0 = nI r) : Met l yX0_read wsX0_read ({ frames := 5, cells := 0, slots := 0, locals := 108 }) (kPre (dC, dI) vwCl (wB h a1 a2 a3 a4 a5 a6 cb ci tp tl vo np rp rl rc sb sa) (tB cb ci) sz [.ref h, .int i, .int x]) (kQi (dC, dI) vwCl (wB h a1 a2 a3 a4 a5 a6 cb ci tp tl vo np rp rl rc sb sa) (tB cb ci) sz (rdW vo rp rl r x) (wB h a1 a2 a3 a4 a5 a6 cb ci tp tl vo np rp rl rc sb sa)) 0 0 (va_A (wB h a1 a2 a3 a4 a5 a6 cb ci tp tl vo np rp rl rc sb sa) sz) := by
  refine kM_i (cc := cX0_read) (maxL := 4) (by decide) rfl (Nat.le_of_ble_eq_true rfl) ?_
  intro p e s m below meth c A Q ls H locs S hP hK hD hS hA hl hret
  obtain ⟨hx, hb, hml, hown, hts⟩ := id S
  have hin0 : ∀ w ∈ u_ws RX0 TX0 9, w ∈ wsX0_read := fun _ h => List.mem_cons_of_mem _ (List.mem_append_right _ h)
  have lkf20 := hts (.fieldLink RX0 20 "BlockTape" "rowLength" "[I") (by decide +kernel)
  have lkf16 := hts (.fieldLink RX0 16 "BlockTape" "rowPlace" "[I") (by decide +kernel)
  have hl : lv_has ls 4 [(0, .ref h), (1, .int i), (2, .int x)] := hl
  have hrw := hrow r hr
  refine lv_aload_n hx hb dX0_read_0 rfl (lv_at hl 0 rfl) ?_
  refine lv_iload_n hx hb dX0_read_1 rfl (lv_at hl 1 rfl) ?_
  refine kc_vi (WR := []) (As := [.int i]) (rest := []) ⟨hx, hb, hml, hown, hts⟩ (c_recordOfRead l dC dI h a1 a2 a3 a4 a5 a6 cb ci tp tl vo np rp rl rc sb sa H.size i (by omega) hsb (by omega) hrow) (cwV 1 hts gX0_read_X0_recordOfRead rfl rfl rfl (by decide +kernel) ⟨Nat.le_of_ble_eq_true rfl, Nat.le_of_ble_eq_true rfl⟩) hK hP hD hS hA [0, 1, 2, 3, 4, 5, 6] [] [0, 1] rfl rfl (by decide) (by decide) (by decide) rfl 0 0 rfl rfl rfl rfl hl.1 rfl (Nat.le_of_ble_eq_true rfl) dX0_read_2 ⟨Nat.zero_le _, Nat.zero_le _⟩ (fun H locs hP hD hS => ?_)
  have hP : va_P (dC, dI) vwCl (wB h a1 a2 a3 a4 a5 a6 cb ci tp tl vo np rp rl rc sb sa) H := hP
  have hD : va_D A (wB h a1 a2 a3 a4 a5 a6 cb ci tp tl vo np rp rl rc sb sa) := hD
  refine kv_top (show _ = nI r from hN) ?_
  refine lv_istore_n (lv' := [(3, .int (nI r)), (0, .ref h), (1, .int i), (2, .int x)]) hx hb dX0_read_5 rfl hl (by decide) rfl (fun ls hl => ?_)
  refine lv_iload_n hx hb dX0_read_6 rfl (lv_at hl 0 rfl) ?_
  refine lv_iconst (v := (-1)) hx hb dX0_read_7 (by decide) ?_
  refine lv_icmp_eq (tgt := 15) hx hb dX0_read_8 (by decide) (fun c_8 => ?_) (fun c_8 => ?_)
  · exact absurd c_8 (nI_nm1 (by omega))
  · refine lv_iload_n hx hb dX0_read_11 rfl (lv_at hl 3 rfl) ?_
    refine lv_if_ge (tgt := 17) hx hb dX0_read_12 (by decide) (fun c_12 => ?_) (fun c_12 => ?_)
    · have c_12 := (kx_ge0).mp c_12
      refine lv_iload_n hx hb dX0_read_17 rfl (lv_at hl 3 rfl) ?_
      rcases kx_sw x 4 with hsw | ⟨j, hj, rfl⟩
      · refine lv_tableOut (tgt := 92) hx hb dX0_read_18 (by omega) (by decide) ?_
        refine lv_aload_n hx hb dX0_read_92 rfl (lv_at hl 1 rfl) ?_
        refine lv_iload_n hx hb dX0_read_93 rfl (lv_at hl 0 rfl) ?_
        refine lv_iload_n hx hb dX0_read_94 rfl (lv_at hl 3 rfl) ?_
        refine lv_iconst (v := nI 4) hx hb dX0_read_95 (by decide) ?_
        refine lv_isub hx hb dX0_read_96 ?_
        refine kc_vi (WR := []) (As := [.int (nI r), .int (x - (nI 4))]) (rest := []) ⟨hx, hb, hml, hown, hts⟩ (c_recordByte l dC dI h a1 a2 a3 a4 a5 a6 cb ci tp tl vo np rp rl rc sb sa H.size r (x - (nI 4)) (by omega) (hrow _ (by omega))) (cwV 2 hts gX0_read_X0_recordByte rfl rfl rfl (by decide +kernel) ⟨Nat.le_of_ble_eq_true rfl, Nat.le_of_ble_eq_true rfl⟩) hK hP hD hS hA [0, 1, 2, 3, 4, 5, 6] [] [0, 1] rfl rfl (by decide) (by decide) (by decide) rfl 0 0 rfl rfl rfl rfl hl.1 rfl (Nat.le_of_ble_eq_true rfl) dX0_read_97 ⟨Nat.zero_le _, Nat.zero_le _⟩ (fun H locs hP hD hS => ?_)
        have hP : va_P (dC, dI) vwCl (wB h a1 a2 a3 a4 a5 a6 cb ci tp tl vo np rp rl rc sb sa) H := hP
        have hD : va_D A (wB h a1 a2 a3 a4 a5 a6 cb ci tp tl vo np rp rl rc sb sa) := hD
        refine kv_top (show _ = rdW vo rp rl r x from (rdW_hi (by omega)).symm) ?_
        exact hret _ _ _ _ hP hD hS dX0_read_100
      · have hj7 : j = 0 ∨ j = 1 ∨ j = 2 ∨ j = 3 := by omega
        rcases hj7 with rfl | rfl | rfl | rfl
        · refine lv_tableIn (tgt := 48) (off := 30) hx hb dX0_read_18 (by decide) (by decide) (by decide) (by decide) ?_
          refine lv_aload_n hx hb dX0_read_48 rfl (lv_at hl 1 rfl) ?_
          refine lv_iload_n hx hb dX0_read_49 rfl (lv_at hl 0 rfl) ?_
          refine lv_iconst (v := nI 0) hx hb dX0_read_50 (by decide) ?_
          refine kc_vi (WR := []) (As := [.int (nI r), .int (nI 0)]) (rest := []) ⟨hx, hb, hml, hown, hts⟩ (c_rowByte l dC dI h a1 a2 a3 a4 a5 a6 cb ci tp tl vo np rp rl rc sb sa H.size r 0 (by omega) (by omega)) (cwV 2 hts gX0_read_X0_rowByte rfl rfl rfl (by decide +kernel) ⟨Nat.le_of_ble_eq_true rfl, Nat.le_of_ble_eq_true rfl⟩) hK hP hD hS hA [0, 1, 2, 3, 4, 5, 6] [] [0, 1] rfl rfl (by decide) (by decide) (by decide) rfl 0 0 rfl rfl rfl rfl hl.1 rfl (Nat.le_of_ble_eq_true rfl) dX0_read_51 ⟨Nat.zero_le _, Nat.zero_le _⟩ (fun H locs hP hD hS => ?_)
          have hP : va_P (dC, dI) vwCl (wB h a1 a2 a3 a4 a5 a6 cb ci tp tl vo np rp rl rc sb sa) H := hP
          have hD : va_D A (wB h a1 a2 a3 a4 a5 a6 cb ci tp tl vo np rp rl rc sb sa) := hD
          refine kv_top (show _ = rdW vo rp rl r (nI 0) from rfl) ?_
          exact hret _ _ _ _ hP hD hS dX0_read_54
        · refine lv_tableIn (tgt := 55) (off := 37) hx hb dX0_read_18 (by decide) (by decide) (by decide) (by decide) ?_
          refine lv_aload_n hx hb dX0_read_55 rfl (lv_at hl 1 rfl) ?_
          refine lv_iload_n hx hb dX0_read_56 rfl (lv_at hl 0 rfl) ?_
          refine lv_iconst (v := nI 1) hx hb dX0_read_57 (by decide) ?_
          refine kc_vi (WR := []) (As := [.int (nI r), .int (nI 1)]) (rest := []) ⟨hx, hb, hml, hown, hts⟩ (c_rowByte l dC dI h a1 a2 a3 a4 a5 a6 cb ci tp tl vo np rp rl rc sb sa H.size r 1 (by omega) (by omega)) (cwV 2 hts gX0_read_X0_rowByte rfl rfl rfl (by decide +kernel) ⟨Nat.le_of_ble_eq_true rfl, Nat.le_of_ble_eq_true rfl⟩) hK hP hD hS hA [0, 1, 2, 3, 4, 5, 6] [] [0, 1] rfl rfl (by decide) (by decide) (by decide) rfl 0 0 rfl rfl rfl rfl hl.1 rfl (Nat.le_of_ble_eq_true rfl) dX0_read_58 ⟨Nat.zero_le _, Nat.zero_le _⟩ (fun H locs hP hD hS => ?_)
          have hP : va_P (dC, dI) vwCl (wB h a1 a2 a3 a4 a5 a6 cb ci tp tl vo np rp rl rc sb sa) H := hP
          have hD : va_D A (wB h a1 a2 a3 a4 a5 a6 cb ci tp tl vo np rp rl rc sb sa) := hD
          refine lv_bipush (v := nI 8) hx hb dX0_read_61 (by decide) ?_
          refine lv_ishl hx hb dX0_read_63 ?_
          refine lv_aload_n hx hb dX0_read_64 rfl (lv_at hl 1 rfl) ?_
          refine lv_iload_n hx hb dX0_read_65 rfl (lv_at hl 0 rfl) ?_
          refine lv_iconst (v := nI 2) hx hb dX0_read_66 (by decide) ?_
          refine kc_vi (WR := []) (As := [.int (nI r), .int (nI 2)]) (rest := [.int ((vo (ix (rp r + 1)) &&& nI 255) <<< ((nI 8) &&& 31))]) ⟨hx, hb, hml, hown, hts⟩ (c_rowByte l dC dI h a1 a2 a3 a4 a5 a6 cb ci tp tl vo np rp rl rc sb sa H.size r 2 (by omega) (by omega)) (cwV 2 hts gX0_read_X0_rowByte rfl rfl rfl (by decide +kernel) ⟨Nat.le_of_ble_eq_true rfl, Nat.le_of_ble_eq_true rfl⟩) hK hP hD hS hA [0, 1, 2, 3, 4, 5, 6] [] [0, 1] rfl rfl (by decide) (by decide) (by decide) rfl 0 0 rfl rfl rfl rfl hl.1 rfl (Nat.le_of_ble_eq_true rfl) dX0_read_67 ⟨Nat.zero_le _, Nat.zero_le _⟩ (fun H locs hP hD hS => ?_)
          have hP : va_P (dC, dI) vwCl (wB h a1 a2 a3 a4 a5 a6 cb ci tp tl vo np rp rl rc sb sa) H := hP
          have hD : va_D A (wB h a1 a2 a3 a4 a5 a6 cb ci tp tl vo np rp rl rc sb sa) := hD
          refine lv_ior hx hb dX0_read_70 ?_
          refine kv_top (show _ = rdW vo rp rl r (nI 1) from rfl) ?_
          exact hret _ _ _ _ hP hD hS dX0_read_71
        · refine lv_tableIn (tgt := 72) (off := 54) hx hb dX0_read_18 (by decide) (by decide) (by decide) (by decide) ?_
          refine lv_aload_n hx hb dX0_read_72 rfl (lv_at hl 1 rfl) ?_
          refine va_get (D := (dC, dI)) (ci := 0) (v := .ref a4) (C := RX0) (T := TX0) (N := 9) hx hb hts hin0 hown hK hP 0 rfl rfl 5 (by decide) lkf20 (fun _ h9 => h9) rfl dX0_read_73 ?_
          refine lv_iload_n hx hb dX0_read_76 rfl (lv_at hl 0 rfl) ?_
          refine ka_ialdN hx hb hK hP 4 1 rfl rfl (k := r) (by omega) (by decide) dX0_read_77 ?_
          refine lv_bipush (v := nI 6) hx hb dX0_read_78 (by decide) ?_
          refine lv_isub hx hb dX0_read_80 ?_
          refine kv_top (show _ = nI ((rl r) - 6) from pk_sub (by omega)) ?_
          refine kv_top (show _ = rdW vo rp rl r (nI 2) from rfl) ?_
          exact hret _ _ _ _ hP hD hS dX0_read_81
        · refine lv_tableIn (tgt := 82) (off := 64) hx hb dX0_read_18 (by decide) (by decide) (by decide) (by decide) ?_
          refine lv_aload_n hx hb dX0_read_82 rfl (lv_at hl 1 rfl) ?_
          refine va_get (D := (dC, dI)) (ci := 0) (v := .ref a3) (C := RX0) (T := TX0) (N := 9) hx hb hts hin0 hown hK hP 0 rfl rfl 4 (by decide) lkf16 (fun _ h9 => h9) rfl dX0_read_83 ?_
          refine lv_iload_n hx hb dX0_read_86 rfl (lv_at hl 0 rfl) ?_
          refine ka_ialdN hx hb hK hP 3 1 rfl rfl (k := r) (by omega) (by decide) dX0_read_87 ?_
          refine lv_bipush (v := nI 56) hx hb dX0_read_88 (by decide) ?_
          refine lv_idiv hx hb dX0_read_90 (by decide) ?_
          refine kv_top (show _ = nI ((rp r) / 56) from pk_div (by omega) (by omega) (by omega)) ?_
          refine kv_top (show _ = rdW vo rp rl r (nI 3) from rfl) ?_
          exact hret _ _ _ _ hP hD hS dX0_read_91
    · have c_12 := kmt (kx_ge0).mpr c_12
      refine lv_iconst (v := (-1)) hx hb dX0_read_15 (by decide) ?_
      refine kv_top (show _ = rdW vo rp rl r x from (rdW_lo (by omega)).symm) ?_
      exact hret _ _ _ _ hP hD hS dX0_read_16
end
section
set_option maxHeartbeats 4000000 in
set_option maxRecDepth 100000 in
theorem c_init (l : Launch) (dC : Nat → ClassId) (dI : Nat → Nat → Nat) (h : Nat) (sz : Nat) : Met l yX0_init wsX0_init ({ frames := 1, cells := 6, slots := 5980, locals := 12 }) (kPre (dC, dI) vwCl ([(h, .inr (0, [.null, .int 0, .null, .int 0, .null, .null, .int 0, .null, .null]))]) [] sz [.ref h]) (kQc (dC, dI) vwCl ([(h, .inr (0, [.null, .int 0, .null, .int 0, .null, .null, .int 0, .null, .null]))]) sz (fun u : Nat × Nat × Nat × Nat × Nat × Nat × ClassId × ClassId => wB h u.1 u.2.1 u.2.2.1 u.2.2.2.1 u.2.2.2.2.1 u.2.2.2.2.2.1 u.2.2.2.2.2.2.1 u.2.2.2.2.2.2.2 (fun _ => 0) 0 (iniV 80) 0 (fun _ => 0) (fun _ => 0) 0 (fun _ => 0) (fun _ => 0)) (fun u => tB u.2.2.2.2.2.2.1 u.2.2.2.2.2.2.2)) 6 5980 (va_A ([(h, .inr (0, [.null, .int 0, .null, .int 0, .null, .null, .int 0, .null, .null]))]) sz) := by
  refine kM_c (cc := cX0_init) (maxL := 2) (by decide) rfl rfl (Nat.le_of_ble_eq_true rfl) ?_
  intro p e s m below meth c A Q ls H locs S hin hP hK hD hS hA hl hret
  obtain ⟨hx, hb, hml, hown, hts⟩ := id S
  have hin0 : ∀ w ∈ u_ws RX0 TX0 9, w ∈ wsX0_init := fun _ h => List.mem_cons_of_mem _ (List.mem_append_right _ h)
  have lkf9 := hts (.fieldLink RX0 9 "BlockTape" "tape" "[B") (by decide +kernel)
  have lkf13 := hts (.fieldLink RX0 13 "BlockTape" "volume" "[B") (by decide +kernel)
  have lkf16 := hts (.fieldLink RX0 16 "BlockTape" "rowPlace" "[I") (by decide +kernel)
  have lkf20 := hts (.fieldLink RX0 20 "BlockTape" "rowLength" "[I") (by decide +kernel)
  have lkf23 := hts (.fieldLink RX0 23 "BlockTape" "spoiltBy" "[I") (by decide +kernel)
  have lkf26 := hts (.fieldLink RX0 26 "BlockTape" "spoiltAt" "[I") (by decide +kernel)
  have hl : lv_has ls 2 [(0, .ref h)] := hl
  refine lv_aload_n hx hb dX0_init_0 rfl (lv_at hl 0 rfl) ?_
  refine W.objInit hx hb hown (hts (.methodLink RX0 3 objectInit) (by decide +kernel)) (hts (.instanceMethod objectInit) (by decide +kernel)) (hts _ (List.mem_of_getElem? (i := 3) rfl)) rfl (by rw [hml]; exact hl.1) rfl dX0_init_1 (Nat.le_of_ble_eq_true rfl) (Nat.le_of_ble_eq_true rfl) ?_
  refine W.eq (g2 := F0 m 4 ls []) rfl ?_
  refine lv_aload_n hx hb dX0_init_4 rfl (lv_at hl 0 rfl) ?_
  refine lv_sipush (v := nI 300) hx hb dX0_init_5 (by decide) ?_
  refine va_newa (atype := .byte) (ty := .byte) (N' := 300) (a0 := (300, .inl (fun _ => 0))) (n := nI 300) hx hb (hts (.arrayClass .byte) (by decide +kernel)) rfl hK hP hD hS hA (fun _ => rfl) (nI_pos (by decide)) (nI_clamp (by decide)) (Nat.le_of_ble_eq_true rfl) (Nat.le_of_ble_eq_true rfl) (Nat.le_of_ble_eq_true rfl) dX0_init_8 (fun a1 c1 H hK hP hD hS => ?_)
  refine W.widen (k := 1) (n := 300) (Nat.le_of_ble_eq_true rfl) (Nat.le_of_ble_eq_true rfl) ?_
  have hP : va_P (dC, dI) vwCl ([(h, .inr (0, [.null, .int 0, .null, .int 0, .null, .null, .int 0, .null, .null])), (a1, .inl (c1, 300, .inl (fun _ => 0)))]) H := hP
  have hD : va_D A ([(h, .inr (0, [.null, .int 0, .null, .int 0, .null, .null, .int 0, .null, .null])), (a1, .inl (c1, 300, .inl (fun _ => 0)))]) := hD
  refine va_putF (D := (dC, dI)) (ci := 0) (v := .ref a1) (ty := .array .byte) (C := RX0) (T := TX0) (N := 9) hx hb hts hin0 tyX0 tyX0_ok nmX0 hown hK hP hD hS 0 rfl rfl 0 (by decide) lkf9 (fun _ h9 => h9) rfl hin rfl (by decide +kernel) rfl rfl (Nat.le_of_ble_eq_true rfl) dX0_init_10 (fun H locs hP hD hS => ?_)
  have hP : va_P (dC, dI) vwCl ([(h, .inr (0, [.ref a1, .int 0, .null, .int 0, .null, .null, .int 0, .null, .null])), (a1, .inl (c1, 300, .inl (fun _ => 0)))]) H := hP
  have hD : va_D A ([(h, .inr (0, [.ref a1, .int 0, .null, .int 0, .null, .null, .int 0, .null, .null])), (a1, .inl (c1, 300, .inl (fun _ => 0)))]) := hD
  refine lv_aload_n hx hb dX0_init_13 rfl (lv_at hl 0 rfl) ?_
  refine lv_sipush (v := nI 5120) hx hb dX0_init_14 (by decide) ?_
  refine va_newa (atype := .byte) (ty := .byte) (N' := 5120) (a0 := (5120, .inl (fun _ => 0))) (n := nI 5120) hx hb (hts (.arrayClass .byte) (by decide +kernel)) rfl hK hP hD hS hA (fun _ => rfl) (nI_pos (by decide)) (nI_clamp (by decide)) (Nat.le_of_ble_eq_true rfl) (Nat.le_of_ble_eq_true rfl) (Nat.le_of_ble_eq_true rfl) dX0_init_17 (fun a2 c2 H hK hP hD hS => ?_)
  refine W.widen (k := 2) (n := 5420) (Nat.le_of_ble_eq_true rfl) (Nat.le_of_ble_eq_true rfl) ?_
  have hP : va_P (dC, dI) vwCl ([(h, .inr (0, [.ref a1, .int 0, .null, .int 0, .null, .null, .int 0, .null, .null])), (a1, .inl (c1, 300, .inl (fun _ => 0))), (a2, .inl (c2, 5120, .inl (fun _ => 0)))]) H := hP
  have hD : va_D A ([(h, .inr (0, [.ref a1, .int 0, .null, .int 0, .null, .null, .int 0, .null, .null])), (a1, .inl (c1, 300, .inl (fun _ => 0))), (a2, .inl (c2, 5120, .inl (fun _ => 0)))]) := hD
  refine va_putF (D := (dC, dI)) (ci := 0) (v := .ref a2) (ty := .array .byte) (C := RX0) (T := TX0) (N := 9) hx hb hts hin0 tyX0 tyX0_ok nmX0 hown hK hP hD hS 0 rfl rfl 2 (by decide) lkf13 (fun _ h9 => h9) rfl hin rfl (by decide +kernel) rfl rfl (Nat.le_of_ble_eq_true rfl) dX0_init_19 (fun H locs hP hD hS => ?_)
  have hP : va_P (dC, dI) vwCl ([(h, .inr (0, [.ref a1, .int 0, .ref a2, .int 0, .null, .null, .int 0, .null, .null])), (a1, .inl (c1, 300, .inl (fun _ => 0))), (a2, .inl (c2, 5120, .inl (fun _ => 0)))]) H := hP
  have hD : va_D A ([(h, .inr (0, [.ref a1, .int 0, .ref a2, .int 0, .null, .null, .int 0, .null, .null])), (a1, .inl (c1, 300, .inl (fun _ => 0))), (a2, .inl (c2, 5120, .inl (fun _ => 0)))]) := hD
  refine lv_aload_n hx hb dX0_init_22 rfl (lv_at hl 0 rfl) ?_
  refine lv_sipush (v := nI 200) hx hb dX0_init_23 (by decide) ?_
  refine va_newa (atype := .int) (ty := .int) (N' := 200) (a0 := (200, .inl (fun _ => 0))) (n := nI 200) hx hb (hts (.arrayClass .int) (by decide +kernel)) rfl hK hP hD hS hA (fun _ => rfl) (nI_pos (by decide)) (nI_clamp (by decide)) (Nat.le_of_ble_eq_true rfl) (Nat.le_of_ble_eq_true rfl) (Nat.le_of_ble_eq_true rfl) dX0_init_26 (fun a3 c3 H hK hP hD hS => ?_)
  refine W.widen (k := 3) (n := 5620) (Nat.le_of_ble_eq_true rfl) (Nat.le_of_ble_eq_true rfl) ?_
  have hP : va_P (dC, dI) vwCl ([(h, .inr (0, [.ref a1, .int 0, .ref a2, .int 0, .null, .null, .int 0, .null, .null])), (a1, .inl (c1, 300, .inl (fun _ => 0))), (a2, .inl (c2, 5120, .inl (fun _ => 0))), (a3, .inl (c3, 200, .inl (fun _ => 0)))]) H := hP
  have hD : va_D A ([(h, .inr (0, [.ref a1, .int 0, .ref a2, .int 0, .null, .null, .int 0, .null, .null])), (a1, .inl (c1, 300, .inl (fun _ => 0))), (a2, .inl (c2, 5120, .inl (fun _ => 0))), (a3, .inl (c3, 200, .inl (fun _ => 0)))]) := hD
  refine va_putF (D := (dC, dI)) (ci := 0) (v := .ref a3) (ty := .array .int) (C := RX0) (T := TX0) (N := 9) hx hb hts hin0 tyX0 tyX0_ok nmX0 hown hK hP hD hS 0 rfl rfl 4 (by decide) lkf16 (fun _ h9 => h9) rfl hin rfl (by decide +kernel) rfl rfl (Nat.le_of_ble_eq_true rfl) dX0_init_28 (fun H locs hP hD hS => ?_)
  have hP : va_P (dC, dI) vwCl ([(h, .inr (0, [.ref a1, .int 0, .ref a2, .int 0, .ref a3, .null, .int 0, .null, .null])), (a1, .inl (c1, 300, .inl (fun _ => 0))), (a2, .inl (c2, 5120, .inl (fun _ => 0))), (a3, .inl (c3, 200, .inl (fun _ => 0)))]) H := hP
  have hD : va_D A ([(h, .inr (0, [.ref a1, .int 0, .ref a2, .int 0, .ref a3, .null, .int 0, .null, .null])), (a1, .inl (c1, 300, .inl (fun _ => 0))), (a2, .inl (c2, 5120, .inl (fun _ => 0))), (a3, .inl (c3, 200, .inl (fun _ => 0)))]) := hD
  refine lv_aload_n hx hb dX0_init_31 rfl (lv_at hl 0 rfl) ?_
  refine lv_sipush (v := nI 200) hx hb dX0_init_32 (by decide) ?_
  refine va_newa (atype := .int) (ty := .int) (N' := 200) (a0 := (200, .inl (fun _ => 0))) (n := nI 200) hx hb (hts (.arrayClass .int) (by decide +kernel)) rfl hK hP hD hS hA (fun _ => rfl) (nI_pos (by decide)) (nI_clamp (by decide)) (Nat.le_of_ble_eq_true rfl) (Nat.le_of_ble_eq_true rfl) (Nat.le_of_ble_eq_true rfl) dX0_init_35 (fun a4 c4 H hK hP hD hS => ?_)
  refine W.widen (k := 4) (n := 5820) (Nat.le_of_ble_eq_true rfl) (Nat.le_of_ble_eq_true rfl) ?_
  have hP : va_P (dC, dI) vwCl ([(h, .inr (0, [.ref a1, .int 0, .ref a2, .int 0, .ref a3, .null, .int 0, .null, .null])), (a1, .inl (c1, 300, .inl (fun _ => 0))), (a2, .inl (c2, 5120, .inl (fun _ => 0))), (a3, .inl (c3, 200, .inl (fun _ => 0))), (a4, .inl (c4, 200, .inl (fun _ => 0)))]) H := hP
  have hD : va_D A ([(h, .inr (0, [.ref a1, .int 0, .ref a2, .int 0, .ref a3, .null, .int 0, .null, .null])), (a1, .inl (c1, 300, .inl (fun _ => 0))), (a2, .inl (c2, 5120, .inl (fun _ => 0))), (a3, .inl (c3, 200, .inl (fun _ => 0))), (a4, .inl (c4, 200, .inl (fun _ => 0)))]) := hD
  refine va_putF (D := (dC, dI)) (ci := 0) (v := .ref a4) (ty := .array .int) (C := RX0) (T := TX0) (N := 9) hx hb hts hin0 tyX0 tyX0_ok nmX0 hown hK hP hD hS 0 rfl rfl 5 (by decide) lkf20 (fun _ h9 => h9) rfl hin rfl (by decide +kernel) rfl rfl (Nat.le_of_ble_eq_true rfl) dX0_init_37 (fun H locs hP hD hS => ?_)
  have hP : va_P (dC, dI) vwCl ([(h, .inr (0, [.ref a1, .int 0, .ref a2, .int 0, .ref a3, .ref a4, .int 0, .null, .null])), (a1, .inl (c1, 300, .inl (fun _ => 0))), (a2, .inl (c2, 5120, .inl (fun _ => 0))), (a3, .inl (c3, 200, .inl (fun _ => 0))), (a4, .inl (c4, 200, .inl (fun _ => 0)))]) H := hP
  have hD : va_D A ([(h, .inr (0, [.ref a1, .int 0, .ref a2, .int 0, .ref a3, .ref a4, .int 0, .null, .null])), (a1, .inl (c1, 300, .inl (fun _ => 0))), (a2, .inl (c2, 5120, .inl (fun _ => 0))), (a3, .inl (c3, 200, .inl (fun _ => 0))), (a4, .inl (c4, 200, .inl (fun _ => 0)))]) := hD
  refine lv_aload_n hx hb dX0_init_40 rfl (lv_at hl 0 rfl) ?_
  refine lv_bipush (v := nI 80) hx hb dX0_init_41 (by decide) ?_
  refine va_newa (atype := .int) (ty := .int) (N' := 80) (a0 := (80, .inl (fun _ => 0))) (n := nI 80) hx hb (hts (.arrayClass .int) (by decide +kernel)) rfl hK hP hD hS hA (fun _ => rfl) (nI_pos (by decide)) (nI_clamp (by decide)) (Nat.le_of_ble_eq_true rfl) (Nat.le_of_ble_eq_true rfl) (Nat.le_of_ble_eq_true rfl) dX0_init_43 (fun a5 c5 H hK hP hD hS => ?_)
  refine W.widen (k := 5) (n := 5900) (Nat.le_of_ble_eq_true rfl) (Nat.le_of_ble_eq_true rfl) ?_
  have hP : va_P (dC, dI) vwCl ([(h, .inr (0, [.ref a1, .int 0, .ref a2, .int 0, .ref a3, .ref a4, .int 0, .null, .null])), (a1, .inl (c1, 300, .inl (fun _ => 0))), (a2, .inl (c2, 5120, .inl (fun _ => 0))), (a3, .inl (c3, 200, .inl (fun _ => 0))), (a4, .inl (c4, 200, .inl (fun _ => 0))), (a5, .inl (c5, 80, .inl (fun _ => 0)))]) H := hP
  have hD : va_D A ([(h, .inr (0, [.ref a1, .int 0, .ref a2, .int 0, .ref a3, .ref a4, .int 0, .null, .null])), (a1, .inl (c1, 300, .inl (fun _ => 0))), (a2, .inl (c2, 5120, .inl (fun _ => 0))), (a3, .inl (c3, 200, .inl (fun _ => 0))), (a4, .inl (c4, 200, .inl (fun _ => 0))), (a5, .inl (c5, 80, .inl (fun _ => 0)))]) := hD
  refine va_putF (D := (dC, dI)) (ci := 0) (v := .ref a5) (ty := .array .int) (C := RX0) (T := TX0) (N := 9) hx hb hts hin0 tyX0 tyX0_ok nmX0 hown hK hP hD hS 0 rfl rfl 7 (by decide) lkf23 (fun _ h9 => h9) rfl hin rfl (by decide +kernel) rfl rfl (Nat.le_of_ble_eq_true rfl) dX0_init_45 (fun H locs hP hD hS => ?_)
  have hP : va_P (dC, dI) vwCl ([(h, .inr (0, [.ref a1, .int 0, .ref a2, .int 0, .ref a3, .ref a4, .int 0, .ref a5, .null])), (a1, .inl (c1, 300, .inl (fun _ => 0))), (a2, .inl (c2, 5120, .inl (fun _ => 0))), (a3, .inl (c3, 200, .inl (fun _ => 0))), (a4, .inl (c4, 200, .inl (fun _ => 0))), (a5, .inl (c5, 80, .inl (fun _ => 0)))]) H := hP
  have hD : va_D A ([(h, .inr (0, [.ref a1, .int 0, .ref a2, .int 0, .ref a3, .ref a4, .int 0, .ref a5, .null])), (a1, .inl (c1, 300, .inl (fun _ => 0))), (a2, .inl (c2, 5120, .inl (fun _ => 0))), (a3, .inl (c3, 200, .inl (fun _ => 0))), (a4, .inl (c4, 200, .inl (fun _ => 0))), (a5, .inl (c5, 80, .inl (fun _ => 0)))]) := hD
  refine lv_aload_n hx hb dX0_init_48 rfl (lv_at hl 0 rfl) ?_
  refine lv_bipush (v := nI 80) hx hb dX0_init_49 (by decide) ?_
  refine va_newa (atype := .int) (ty := .int) (N' := 80) (a0 := (80, .inl (fun _ => 0))) (n := nI 80) hx hb (hts (.arrayClass .int) (by decide +kernel)) rfl hK hP hD hS hA (fun _ => rfl) (nI_pos (by decide)) (nI_clamp (by decide)) (Nat.le_of_ble_eq_true rfl) (Nat.le_of_ble_eq_true rfl) (Nat.le_of_ble_eq_true rfl) dX0_init_51 (fun a6 c6 H hK hP hD hS => ?_)
  refine W.widen (k := 6) (n := 5980) (Nat.le_of_ble_eq_true rfl) (Nat.le_of_ble_eq_true rfl) ?_
  have hP : va_P (dC, dI) vwCl ([(h, .inr (0, [.ref a1, .int 0, .ref a2, .int 0, .ref a3, .ref a4, .int 0, .ref a5, .null])), (a1, .inl (c1, 300, .inl (fun _ => 0))), (a2, .inl (c2, 5120, .inl (fun _ => 0))), (a3, .inl (c3, 200, .inl (fun _ => 0))), (a4, .inl (c4, 200, .inl (fun _ => 0))), (a5, .inl (c5, 80, .inl (fun _ => 0))), (a6, .inl (c6, 80, .inl (fun _ => 0)))]) H := hP
  have hD : va_D A ([(h, .inr (0, [.ref a1, .int 0, .ref a2, .int 0, .ref a3, .ref a4, .int 0, .ref a5, .null])), (a1, .inl (c1, 300, .inl (fun _ => 0))), (a2, .inl (c2, 5120, .inl (fun _ => 0))), (a3, .inl (c3, 200, .inl (fun _ => 0))), (a4, .inl (c4, 200, .inl (fun _ => 0))), (a5, .inl (c5, 80, .inl (fun _ => 0))), (a6, .inl (c6, 80, .inl (fun _ => 0)))]) := hD
  refine va_putF (D := (dC, dI)) (ci := 0) (v := .ref a6) (ty := .array .int) (C := RX0) (T := TX0) (N := 9) hx hb hts hin0 tyX0 tyX0_ok nmX0 hown hK hP hD hS 0 rfl rfl 8 (by decide) lkf26 (fun _ h9 => h9) rfl hin rfl (by decide +kernel) rfl rfl (Nat.le_of_ble_eq_true rfl) dX0_init_53 (fun H locs hP hD hS => ?_)
  have hP : va_P (dC, dI) vwCl ([(h, .inr (0, [.ref a1, .int 0, .ref a2, .int 0, .ref a3, .ref a4, .int 0, .ref a5, .ref a6])), (a1, .inl (c1, 300, .inl (fun _ => 0))), (a2, .inl (c2, 5120, .inl (fun _ => 0))), (a3, .inl (c3, 200, .inl (fun _ => 0))), (a4, .inl (c4, 200, .inl (fun _ => 0))), (a5, .inl (c5, 80, .inl (fun _ => 0))), (a6, .inl (c6, 80, .inl (fun _ => 0)))]) H := hP
  have hD : va_D A ([(h, .inr (0, [.ref a1, .int 0, .ref a2, .int 0, .ref a3, .ref a4, .int 0, .ref a5, .ref a6])), (a1, .inl (c1, 300, .inl (fun _ => 0))), (a2, .inl (c2, 5120, .inl (fun _ => 0))), (a3, .inl (c3, 200, .inl (fun _ => 0))), (a4, .inl (c4, 200, .inl (fun _ => 0))), (a5, .inl (c5, 80, .inl (fun _ => 0))), (a6, .inl (c6, 80, .inl (fun _ => 0)))]) := hD
  obtain rfl : c1 = c2 := kCl_b hK 0 1 rfl rfl
  obtain rfl : c3 = c4 := kCl_i hK 2 3 rfl rfl
  obtain rfl : c3 = c5 := kCl_i hK 2 4 rfl rfl
  obtain rfl : c3 = c6 := kCl_i hK 2 5 rfl rfl
  have hK : va_K (dC, dI) vwCl (tB c1 c3) s := hK.sub [0, 2] rfl
  have hP : va_P (dC, dI) vwCl (wB h a1 a2 a3 a4 a5 a6 c1 c3 (fun _ => 0) 0 (iniV 0) 0 (fun _ => 0) (fun _ => 0) 0 (fun _ => 0) (fun _ => 0)) H := hP
  have hD : va_D A (wB h a1 a2 a3 a4 a5 a6 c1 c3 (fun _ => 0) 0 (iniV 0) 0 (fun _ => 0) (fun _ => 0) 0 (fun _ => 0) (fun _ => 0)) := hD
  refine lv_iconst (v := nI 0) hx hb dX0_init_56 (by decide) ?_
  refine lv_istore_n (lv' := [(1, .int (nI 0)), (0, .ref h)]) hx hb dX0_init_57 rfl hl (by decide) rfl (fun ls hl => ?_)
  have hloopk : ∀ (n k : Nat), k ≤ 80 → 80 + 1 ≤ k + n → ∀ (H : Heap) (locs : List Loc) (ls : Array Slot), va_P (dC, dI) vwCl (wB h a1 a2 a3 a4 a5 a6 c1 c3 (fun _ => 0) 0 (iniV k) 0 (fun _ => 0) (fun _ => 0) 0 (fun _ => 0) (fun _ => 0)) H → va_D A (wB h a1 a2 a3 a4 a5 a6 c1 c3 (fun _ => 0) 0 (iniV k) 0 (fun _ => 0) (fun _ => 0) 0 (fun _ => 0) (fun _ => 0)) → va_S A s.heap H locs → lv_has ls 2 [(1, .int (nI k)), (0, .ref h)] → W p l e ({ frames := 1, cells := 6, slots := 5980, locals := 12 }) s m ([.ref h] : List Value).toArray below meth c H locs 6 5980 Q (F0 m 58 ls []) := by
    intro n
    induction n with
    | zero => intro k h1 h2; exact absurd h2 (by omega)
    | succ n ih =>
      intro k hkA hkB H locs ls hP hD hS hl
      refine lv_iload_n hx hb dX0_init_58 rfl (lv_at hl 0 rfl) ?_
      refine lv_bipush (v := nI 80) hx hb dX0_init_59 (by decide) ?_
      refine lv_icmp_ge (tgt := 82) hx hb dX0_init_61 (by decide) (fun c_61 => ?_) (fun c_61 => ?_)
      · have c_61 := (nI_leI (by omega) (by omega)).mp c_61
        have hkE : k = 80 := by omega
        subst hkE
        exact hret (a1, a2, a3, a4, a5, a6, c1, c3) _ _ _ _ hP hK hD hS dX0_init_82
      · have c_61 := kmt (nI_leI (by omega) (by omega)).mpr c_61
        refine lv_aload_n hx hb dX0_init_64 rfl (lv_at hl 1 rfl) ?_
        refine va_get (D := (dC, dI)) (ci := 0) (v := .ref a2) (C := RX0) (T := TX0) (N := 9) hx hb hts hin0 hown hK hP 0 rfl rfl 2 (by decide) lkf13 (fun _ h9 => h9) rfl dX0_init_65 ?_
        refine lv_iload_n hx hb dX0_init_68 rfl (lv_at hl 0 rfl) ?_
        refine lv_bipush (v := nI 64) hx hb dX0_init_69 (by decide) ?_
        refine lv_imul hx hb dX0_init_71 ?_
        refine kv_top (show _ = nI (k * 64) from pk_mul _ _) ?_
        refine lv_iconst (v := nI 3) hx hb dX0_init_72 (by decide) ?_
        refine lv_iadd hx hb dX0_init_73 ?_
        refine kv_top (show _ = nI ((k * 64) + 3) from nI_add _ _) ?_
        refine lv_iconst (v := (-1)) hx hb dX0_init_74 (by decide) ?_
        refine ka_bast hx hb hK hP hD hS 2 0 rfl rfl (k := (k * 64) + 3) (x := (-1)) (by omega) (by decide) (by decide) dX0_init_75 (fun H locs hP hD hS => ?_)
        have hP : va_P (dC, dI) vwCl (wB h a1 a2 a3 a4 a5 a6 c1 c3 (fun _ => 0) 0 (upd (iniV k) ((k * 64) + 3) ((-1))) 0 (fun _ => 0) (fun _ => 0) 0 (fun _ => 0) (fun _ => 0)) H := hP
        have hD : va_D A (wB h a1 a2 a3 a4 a5 a6 c1 c3 (fun _ => 0) 0 (upd (iniV k) ((k * 64) + 3) ((-1))) 0 (fun _ => 0) (fun _ => 0) 0 (fun _ => 0) (fun _ => 0)) := hD
        refine lv_iinc (v := nI (k + 1)) (lv' := [(1, .int (nI (k + 1))), (0, .ref h)]) hx hb dX0_init_76 hl (k := 0) rfl (ki_inc _) (by decide) rfl (fun ls hl => ?_)
        refine lv_goto (tgt := 58) hx hb dX0_init_79 (by decide) ?_
        have hP : va_P (dC, dI) vwCl (wB h a1 a2 a3 a4 a5 a6 c1 c3 (fun _ => 0) 0 (iniV (k + 1)) 0 (fun _ => 0) (fun _ => 0) 0 (fun _ => 0) (fun _ => 0)) H := hP
        have hD : va_D A (wB h a1 a2 a3 a4 a5 a6 c1 c3 (fun _ => 0) 0 (iniV (k + 1)) 0 (fun _ => 0) (fun _ => 0) 0 (fun _ => 0) (fun _ => 0)) := hD
        exact ih (k + 1) (by omega) (by omega) _ _ _ hP hD hS (lv_sub hl [0, 1] rfl)
  have hP : va_P (dC, dI) vwCl (wB h a1 a2 a3 a4 a5 a6 c1 c3 (fun _ => 0) 0 (iniV (0)) 0 (fun _ => 0) (fun _ => 0) 0 (fun _ => 0) (fun _ => 0)) H := hP
  have hD : va_D A (wB h a1 a2 a3 a4 a5 a6 c1 c3 (fun _ => 0) 0 (iniV (0)) 0 (fun _ => 0) (fun _ => 0) 0 (fun _ => 0) (fun _ => 0)) := hD
  exact hloopk (80 + 1) 0 (by omega) (by omega) _ _ _ hP hD hS (lv_sub hl [0, 1] rfl)
end
section
abbrev BSt : Type := (Nat → Int32) × Nat × (Nat → Int32) × Nat × (Nat → Nat) × (Nat → Nat) × Nat × (Nat → Nat) × (Nat → Nat)
abbrev wBs (h a1 a2 a3 a4 a5 a6 : Nat) (cb ci : ClassId) (b : BSt) : va_W := wB h a1 a2 a3 a4 a5 a6 cb ci b.1 b.2.1 b.2.2.1 b.2.2.2.1 b.2.2.2.2.1 b.2.2.2.2.2.1 b.2.2.2.2.2.2.1 b.2.2.2.2.2.2.2.1 b.2.2.2.2.2.2.2.2
def bOk (b : BSt) : Prop := match b with
  | (_, tl, _, np, rp, rl, rc, sb, sa) => tl ≤ 300 ∧ np ≤ 4480 ∧ rc ≤ 200 ∧ (∀ k, k < 80 → sb k < 256) ∧ (∀ k, k < 80 → sa k < 64) ∧ ∀ k, k < rc → rp k + rl k ≤ 4480 ∧ 6 ≤ rl k
def okFeed (x : Int32) (b : BSt) : Prop := 1 ≤ x.toInt ∧ x.toInt ≤ 4 ∧ b.2.1 + x.toInt ≤ 300
def okPut (sv iv : Int32) (b : BSt) : Prop := 0 ≤ sv.toInt ∧ sv.toInt ≤ 255 ∧ 0 ≤ iv.toInt ∧ iv.toInt ≤ 65535 ∧ b.2.2.2.2.2.2.1 < 200 ∧ b.2.2.2.1 + 6 + b.2.1 ≤ 4480
def okSpoil (x q v : Int32) (b : BSt) : Prop := isW b.2.2.2.1 x = true ∧ inB q = true ∧ 1 ≤ v.toInt ∧ v.toInt ≤ 255 ∧ b.2.2.2.2.2.2.2.1 x.toInt.toNat = 0
def okHeal (x : Int32) (b : BSt) : Prop := isW b.2.2.2.1 x = true ∧ b.2.2.2.2.2.2.2.1 x.toInt.toNat ≠ 0
def tFeed (v x : Int32) (b : BSt) : BSt := match b with
  | (tp, tl, vo, np, rp, rl, rc, sb, sa) => (fdT tp tl v x.toInt.toNat, tl + x.toInt.toNat, vo, np, rp, rl, rc, sb, sa)
def tPut (sv iv : Int32) (b : BSt) : BSt := match b with
  | (tp, tl, vo, np, rp, rl, rc, sb, sa) => (tp, 0, apR (ntB vo np) np sv iv tp tl, np + 6 + tl, updN rp rc np, updN rl rc (6 + tl), rc + 1, sb, sa)
def tClose (b : BSt) : BSt := match b with
  | (tp, tl, vo, np, rp, rl, rc, sb, sa) => (tp, tl, wbV vo (np / 56) (np % 56), np + (56 - np % 56), rp, rl, rc, sb, sa)
def tSpoil (x q v : Int32) (b : BSt) : BSt := match b with
  | (tp, tl, vo, np, rp, rl, rc, sb, sa) => (tp, tl, upd vo (x.toInt.toNat * 64 + q.toInt.toNat) (bn (vo (x.toInt.toNat * 64 + q.toInt.toNat) + v)), np, rp, rl, rc, updN sb x.toInt.toNat v.toInt.toNat, updN sa x.toInt.toNat q.toInt.toNat)
def tHeal (x : Int32) (b : BSt) : BSt := match b with
  | (tp, tl, vo, np, rp, rl, rc, sb, sa) => (tp, tl, upd vo (x.toInt.toNat * 64 + sa x.toInt.toNat) (bn (vo (x.toInt.toNat * 64 + sa x.toInt.toNat) + -(nI (sb x.toInt.toNat)))), np, rp, rl, rc, updN sb x.toInt.toNat 0, sa)
def rRead (i x : Int32) (b : BSt) : Int32 := match b with
  | (_, _, vo, np, rp, rl, rc, sb, _) => if rOf (isR np sb rp rl) i rc 0 0 = -1 then -1 else rdW vo rp rl (rOf (isR np sb rp rl) i rc 0 0).toInt.toNat x
theorem rOf_or (rd : Nat → Bool) (i : Int32) : ∀ (n k q T : Nat), k + n = T → T < 2 ^ 31 → rOf rd i n k q = -1 ∨ ∃ r, r < T ∧ rOf rd i n k q = nI r
  | 0, _, _, _, _, _ => Or.inl rfl
  | n + 1, k, q, T, h, hT => by
    rw [rOf]
    split
    · split
      · exact Or.inr ⟨k, by omega, rfl⟩
      · exact rOf_or rd i n (k + 1) (q + 1) T (by omega) hT
    · exact rOf_or rd i n (k + 1) q T (by omega) hT
set_option maxRecDepth 100000 in
theorem k_feed (l : Launch) (dC : Nat → ClassId) (dI : Nat → Nat → Nat) (h a1 a2 a3 a4 a5 a6 : Nat) (cb ci : ClassId) (sz : Nat) (b : BSt) (hb : bOk b) (v x : Int32) (hc : okFeed x b) : Met l yX0_feed wsX0_feed ({ frames := 0, cells := 0, slots := 0, locals := 0 }) (kPre (dC, dI) vwCl (wBs h a1 a2 a3 a4 a5 a6 cb ci b) (tB cb ci) sz [.ref h, .int v, .int x]) (kQi (dC, dI) vwCl (wBs h a1 a2 a3 a4 a5 a6 cb ci b) (tB cb ci) sz (nI (b.2.1 + x.toInt.toNat)) (wBs h a1 a2 a3 a4 a5 a6 cb ci (tFeed v x b))) 0 0 (va_A (wBs h a1 a2 a3 a4 a5 a6 cb ci b) sz) := by
  obtain ⟨tp, tl, vo, np, rp, rl, rc, sb, sa⟩ := b
  obtain ⟨htl, hnp, hrc, hsb, hsa, hrow⟩ := hb
  obtain ⟨h1, h2, h3⟩ := hc
  dsimp only at h3
  obtain ⟨j, hj, rfl⟩ := kx_of (x := x) (by omega)
  rw [nI_toInt hj] at h1 h2 h3
  dsimp only [tFeed]
  rw [nI_tn hj]
  exact c_feed l dC dI h a1 a2 a3 a4 a5 a6 cb ci tp tl vo np rp rl rc sb sa sz v j ⟨by omega, by omega⟩ (by omega)
set_option maxRecDepth 100000 in
theorem k_feedN (l : Launch) (dC : Nat → ClassId) (dI : Nat → Nat → Nat) (h a1 a2 a3 a4 a5 a6 : Nat) (cb ci : ClassId) (sz : Nat) (b : BSt) (hb : bOk b) (v x : Int32) (hc : ¬ (okFeed x b)) : Met l yX0_feed wsX0_feed ({ frames := 0, cells := 0, slots := 0, locals := 0 }) (kPre (dC, dI) vwCl (wBs h a1 a2 a3 a4 a5 a6 cb ci b) (tB cb ci) sz [.ref h, .int v, .int x]) (kQi (dC, dI) vwCl (wBs h a1 a2 a3 a4 a5 a6 cb ci b) (tB cb ci) sz (-1) (wBs h a1 a2 a3 a4 a5 a6 cb ci (b))) 0 0 (va_A (wBs h a1 a2 a3 a4 a5 a6 cb ci b) sz) := by
  obtain ⟨tp, tl, vo, np, rp, rl, rc, sb, sa⟩ := b
  obtain ⟨htl, hnp, hrc, hsb, hsa, hrow⟩ := hb
  exact c_feedN l dC dI h a1 a2 a3 a4 a5 a6 cb ci tp tl vo np rp rl rc sb sa sz v x htl hc
set_option maxRecDepth 100000 in
theorem k_put (l : Launch) (dC : Nat → ClassId) (dI : Nat → Nat → Nat) (h a1 a2 a3 a4 a5 a6 : Nat) (cb ci : ClassId) (sz : Nat) (b : BSt) (hb : bOk b) (sv iv : Int32) (hc : okPut sv iv b) : Met l yX0_put wsX0_put ({ frames := 5, cells := 0, slots := 0, locals := 117 }) (kPre (dC, dI) vwCl (wBs h a1 a2 a3 a4 a5 a6 cb ci b) (tB cb ci) sz [.ref h, .int sv, .int iv]) (kQi (dC, dI) vwCl (wBs h a1 a2 a3 a4 a5 a6 cb ci b) (tB cb ci) sz (nI b.2.2.2.2.2.2.1) (wBs h a1 a2 a3 a4 a5 a6 cb ci (tPut sv iv b))) 0 0 (va_A (wBs h a1 a2 a3 a4 a5 a6 cb ci b) sz) := by
  obtain ⟨tp, tl, vo, np, rp, rl, rc, sb, sa⟩ := b
  obtain ⟨htl, hnp, hrc, hsb, hsa, hrow⟩ := hb
  obtain ⟨h1, h2, h3, h4, h5, h6⟩ := hc
  dsimp only at h5 h6
  exact c_put l dC dI h a1 a2 a3 a4 a5 a6 cb ci tp tl vo np rp rl rc sb sa sz sv iv htl hnp hrc ⟨h1, h2⟩ ⟨h3, h4⟩ ⟨h5, h6⟩
set_option maxRecDepth 100000 in
theorem k_putN (l : Launch) (dC : Nat → ClassId) (dI : Nat → Nat → Nat) (h a1 a2 a3 a4 a5 a6 : Nat) (cb ci : ClassId) (sz : Nat) (b : BSt) (hb : bOk b) (sv iv : Int32) (hc : ¬ (okPut sv iv b)) : Met l yX0_put wsX0_put ({ frames := 5, cells := 0, slots := 0, locals := 117 }) (kPre (dC, dI) vwCl (wBs h a1 a2 a3 a4 a5 a6 cb ci b) (tB cb ci) sz [.ref h, .int sv, .int iv]) (kQi (dC, dI) vwCl (wBs h a1 a2 a3 a4 a5 a6 cb ci b) (tB cb ci) sz (-1) (wBs h a1 a2 a3 a4 a5 a6 cb ci (b))) 0 0 (va_A (wBs h a1 a2 a3 a4 a5 a6 cb ci b) sz) := by
  obtain ⟨tp, tl, vo, np, rp, rl, rc, sb, sa⟩ := b
  obtain ⟨htl, hnp, hrc, hsb, hsa, hrow⟩ := hb
  exact c_putN l dC dI h a1 a2 a3 a4 a5 a6 cb ci tp tl vo np rp rl rc sb sa sz sv iv htl hnp hrc hc
set_option maxRecDepth 100000 in
theorem k_close (l : Launch) (dC : Nat → ClassId) (dI : Nat → Nat → Nat) (h a1 a2 a3 a4 a5 a6 : Nat) (cb ci : ClassId) (sz : Nat) (b : BSt) (hb : bOk b) (hc : b.2.2.2.1 % 56 ≠ 0) : Met l yX0_close wsX0_close ({ frames := 3, cells := 0, slots := 0, locals := 73 }) (kPre (dC, dI) vwCl (wBs h a1 a2 a3 a4 a5 a6 cb ci b) (tB cb ci) sz [.ref h]) (kQi (dC, dI) vwCl (wBs h a1 a2 a3 a4 a5 a6 cb ci b) (tB cb ci) sz (nI 1) (wBs h a1 a2 a3 a4 a5 a6 cb ci (tClose b))) 0 0 (va_A (wBs h a1 a2 a3 a4 a5 a6 cb ci b) sz) := by
  obtain ⟨tp, tl, vo, np, rp, rl, rc, sb, sa⟩ := b
  obtain ⟨htl, hnp, hrc, hsb, hsa, hrow⟩ := hb
  exact c_close l dC dI h a1 a2 a3 a4 a5 a6 cb ci tp tl vo np rp rl rc sb sa sz hnp hc
set_option maxRecDepth 100000 in
theorem k_closeN (l : Launch) (dC : Nat → ClassId) (dI : Nat → Nat → Nat) (h a1 a2 a3 a4 a5 a6 : Nat) (cb ci : ClassId) (sz : Nat) (b : BSt) (hb : bOk b) (hc : ¬ (b.2.2.2.1 % 56 ≠ 0)) : Met l yX0_close wsX0_close ({ frames := 3, cells := 0, slots := 0, locals := 73 }) (kPre (dC, dI) vwCl (wBs h a1 a2 a3 a4 a5 a6 cb ci b) (tB cb ci) sz [.ref h]) (kQi (dC, dI) vwCl (wBs h a1 a2 a3 a4 a5 a6 cb ci b) (tB cb ci) sz (nI 0) (wBs h a1 a2 a3 a4 a5 a6 cb ci (b))) 0 0 (va_A (wBs h a1 a2 a3 a4 a5 a6 cb ci b) sz) := by
  obtain ⟨tp, tl, vo, np, rp, rl, rc, sb, sa⟩ := b
  obtain ⟨htl, hnp, hrc, hsb, hsa, hrow⟩ := hb
  dsimp only at hc
  exact c_closeN l dC dI h a1 a2 a3 a4 a5 a6 cb ci tp tl vo np rp rl rc sb sa sz hnp (by omega)
set_option maxRecDepth 100000 in
theorem k_spoil (l : Launch) (dC : Nat → ClassId) (dI : Nat → Nat → Nat) (h a1 a2 a3 a4 a5 a6 : Nat) (cb ci : ClassId) (sz : Nat) (b : BSt) (hb : bOk b) (x q v : Int32) (hc : okSpoil x q v b) : Met l yX0_spoil wsX0_spoil ({ frames := 2, cells := 0, slots := 0, locals := 41 }) (kPre (dC, dI) vwCl (wBs h a1 a2 a3 a4 a5 a6 cb ci b) (tB cb ci) sz [.ref h, .int x, .int q, .int v]) (kQi (dC, dI) vwCl (wBs h a1 a2 a3 a4 a5 a6 cb ci b) (tB cb ci) sz (nI 1) (wBs h a1 a2 a3 a4 a5 a6 cb ci (tSpoil x q v b))) 0 0 (va_A (wBs h a1 a2 a3 a4 a5 a6 cb ci b) sz) := by
  obtain ⟨tp, tl, vo, np, rp, rl, rc, sb, sa⟩ := b
  obtain ⟨htl, hnp, hrc, hsb, hsa, hrow⟩ := hb
  obtain ⟨h1, h2, h3, h4, h5⟩ := hc
  dsimp only at h1 h5
  obtain ⟨j, hj, rfl⟩ := isW_of h1
  obtain ⟨k, hk, rfl⟩ := inB_of h2
  obtain ⟨w, hw, rfl⟩ := kx_of (x := v) (by omega)
  rw [nI_toInt hw] at h3 h4
  rw [nI_tn (by omega)] at h5
  dsimp only [tSpoil]
  rw [nI_tn (show j < 2 ^ 31 by omega), nI_tn (show k < 2 ^ 31 by omega), nI_tn hw]
  exact c_spoil l dC dI h a1 a2 a3 a4 a5 a6 cb ci tp tl vo np rp rl rc sb sa sz j k w hnp hj hk ⟨by omega, by omega⟩ h5
set_option maxRecDepth 100000 in
theorem k_spoilN (l : Launch) (dC : Nat → ClassId) (dI : Nat → Nat → Nat) (h a1 a2 a3 a4 a5 a6 : Nat) (cb ci : ClassId) (sz : Nat) (b : BSt) (hb : bOk b) (x q v : Int32) (hc : ¬ (okSpoil x q v b)) : Met l yX0_spoil wsX0_spoil ({ frames := 2, cells := 0, slots := 0, locals := 41 }) (kPre (dC, dI) vwCl (wBs h a1 a2 a3 a4 a5 a6 cb ci b) (tB cb ci) sz [.ref h, .int x, .int q, .int v]) (kQi (dC, dI) vwCl (wBs h a1 a2 a3 a4 a5 a6 cb ci b) (tB cb ci) sz (nI 0) (wBs h a1 a2 a3 a4 a5 a6 cb ci (b))) 0 0 (va_A (wBs h a1 a2 a3 a4 a5 a6 cb ci b) sz) := by
  obtain ⟨tp, tl, vo, np, rp, rl, rc, sb, sa⟩ := b
  obtain ⟨htl, hnp, hrc, hsb, hsa, hrow⟩ := hb
  exact c_spoilN l dC dI h a1 a2 a3 a4 a5 a6 cb ci tp tl vo np rp rl rc sb sa sz x q v hnp hsb (fun g1 g2 g3 g4 g5 => hc ⟨g1, g2, g3, g4, g5⟩)
set_option maxRecDepth 100000 in
theorem k_heal (l : Launch) (dC : Nat → ClassId) (dI : Nat → Nat → Nat) (h a1 a2 a3 a4 a5 a6 : Nat) (cb ci : ClassId) (sz : Nat) (b : BSt) (hb : bOk b) (x : Int32) (hc : okHeal x b) : Met l yX0_heal wsX0_heal ({ frames := 2, cells := 0, slots := 0, locals := 41 }) (kPre (dC, dI) vwCl (wBs h a1 a2 a3 a4 a5 a6 cb ci b) (tB cb ci) sz [.ref h, .int x]) (kQi (dC, dI) vwCl (wBs h a1 a2 a3 a4 a5 a6 cb ci b) (tB cb ci) sz (nI 1) (wBs h a1 a2 a3 a4 a5 a6 cb ci (tHeal x b))) 0 0 (va_A (wBs h a1 a2 a3 a4 a5 a6 cb ci b) sz) := by
  obtain ⟨tp, tl, vo, np, rp, rl, rc, sb, sa⟩ := b
  obtain ⟨htl, hnp, hrc, hsb, hsa, hrow⟩ := hb
  obtain ⟨h1, h5⟩ := hc
  dsimp only at h1 h5
  obtain ⟨j, hj, rfl⟩ := isW_of h1
  rw [nI_tn (by omega)] at h5
  dsimp only [tHeal]
  rw [nI_tn (show j < 2 ^ 31 by omega)]
  exact c_heal l dC dI h a1 a2 a3 a4 a5 a6 cb ci tp tl vo np rp rl rc sb sa sz j hnp hj ⟨h5, hsb j (by omega)⟩ (hsa j (by omega))
set_option maxRecDepth 100000 in
theorem k_healN (l : Launch) (dC : Nat → ClassId) (dI : Nat → Nat → Nat) (h a1 a2 a3 a4 a5 a6 : Nat) (cb ci : ClassId) (sz : Nat) (b : BSt) (hb : bOk b) (x : Int32) (hc : ¬ (okHeal x b)) : Met l yX0_heal wsX0_heal ({ frames := 2, cells := 0, slots := 0, locals := 41 }) (kPre (dC, dI) vwCl (wBs h a1 a2 a3 a4 a5 a6 cb ci b) (tB cb ci) sz [.ref h, .int x]) (kQi (dC, dI) vwCl (wBs h a1 a2 a3 a4 a5 a6 cb ci b) (tB cb ci) sz (nI 0) (wBs h a1 a2 a3 a4 a5 a6 cb ci (b))) 0 0 (va_A (wBs h a1 a2 a3 a4 a5 a6 cb ci b) sz) := by
  obtain ⟨tp, tl, vo, np, rp, rl, rc, sb, sa⟩ := b
  obtain ⟨htl, hnp, hrc, hsb, hsa, hrow⟩ := hb
  exact c_healN l dC dI h a1 a2 a3 a4 a5 a6 cb ci tp tl vo np rp rl rc sb sa sz x hnp hsb (fun g1 => Decidable.byContradiction (fun g5 => hc ⟨g1, g5⟩))
set_option maxRecDepth 100000 in
theorem k_byteOf (l : Launch) (dC : Nat → ClassId) (dI : Nat → Nat → Nat) (h a1 a2 a3 a4 a5 a6 : Nat) (cb ci : ClassId) (sz : Nat) (b : BSt) (hb : bOk b) (x i : Int32) : Met l yX0_byteOf wsX0_byteOf ({ frames := 2, cells := 0, slots := 0, locals := 41 }) (kPre (dC, dI) vwCl (wBs h a1 a2 a3 a4 a5 a6 cb ci b) (tB cb ci) sz [.ref h, .int x, .int i]) (kQi (dC, dI) vwCl (wBs h a1 a2 a3 a4 a5 a6 cb ci b) (tB cb ci) sz (bof b.2.2.2.1 b.2.2.1 x i) (wBs h a1 a2 a3 a4 a5 a6 cb ci (b))) 0 0 (va_A (wBs h a1 a2 a3 a4 a5 a6 cb ci b) sz) := by
  obtain ⟨tp, tl, vo, np, rp, rl, rc, sb, sa⟩ := b
  obtain ⟨htl, hnp, hrc, hsb, hsa, hrow⟩ := hb
  exact c_byteOf l dC dI h a1 a2 a3 a4 a5 a6 cb ci tp tl vo np rp rl rc sb sa sz x i hnp
set_option maxRecDepth 100000 in
theorem k_good (l : Launch) (dC : Nat → ClassId) (dI : Nat → Nat → Nat) (h a1 a2 a3 a4 a5 a6 : Nat) (cb ci : ClassId) (sz : Nat) (b : BSt) (hb : bOk b) (x : Int32) : Met l yX0_good wsX0_good ({ frames := 2, cells := 0, slots := 0, locals := 41 }) (kPre (dC, dI) vwCl (wBs h a1 a2 a3 a4 a5 a6 cb ci b) (tB cb ci) sz [.ref h, .int x]) (kQi (dC, dI) vwCl (wBs h a1 a2 a3 a4 a5 a6 cb ci b) (tB cb ci) sz (bI (goodX b.2.2.2.1 b.2.2.2.2.2.2.2.1 x)) (wBs h a1 a2 a3 a4 a5 a6 cb ci (b))) 0 0 (va_A (wBs h a1 a2 a3 a4 a5 a6 cb ci b) sz) := by
  obtain ⟨tp, tl, vo, np, rp, rl, rc, sb, sa⟩ := b
  obtain ⟨htl, hnp, hrc, hsb, hsa, hrow⟩ := hb
  exact c_good l dC dI h a1 a2 a3 a4 a5 a6 cb ci tp tl vo np rp rl rc sb sa sz x hnp hsb
set_option maxRecDepth 100000 in
theorem k_verify (l : Launch) (dC : Nat → ClassId) (dI : Nat → Nat → Nat) (h a1 a2 a3 a4 a5 a6 : Nat) (cb ci : ClassId) (sz : Nat) (b : BSt) (hb : bOk b) (x : Int32) : Met l yX0_verify wsX0_verify ({ frames := 3, cells := 0, slots := 0, locals := 62 }) (kPre (dC, dI) vwCl (wBs h a1 a2 a3 a4 a5 a6 cb ci b) (tB cb ci) sz [.ref h, .int x]) (kQi (dC, dI) vwCl (wBs h a1 a2 a3 a4 a5 a6 cb ci b) (tB cb ci) sz (vfX b.2.2.2.1 b.2.2.2.2.2.2.2.1 x) (wBs h a1 a2 a3 a4 a5 a6 cb ci (b))) 0 0 (va_A (wBs h a1 a2 a3 a4 a5 a6 cb ci b) sz) := by
  obtain ⟨tp, tl, vo, np, rp, rl, rc, sb, sa⟩ := b
  obtain ⟨htl, hnp, hrc, hsb, hsa, hrow⟩ := hb
  exact c_verify l dC dI h a1 a2 a3 a4 a5 a6 cb ci tp tl vo np rp rl rc sb sa sz x hnp hsb
set_option maxRecDepth 100000 in
theorem k_count (l : Launch) (dC : Nat → ClassId) (dI : Nat → Nat → Nat) (h a1 a2 a3 a4 a5 a6 : Nat) (cb ci : ClassId) (sz : Nat) (b : BSt) (hb : bOk b) (x : Int32) : Met l yX0_count wsX0_count ({ frames := 5, cells := 0, slots := 0, locals := 107 }) (kPre (dC, dI) vwCl (wBs h a1 a2 a3 a4 a5 a6 cb ci b) (tB cb ci) sz [.ref h, .int x]) (kQi (dC, dI) vwCl (wBs h a1 a2 a3 a4 a5 a6 cb ci b) (tB cb ci) sz (cntX b.2.1 b.2.2.2.1 b.2.2.2.2.2.2.1 b.2.2.2.2.1 b.2.2.2.2.2.1 b.2.2.2.2.2.2.2.1 x) (wBs h a1 a2 a3 a4 a5 a6 cb ci (b))) 0 0 (va_A (wBs h a1 a2 a3 a4 a5 a6 cb ci b) sz) := by
  obtain ⟨tp, tl, vo, np, rp, rl, rc, sb, sa⟩ := b
  obtain ⟨htl, hnp, hrc, hsb, hsa, hrow⟩ := hb
  exact c_count l dC dI h a1 a2 a3 a4 a5 a6 cb ci tp tl vo np rp rl rc sb sa sz x hnp hsb hrc hrow htl
set_option maxRecDepth 100000 in
theorem k_read (l : Launch) (dC : Nat → ClassId) (dI : Nat → Nat → Nat) (h a1 a2 a3 a4 a5 a6 : Nat) (cb ci : ClassId) (sz : Nat) (b : BSt) (hb : bOk b) (i x : Int32) : Met l yX0_read wsX0_read ({ frames := 5, cells := 0, slots := 0, locals := 108 }) (kPre (dC, dI) vwCl (wBs h a1 a2 a3 a4 a5 a6 cb ci b) (tB cb ci) sz [.ref h, .int i, .int x]) (kQi (dC, dI) vwCl (wBs h a1 a2 a3 a4 a5 a6 cb ci b) (tB cb ci) sz (rRead i x b) (wBs h a1 a2 a3 a4 a5 a6 cb ci (b))) 0 0 (va_A (wBs h a1 a2 a3 a4 a5 a6 cb ci b) sz) := by
  obtain ⟨tp, tl, vo, np, rp, rl, rc, sb, sa⟩ := b
  obtain ⟨htl, hnp, hrc, hsb, hsa, hrow⟩ := hb
  rcases rOf_or (isR np sb rp rl) i rc 0 0 rc (by omega) (by omega) with hN | ⟨r, hr, hN⟩
  · have e9 : rRead i x (tp, tl, vo, np, rp, rl, rc, sb, sa) = -1 := by dsimp only [rRead]; rw [if_pos hN]
    rw [e9]
    exact c_readN l dC dI h a1 a2 a3 a4 a5 a6 cb ci tp tl vo np rp rl rc sb sa sz i x hnp hsb hrc hrow hN
  · have e9 : rRead i x (tp, tl, vo, np, rp, rl, rc, sb, sa) = rdW vo rp rl r x := by dsimp only [rRead]; rw [hN, if_neg (nI_nm1 (by omega)), nI_tn (by omega)]
    rw [e9]
    exact c_read l dC dI h a1 a2 a3 a4 a5 a6 cb ci tp tl vo np rp rl rc sb sa sz i x hnp hsb hrc hrow r hr hN
end
section
abbrev wM (g m1 m2 m3 m4 m5 m6 m7 m8 m9 m10 m11 m12 m13 : Nat) (ci : ClassId) (mt : Nat → Nat) (tl rc kp : Nat) (ms mi ml mb mf mo my : Nat → Nat) (wr us : Nat) (md mu fi : Nat → Nat) (sp : Nat → Int32) (sq : Nat → Nat) : va_W :=
  [(g, .inr (1, [.int (nI 0), .ref m1, .int (nI tl), .int (nI rc), .int (nI kp), .ref m2, .ref m3, .ref m4, .ref m5, .ref m6, .ref m7, .ref m8, .int (nI wr), .int (nI us), .ref m9, .ref m10, .ref m11, .ref m12, .ref m13])), (m1, .inl (ci, 300, .inl (nA mt))), (m2, .inl (ci, 200, .inl (nA ms))), (m3, .inl (ci, 200, .inl (nA mi))), (m4, .inl (ci, 200, .inl (nA ml))), (m5, .inl (ci, 200, .inl (nA mb))), (m6, .inl (ci, 200, .inl (nA mf))), (m7, .inl (ci, 200, .inl (nA mo))), (m8, .inl (ci, 4480, .inl (nA my))), (m9, .inl (ci, 4480, .inl (nA md))), (m10, .inl (ci, 80, .inl (nA mu))), (m11, .inl (ci, 80, .inl (nA fi))), (m12, .inl (ci, 80, .inl sp)), (m13, .inl (ci, 80, .inl (nA sq)))]
abbrev tM (ci : ClassId) : List (ClassId × FieldType) := [(ci, .int)]
set_option maxHeartbeats 4000000 in
set_option maxRecDepth 100000 in
theorem r_room (l : Launch) (dC : Nat → ClassId) (dI : Nat → Nat → Nat) (g m1 m2 m3 m4 m5 m6 m7 m8 m9 m10 m11 m12 m13 : Nat) (ci : ClassId) (mt : Nat → Nat) (tl rc kp : Nat) (ms mi ml mb mf mo my : Nat → Nat) (np : Nat) (md mu fi : Nat → Nat) (sp : Nat → Int32) (sq : Nat → Nat) (sz : Nat) (hnp : np ≤ 4480) : Met l yM_room wsM_room ({ frames := 0, cells := 0, slots := 0, locals := 0 }) (kPre (dC, dI) vwCl (wM g m1 m2 m3 m4 m5 m6 m7 m8 m9 m10 m11 m12 m13 ci mt tl rc kp ms mi ml mb mf mo my (np / 56) (np % 56) md mu fi sp sq) (tM ci) sz [.ref g]) (kQi (dC, dI) vwCl (wM g m1 m2 m3 m4 m5 m6 m7 m8 m9 m10 m11 m12 m13 ci mt tl rc kp ms mi ml mb mf mo my (np / 56) (np % 56) md mu fi sp sq) (tM ci) sz (nI (4480 - np)) (wM g m1 m2 m3 m4 m5 m6 m7 m8 m9 m10 m11 m12 m13 ci mt tl rc kp ms mi ml mb mf mo my (np / 56) (np % 56) md mu fi sp sq)) 0 0 (va_A (wM g m1 m2 m3 m4 m5 m6 m7 m8 m9 m10 m11 m12 m13 ci mt tl rc kp ms mi ml mb mf mo my (np / 56) (np % 56) md mu fi sp sq) sz) := by
  refine kM_i (cc := cM_room) (maxL := 1) (by decide) rfl (Nat.le_of_ble_eq_true rfl) ?_
  intro p e s m below meth c A Q ls H locs S hP hK hD hS hA hl hret
  obtain ⟨hx, hb, hml, hown, hts⟩ := id S
  have hin1 : ∀ w ∈ u_ws RX1 TX1 19, w ∈ wsM_room := fun _ h => List.mem_cons_of_mem _ (List.mem_append_right _ h)
  have lkf56 := hts (.fieldLink RX1 56 "BlockTapeModel" "written" "I") (by decide +kernel)
  have lkf59 := hts (.fieldLink RX1 59 "BlockTapeModel" "used" "I") (by decide +kernel)
  have hl : lv_has ls 1 [(0, .ref g)] := hl
  refine lv_bipush (v := nI 56) hx hb dM_room_0 (by decide) ?_
  refine lv_bipush (v := nI 80) hx hb dM_room_2 (by decide) ?_
  refine lv_aload_n hx hb dM_room_4 rfl (lv_at hl 0 rfl) ?_
  refine va_get (D := (dC, dI)) (ci := 1) (v := .int (nI (np / 56))) (C := RX1) (T := TX1) (N := 19) hx hb hts hin1 hown hK hP 0 rfl rfl 12 (by decide) lkf56 (fun _ h9 => h9) rfl dM_room_5 ?_
  refine lv_isub hx hb dM_room_8 ?_
  refine kv_top (show _ = nI (80 - (np / 56)) from pk_sub (by omega)) ?_
  refine lv_imul hx hb dM_room_9 ?_
  refine kv_top (show _ = nI (56 * (80 - (np / 56))) from pk_mul _ _) ?_
  refine lv_aload_n hx hb dM_room_10 rfl (lv_at hl 0 rfl) ?_
  refine va_get (D := (dC, dI)) (ci := 1) (v := .int (nI (np % 56))) (C := RX1) (T := TX1) (N := 19) hx hb hts hin1 hown hK hP 0 rfl rfl 13 (by decide) lkf59 (fun _ h9 => h9) rfl dM_room_11 ?_
  refine lv_isub hx hb dM_room_14 ?_
  refine kv_top (show _ = nI ((56 * (80 - (np / 56))) - (np % 56)) from pk_sub (by omega)) ?_
  refine kv_top (show _ = nI (4480 - np) from (by rw [show 56 * (80 - (np / 56)) - (np % 56) = 4480 - np by omega])) ?_
  exact hret _ _ _ _ hP hD hS dM_room_15
set_option maxHeartbeats 4000000 in
set_option maxRecDepth 100000 in
theorem r_write (l : Launch) (dC : Nat → ClassId) (dI : Nat → Nat → Nat) (g m1 m2 m3 m4 m5 m6 m7 m8 m9 m10 m11 m12 m13 : Nat) (ci : ClassId) (mt : Nat → Nat) (tl rc kp : Nat) (ms mi ml mb mf mo my : Nat → Nat) (wr us : Nat) (md mu fi : Nat → Nat) (sp : Nat → Int32) (sq : Nat → Nat) (sz : Nat) (hwr : wr < 80) : Met l yM_write wsM_write ({ frames := 0, cells := 0, slots := 0, locals := 0 }) (kPre (dC, dI) vwCl (wM g m1 m2 m3 m4 m5 m6 m7 m8 m9 m10 m11 m12 m13 ci mt tl rc kp ms mi ml mb mf mo my wr us md mu fi sp sq) (tM ci) sz [.ref g]) (kQv (dC, dI) vwCl (wM g m1 m2 m3 m4 m5 m6 m7 m8 m9 m10 m11 m12 m13 ci mt tl rc kp ms mi ml mb mf mo my wr us md mu fi sp sq) (tM ci) sz (wM g m1 m2 m3 m4 m5 m6 m7 m8 m9 m10 m11 m12 m13 ci mt tl rc kp ms mi ml mb mf mo my (wr + 1) 0 md (updN mu wr us) fi sp sq)) 0 0 (va_A (wM g m1 m2 m3 m4 m5 m6 m7 m8 m9 m10 m11 m12 m13 ci mt tl rc kp ms mi ml mb mf mo my wr us md mu fi sp sq) sz) := by
  refine kM_v (cc := cM_write) (maxL := 1) (by decide) rfl (Nat.le_of_ble_eq_true rfl) ?_
  intro p e s m below meth c A Q ls H locs S hP hK hD hS hA hl hret
  obtain ⟨hx, hb, hml, hown, hts⟩ := id S
  have hin1 : ∀ w ∈ u_ws RX1 TX1 19, w ∈ wsM_write := fun _ h => List.mem_cons_of_mem _ (List.mem_append_right _ h)
  have lkf37 := hts (.fieldLink RX1 37 "BlockTapeModel" "uses" "[I") (by decide +kernel)
  have lkf56 := hts (.fieldLink RX1 56 "BlockTapeModel" "written" "I") (by decide +kernel)
  have lkf59 := hts (.fieldLink RX1 59 "BlockTapeModel" "used" "I") (by decide +kernel)
  have hl : lv_has ls 1 [(0, .ref g)] := hl
  refine lv_aload_n hx hb dM_write_0 rfl (lv_at hl 0 rfl) ?_
  refine va_get (D := (dC, dI)) (ci := 1) (v := .ref m10) (C := RX1) (T := TX1) (N := 19) hx hb hts hin1 hown hK hP 0 rfl rfl 15 (by decide) lkf37 (fun _ h9 => h9) rfl dM_write_1 ?_
  refine lv_aload_n hx hb dM_write_4 rfl (lv_at hl 0 rfl) ?_
  refine va_get (D := (dC, dI)) (ci := 1) (v := .int (nI wr)) (C := RX1) (T := TX1) (N := 19) hx hb hts hin1 hown hK hP 0 rfl rfl 12 (by decide) lkf56 (fun _ h9 => h9) rfl dM_write_5 ?_
  refine lv_aload_n hx hb dM_write_8 rfl (lv_at hl 0 rfl) ?_
  refine va_get (D := (dC, dI)) (ci := 1) (v := .int (nI us)) (C := RX1) (T := TX1) (N := 19) hx hb hts hin1 hown hK hP 0 rfl rfl 13 (by decide) lkf59 (fun _ h9 => h9) rfl dM_write_9 ?_
  refine ka_iastN hx hb hK hP hD hS 10 0 rfl rfl (k := wr) (x := us) (by omega) (by decide) dM_write_12 (fun H locs hP hD hS => ?_)
  have hP : va_P (dC, dI) vwCl (wM g m1 m2 m3 m4 m5 m6 m7 m8 m9 m10 m11 m12 m13 ci mt tl rc kp ms mi ml mb mf mo my wr us md (updN mu wr us) fi sp sq) H := hP
  have hD : va_D A (wM g m1 m2 m3 m4 m5 m6 m7 m8 m9 m10 m11 m12 m13 ci mt tl rc kp ms mi ml mb mf mo my wr us md (updN mu wr us) fi sp sq) := hD
  refine lv_aload_n hx hb dM_write_13 rfl (lv_at hl 0 rfl) ?_
  refine lv_dup hx hb dM_write_14 rfl ?_
  refine va_get (D := (dC, dI)) (ci := 1) (v := .int (nI wr)) (C := RX1) (T := TX1) (N := 19) hx hb hts hin1 hown hK hP 0 rfl rfl 12 (by decide) lkf56 (fun _ h9 => h9) rfl dM_write_15 ?_
  refine lv_iconst (v := nI 1) hx hb dM_write_18 (by decide) ?_
  refine lv_iadd hx hb dM_write_19 ?_
  refine kv_top (show _ = nI (wr + 1) from nI_add _ _) ?_
  refine va_put (D := (dC, dI)) (ci := 1) (v := .int (nI (wr + 1))) (ty := .int) (C := RX1) (T := TX1) (N := 19) hx hb hts hin1 tyX1 tyX1_ok nmX1 hown hK hP hD hS 0 rfl rfl 12 (by decide) lkf56 (fun _ h9 => h9) rfl (by decide +kernel) rfl rfl (Nat.le_of_ble_eq_true rfl) dM_write_20 (fun H locs hP hD hS => ?_)
  have hP : va_P (dC, dI) vwCl (wM g m1 m2 m3 m4 m5 m6 m7 m8 m9 m10 m11 m12 m13 ci mt tl rc kp ms mi ml mb mf mo my (wr + 1) us md (updN mu wr us) fi sp sq) H := hP
  have hD : va_D A (wM g m1 m2 m3 m4 m5 m6 m7 m8 m9 m10 m11 m12 m13 ci mt tl rc kp ms mi ml mb mf mo my (wr + 1) us md (updN mu wr us) fi sp sq) := hD
  refine lv_aload_n hx hb dM_write_23 rfl (lv_at hl 0 rfl) ?_
  refine lv_iconst (v := nI 0) hx hb dM_write_24 (by decide) ?_
  refine va_put (D := (dC, dI)) (ci := 1) (v := .int (nI 0)) (ty := .int) (C := RX1) (T := TX1) (N := 19) hx hb hts hin1 tyX1 tyX1_ok nmX1 hown hK hP hD hS 0 rfl rfl 13 (by decide) lkf59 (fun _ h9 => h9) rfl (by decide +kernel) rfl rfl (Nat.le_of_ble_eq_true rfl) dM_write_25 (fun H locs hP hD hS => ?_)
  have hP : va_P (dC, dI) vwCl (wM g m1 m2 m3 m4 m5 m6 m7 m8 m9 m10 m11 m12 m13 ci mt tl rc kp ms mi ml mb mf mo my (wr + 1) 0 md (updN mu wr us) fi sp sq) H := hP
  have hD : va_D A (wM g m1 m2 m3 m4 m5 m6 m7 m8 m9 m10 m11 m12 m13 ci mt tl rc kp ms mi ml mb mf mo my (wr + 1) 0 md (updN mu wr us) fi sp sq) := hD
  exact hret _ _ _ _ hP hD hS dM_write_28
set_option maxHeartbeats 4000000 in
set_option maxRecDepth 100000 in
theorem r_add0 (l : Launch) (dC : Nat → ClassId) (dI : Nat → Nat → Nat) (g m1 m2 m3 m4 m5 m6 m7 m8 m9 m10 m11 m12 m13 : Nat) (ci : ClassId) (mt : Nat → Nat) (tl rc kp : Nat) (ms mi ml mb mf mo my : Nat → Nat) (np : Nat) (md mu fi : Nat → Nat) (sp : Nat → Int32) (sq : Nat → Nat) (sz : Nat) (v : Int32) (hnp : np < 4480) : Met l yM_add wsM_add ({ frames := 1, cells := 0, slots := 0, locals := 20 }) (kPre (dC, dI) vwCl (wM g m1 m2 m3 m4 m5 m6 m7 m8 m9 m10 m11 m12 m13 ci mt tl rc kp ms mi ml mb mf mo my (np / 56) (np % 56) md mu fi sp sq) (tM ci) sz [.ref g, .int v, .int (nI 0)]) (kQv (dC, dI) vwCl (wM g m1 m2 m3 m4 m5 m6 m7 m8 m9 m10 m11 m12 m13 ci mt tl rc kp ms mi ml mb mf mo my (np / 56) (np % 56) md mu fi sp sq) (tM ci) sz (wM g m1 m2 m3 m4 m5 m6 m7 m8 m9 m10 m11 m12 m13 ci mt tl rc kp ms mi ml mb mf mo my ((np + 1) / 56) ((np + 1) % 56) (updN md np (lb v)) (aU mu np) (aG fi np) (aS sp np) sq)) 0 0 (va_A (wM g m1 m2 m3 m4 m5 m6 m7 m8 m9 m10 m11 m12 m13 ci mt tl rc kp ms mi ml mb mf mo my (np / 56) (np % 56) md mu fi sp sq) sz) := by
  refine kM_v (cc := cM_add) (maxL := 3) (by decide) rfl (Nat.le_of_ble_eq_true rfl) ?_
  intro p e s m below meth c A Q ls H locs S hP hK hD hS hA hl hret
  obtain ⟨hx, hb, hml, hown, hts⟩ := id S
  have hin1 : ∀ w ∈ u_ws RX1 TX1 19, w ∈ wsM_add := fun _ h => List.mem_cons_of_mem _ (List.mem_append_right _ h)
  have lkf59 := hts (.fieldLink RX1 59 "BlockTapeModel" "used" "I") (by decide +kernel)
  have lkf34 := hts (.fieldLink RX1 34 "BlockTapeModel" "data" "[I") (by decide +kernel)
  have lkf56 := hts (.fieldLink RX1 56 "BlockTapeModel" "written" "I") (by decide +kernel)
  have lkf40 := hts (.fieldLink RX1 40 "BlockTapeModel" "first" "[I") (by decide +kernel)
  have lkf43 := hts (.fieldLink RX1 43 "BlockTapeModel" "spoilt" "[I") (by decide +kernel)
  have hl : lv_has ls 3 [(0, .ref g), (1, .int v), (2, .int (nI 0))] := hl
  refine lv_aload_n hx hb dM_add_0 rfl (lv_at hl 0 rfl) ?_
  refine va_get (D := (dC, dI)) (ci := 1) (v := .int (nI (np % 56))) (C := RX1) (T := TX1) (N := 19) hx hb hts hin1 hown hK hP 0 rfl rfl 13 (by decide) lkf59 (fun _ h9 => h9) rfl dM_add_1 ?_
  refine lv_if_ne (tgt := 29) hx hb dM_add_4 (by decide) (fun c_4 => ?_) (fun c_4 => ?_)
  · have c_4 := kmt (kn_eq0 (by omega)).mpr c_4
    have hP : va_P (dC, dI) vwCl (wM g m1 m2 m3 m4 m5 m6 m7 m8 m9 m10 m11 m12 m13 ci mt tl rc kp ms mi ml mb mf mo my (np / 56) (np % 56) md mu (aG fi np) (aS sp np) sq) H := by rw [aS, if_neg c_4, aG, if_neg c_4]; exact hP
    have hD : va_D A (wM g m1 m2 m3 m4 m5 m6 m7 m8 m9 m10 m11 m12 m13 ci mt tl rc kp ms mi ml mb mf mo my (np / 56) (np % 56) md mu (aG fi np) (aS sp np) sq) := by rw [aS, if_neg c_4, aG, if_neg c_4]; exact hD
    refine lv_iload_n hx hb dM_add_29 rfl (lv_at hl 2 rfl) ?_
    refine lv_if_eq (tgt := 61) hx hb dM_add_30 (by decide) (fun c_30 => ?_) (fun c_30 => ?_)
    · have c_30 := (kn_eq0 (by omega)).mp c_30
      refine lv_aload_n hx hb dM_add_61 rfl (lv_at hl 0 rfl) ?_
      refine va_get (D := (dC, dI)) (ci := 1) (v := .ref m9) (C := RX1) (T := TX1) (N := 19) hx hb hts hin1 hown hK hP 0 rfl rfl 14 (by decide) lkf34 (fun _ h9 => h9) rfl dM_add_62 ?_
      refine lv_bipush (v := nI 56) hx hb dM_add_65 (by decide) ?_
      refine lv_aload_n hx hb dM_add_67 rfl (lv_at hl 0 rfl) ?_
      refine va_get (D := (dC, dI)) (ci := 1) (v := .int (nI (np / 56))) (C := RX1) (T := TX1) (N := 19) hx hb hts hin1 hown hK hP 0 rfl rfl 12 (by decide) lkf56 (fun _ h9 => h9) rfl dM_add_68 ?_
      refine lv_imul hx hb dM_add_71 ?_
      refine kv_top (show _ = nI (56 * (np / 56)) from pk_mul _ _) ?_
      refine lv_aload_n hx hb dM_add_72 rfl (lv_at hl 0 rfl) ?_
      refine va_get (D := (dC, dI)) (ci := 1) (v := .int (nI (np % 56))) (C := RX1) (T := TX1) (N := 19) hx hb hts hin1 hown hK hP 0 rfl rfl 13 (by decide) lkf59 (fun _ h9 => h9) rfl dM_add_73 ?_
      refine lv_iadd hx hb dM_add_76 ?_
      refine kv_top (show _ = nI ((56 * (np / 56)) + (np % 56)) from nI_add _ _) ?_
      refine kv_top (show _ = nI np from (by rw [show (56 * (np / 56)) + (np % 56) = np by omega])) ?_
      refine lv_iload_n hx hb dM_add_77 rfl (lv_at hl 1 rfl) ?_
      refine lv_sipush (v := nI 255) hx hb dM_add_78 (by decide) ?_
      refine lv_iand hx hb dM_add_81 ?_
      refine kv_top (show _ = nI (lb v) from and255 v) ?_
      refine ka_iastN hx hb hK hP hD hS 9 0 rfl rfl (k := np) (x := lb v) (by omega) (by decide) dM_add_82 (fun H locs hP hD hS => ?_)
      have hP : va_P (dC, dI) vwCl (wM g m1 m2 m3 m4 m5 m6 m7 m8 m9 m10 m11 m12 m13 ci mt tl rc kp ms mi ml mb mf mo my (np / 56) (np % 56) (updN md np (lb v)) mu (aG fi np) (aS sp np) sq) H := hP
      have hD : va_D A (wM g m1 m2 m3 m4 m5 m6 m7 m8 m9 m10 m11 m12 m13 ci mt tl rc kp ms mi ml mb mf mo my (np / 56) (np % 56) (updN md np (lb v)) mu (aG fi np) (aS sp np) sq) := hD
      refine lv_aload_n hx hb dM_add_83 rfl (lv_at hl 0 rfl) ?_
      refine lv_dup hx hb dM_add_84 rfl ?_
      refine va_get (D := (dC, dI)) (ci := 1) (v := .int (nI (np % 56))) (C := RX1) (T := TX1) (N := 19) hx hb hts hin1 hown hK hP 0 rfl rfl 13 (by decide) lkf59 (fun _ h9 => h9) rfl dM_add_85 ?_
      refine lv_iconst (v := nI 1) hx hb dM_add_88 (by decide) ?_
      refine lv_iadd hx hb dM_add_89 ?_
      refine kv_top (show _ = nI ((np % 56) + 1) from nI_add _ _) ?_
      refine va_put (D := (dC, dI)) (ci := 1) (v := .int (nI ((np % 56) + 1))) (ty := .int) (C := RX1) (T := TX1) (N := 19) hx hb hts hin1 tyX1 tyX1_ok nmX1 hown hK hP hD hS 0 rfl rfl 13 (by decide) lkf59 (fun _ h9 => h9) rfl (by decide +kernel) rfl rfl (Nat.le_of_ble_eq_true rfl) dM_add_90 (fun H locs hP hD hS => ?_)
      have hP : va_P (dC, dI) vwCl (wM g m1 m2 m3 m4 m5 m6 m7 m8 m9 m10 m11 m12 m13 ci mt tl rc kp ms mi ml mb mf mo my (np / 56) ((np % 56) + 1) (updN md np (lb v)) mu (aG fi np) (aS sp np) sq) H := hP
      have hD : va_D A (wM g m1 m2 m3 m4 m5 m6 m7 m8 m9 m10 m11 m12 m13 ci mt tl rc kp ms mi ml mb mf mo my (np / 56) ((np % 56) + 1) (updN md np (lb v)) mu (aG fi np) (aS sp np) sq) := hD
      refine lv_aload_n hx hb dM_add_93 rfl (lv_at hl 0 rfl) ?_
      refine va_get (D := (dC, dI)) (ci := 1) (v := .int (nI ((np % 56) + 1))) (C := RX1) (T := TX1) (N := 19) hx hb hts hin1 hown hK hP 0 rfl rfl 13 (by decide) lkf59 (fun _ h9 => h9) rfl dM_add_94 ?_
      refine lv_bipush (v := nI 56) hx hb dM_add_97 (by decide) ?_
      refine lv_icmp_ne (tgt := 106) hx hb dM_add_99 (by decide) (fun c_99 => ?_) (fun c_99 => ?_)
      · have c_99 := kmt (nI_eq (by omega) (by omega)).mpr c_99
        have hP : va_P (dC, dI) vwCl (wM g m1 m2 m3 m4 m5 m6 m7 m8 m9 m10 m11 m12 m13 ci mt tl rc kp ms mi ml mb mf mo my ((np + 1) / 56) ((np + 1) % 56) (updN md np (lb v)) (aU mu np) (aG fi np) (aS sp np) sq) H := by rw [aU, if_neg (show ¬ np % 56 + 1 = 56 by omega), show (np + 1) / 56 = np / 56 by omega, show (np + 1) % 56 = (np % 56) + 1 by omega]; exact hP
        have hD : va_D A (wM g m1 m2 m3 m4 m5 m6 m7 m8 m9 m10 m11 m12 m13 ci mt tl rc kp ms mi ml mb mf mo my ((np + 1) / 56) ((np + 1) % 56) (updN md np (lb v)) (aU mu np) (aG fi np) (aS sp np) sq) := by rw [aU, if_neg (show ¬ np % 56 + 1 = 56 by omega), show (np + 1) / 56 = np / 56 by omega, show (np + 1) % 56 = (np % 56) + 1 by omega]; exact hD
        exact hret _ _ _ _ hP hD hS dM_add_106
      · have c_99 := (nI_eq (by omega) (by omega)).mp c_99
        refine lv_aload_n hx hb dM_add_102 rfl (lv_at hl 0 rfl) ?_
        refine kc_vv (WR := []) (As := []) (rest := []) ⟨hx, hb, hml, hown, hts⟩ (r_write l dC dI g m1 m2 m3 m4 m5 m6 m7 m8 m9 m10 m11 m12 m13 ci mt tl rc kp ms mi ml mb mf mo my (np / 56) ((np % 56) + 1) (updN md np (lb v)) mu (aG fi np) (aS sp np) sq H.size (by omega)) (cwV 0 hts gM_add_M_write rfl rfl rfl (by decide +kernel) ⟨Nat.le_of_ble_eq_true rfl, Nat.le_of_ble_eq_true rfl⟩) hK hP hD hS hA [0, 1, 2, 3, 4, 5, 6, 7, 8, 9, 10, 11, 12, 13] [] [0] rfl rfl (by decide) (by decide) (by decide) rfl 0 1 rfl rfl rfl rfl hl.1 rfl (Nat.le_of_ble_eq_true rfl) dM_add_103 ⟨Nat.zero_le _, Nat.zero_le _⟩ (fun H locs hP hD hS => ?_)
        have hP : va_P (dC, dI) vwCl (wM g m1 m2 m3 m4 m5 m6 m7 m8 m9 m10 m11 m12 m13 ci mt tl rc kp ms mi ml mb mf mo my ((np / 56) + 1) 0 (updN md np (lb v)) (updN mu (np / 56) ((np % 56) + 1)) (aG fi np) (aS sp np) sq) H := hP
        have hD : va_D A (wM g m1 m2 m3 m4 m5 m6 m7 m8 m9 m10 m11 m12 m13 ci mt tl rc kp ms mi ml mb mf mo my ((np / 56) + 1) 0 (updN md np (lb v)) (updN mu (np / 56) ((np % 56) + 1)) (aG fi np) (aS sp np) sq) := hD
        have hP : va_P (dC, dI) vwCl (wM g m1 m2 m3 m4 m5 m6 m7 m8 m9 m10 m11 m12 m13 ci mt tl rc kp ms mi ml mb mf mo my ((np + 1) / 56) ((np + 1) % 56) (updN md np (lb v)) (aU mu np) (aG fi np) (aS sp np) sq) H := by rw [aU, if_pos (show np % 56 + 1 = 56 by omega), show (np + 1) / 56 = (np / 56) + 1 by omega, show (np + 1) % 56 = 0 by omega]; exact hP
        have hD : va_D A (wM g m1 m2 m3 m4 m5 m6 m7 m8 m9 m10 m11 m12 m13 ci mt tl rc kp ms mi ml mb mf mo my ((np + 1) / 56) ((np + 1) % 56) (updN md np (lb v)) (aU mu np) (aG fi np) (aS sp np) sq) := by rw [aU, if_pos (show np % 56 + 1 = 56 by omega), show (np + 1) / 56 = (np / 56) + 1 by omega, show (np + 1) % 56 = 0 by omega]; exact hD
        exact hret _ _ _ _ hP hD hS dM_add_106
    · have c_30 := kmt (kn_eq0 (by omega)).mpr c_30
      exact absurd rfl c_30
  · have c_4 := (kn_eq0 (by omega)).mp c_4
    refine lv_aload_n hx hb dM_add_7 rfl (lv_at hl 0 rfl) ?_
    refine va_get (D := (dC, dI)) (ci := 1) (v := .ref m11) (C := RX1) (T := TX1) (N := 19) hx hb hts hin1 hown hK hP 0 rfl rfl 16 (by decide) lkf40 (fun _ h9 => h9) rfl dM_add_8 ?_
    refine lv_aload_n hx hb dM_add_11 rfl (lv_at hl 0 rfl) ?_
    refine va_get (D := (dC, dI)) (ci := 1) (v := .int (nI (np / 56))) (C := RX1) (T := TX1) (N := 19) hx hb hts hin1 hown hK hP 0 rfl rfl 12 (by decide) lkf56 (fun _ h9 => h9) rfl dM_add_12 ?_
    refine lv_sipush (v := nI 255) hx hb dM_add_15 (by decide) ?_
    refine ka_iastN hx hb hK hP hD hS 11 0 rfl rfl (k := np / 56) (x := 255) (by omega) (by decide) dM_add_18 (fun H locs hP hD hS => ?_)
    have hP : va_P (dC, dI) vwCl (wM g m1 m2 m3 m4 m5 m6 m7 m8 m9 m10 m11 m12 m13 ci mt tl rc kp ms mi ml mb mf mo my (np / 56) (np % 56) md mu (updN fi (np / 56) 255) sp sq) H := hP
    have hD : va_D A (wM g m1 m2 m3 m4 m5 m6 m7 m8 m9 m10 m11 m12 m13 ci mt tl rc kp ms mi ml mb mf mo my (np / 56) (np % 56) md mu (updN fi (np / 56) 255) sp sq) := hD
    refine lv_aload_n hx hb dM_add_19 rfl (lv_at hl 0 rfl) ?_
    refine va_get (D := (dC, dI)) (ci := 1) (v := .ref m12) (C := RX1) (T := TX1) (N := 19) hx hb hts hin1 hown hK hP 0 rfl rfl 17 (by decide) lkf43 (fun _ h9 => h9) rfl dM_add_20 ?_
    refine lv_aload_n hx hb dM_add_23 rfl (lv_at hl 0 rfl) ?_
    refine va_get (D := (dC, dI)) (ci := 1) (v := .int (nI (np / 56))) (C := RX1) (T := TX1) (N := 19) hx hb hts hin1 hown hK hP 0 rfl rfl 12 (by decide) lkf56 (fun _ h9 => h9) rfl dM_add_24 ?_
    refine lv_iconst (v := (-1)) hx hb dM_add_27 (by decide) ?_
    refine ka_iast hx hb hK hP hD hS 12 0 rfl rfl (k := np / 56) (x := (-1)) (by omega) (by decide) dM_add_28 (fun H locs hP hD hS => ?_)
    have hP : va_P (dC, dI) vwCl (wM g m1 m2 m3 m4 m5 m6 m7 m8 m9 m10 m11 m12 m13 ci mt tl rc kp ms mi ml mb mf mo my (np / 56) (np % 56) md mu (updN fi (np / 56) 255) (upd sp (np / 56) ((-1))) sq) H := hP
    have hD : va_D A (wM g m1 m2 m3 m4 m5 m6 m7 m8 m9 m10 m11 m12 m13 ci mt tl rc kp ms mi ml mb mf mo my (np / 56) (np % 56) md mu (updN fi (np / 56) 255) (upd sp (np / 56) ((-1))) sq) := hD
    have hP : va_P (dC, dI) vwCl (wM g m1 m2 m3 m4 m5 m6 m7 m8 m9 m10 m11 m12 m13 ci mt tl rc kp ms mi ml mb mf mo my (np / 56) (np % 56) md mu (aG fi np) (aS sp np) sq) H := by rw [aS, if_pos c_4, aG, if_pos c_4]; exact hP
    have hD : va_D A (wM g m1 m2 m3 m4 m5 m6 m7 m8 m9 m10 m11 m12 m13 ci mt tl rc kp ms mi ml mb mf mo my (np / 56) (np % 56) md mu (aG fi np) (aS sp np) sq) := by rw [aS, if_pos c_4, aG, if_pos c_4]; exact hD
    refine lv_iload_n hx hb dM_add_29 rfl (lv_at hl 2 rfl) ?_
    refine lv_if_eq (tgt := 61) hx hb dM_add_30 (by decide) (fun c_30 => ?_) (fun c_30 => ?_)
    · have c_30 := (kn_eq0 (by omega)).mp c_30
      refine lv_aload_n hx hb dM_add_61 rfl (lv_at hl 0 rfl) ?_
      refine va_get (D := (dC, dI)) (ci := 1) (v := .ref m9) (C := RX1) (T := TX1) (N := 19) hx hb hts hin1 hown hK hP 0 rfl rfl 14 (by decide) lkf34 (fun _ h9 => h9) rfl dM_add_62 ?_
      refine lv_bipush (v := nI 56) hx hb dM_add_65 (by decide) ?_
      refine lv_aload_n hx hb dM_add_67 rfl (lv_at hl 0 rfl) ?_
      refine va_get (D := (dC, dI)) (ci := 1) (v := .int (nI (np / 56))) (C := RX1) (T := TX1) (N := 19) hx hb hts hin1 hown hK hP 0 rfl rfl 12 (by decide) lkf56 (fun _ h9 => h9) rfl dM_add_68 ?_
      refine lv_imul hx hb dM_add_71 ?_
      refine kv_top (show _ = nI (56 * (np / 56)) from pk_mul _ _) ?_
      refine lv_aload_n hx hb dM_add_72 rfl (lv_at hl 0 rfl) ?_
      refine va_get (D := (dC, dI)) (ci := 1) (v := .int (nI (np % 56))) (C := RX1) (T := TX1) (N := 19) hx hb hts hin1 hown hK hP 0 rfl rfl 13 (by decide) lkf59 (fun _ h9 => h9) rfl dM_add_73 ?_
      refine lv_iadd hx hb dM_add_76 ?_
      refine kv_top (show _ = nI ((56 * (np / 56)) + (np % 56)) from nI_add _ _) ?_
      refine kv_top (show _ = nI np from (by rw [show (56 * (np / 56)) + (np % 56) = np by omega])) ?_
      refine lv_iload_n hx hb dM_add_77 rfl (lv_at hl 1 rfl) ?_
      refine lv_sipush (v := nI 255) hx hb dM_add_78 (by decide) ?_
      refine lv_iand hx hb dM_add_81 ?_
      refine kv_top (show _ = nI (lb v) from and255 v) ?_
      refine ka_iastN hx hb hK hP hD hS 9 0 rfl rfl (k := np) (x := lb v) (by omega) (by decide) dM_add_82 (fun H locs hP hD hS => ?_)
      have hP : va_P (dC, dI) vwCl (wM g m1 m2 m3 m4 m5 m6 m7 m8 m9 m10 m11 m12 m13 ci mt tl rc kp ms mi ml mb mf mo my (np / 56) (np % 56) (updN md np (lb v)) mu (aG fi np) (aS sp np) sq) H := hP
      have hD : va_D A (wM g m1 m2 m3 m4 m5 m6 m7 m8 m9 m10 m11 m12 m13 ci mt tl rc kp ms mi ml mb mf mo my (np / 56) (np % 56) (updN md np (lb v)) mu (aG fi np) (aS sp np) sq) := hD
      refine lv_aload_n hx hb dM_add_83 rfl (lv_at hl 0 rfl) ?_
      refine lv_dup hx hb dM_add_84 rfl ?_
      refine va_get (D := (dC, dI)) (ci := 1) (v := .int (nI (np % 56))) (C := RX1) (T := TX1) (N := 19) hx hb hts hin1 hown hK hP 0 rfl rfl 13 (by decide) lkf59 (fun _ h9 => h9) rfl dM_add_85 ?_
      refine lv_iconst (v := nI 1) hx hb dM_add_88 (by decide) ?_
      refine lv_iadd hx hb dM_add_89 ?_
      refine kv_top (show _ = nI ((np % 56) + 1) from nI_add _ _) ?_
      refine va_put (D := (dC, dI)) (ci := 1) (v := .int (nI ((np % 56) + 1))) (ty := .int) (C := RX1) (T := TX1) (N := 19) hx hb hts hin1 tyX1 tyX1_ok nmX1 hown hK hP hD hS 0 rfl rfl 13 (by decide) lkf59 (fun _ h9 => h9) rfl (by decide +kernel) rfl rfl (Nat.le_of_ble_eq_true rfl) dM_add_90 (fun H locs hP hD hS => ?_)
      have hP : va_P (dC, dI) vwCl (wM g m1 m2 m3 m4 m5 m6 m7 m8 m9 m10 m11 m12 m13 ci mt tl rc kp ms mi ml mb mf mo my (np / 56) ((np % 56) + 1) (updN md np (lb v)) mu (aG fi np) (aS sp np) sq) H := hP
      have hD : va_D A (wM g m1 m2 m3 m4 m5 m6 m7 m8 m9 m10 m11 m12 m13 ci mt tl rc kp ms mi ml mb mf mo my (np / 56) ((np % 56) + 1) (updN md np (lb v)) mu (aG fi np) (aS sp np) sq) := hD
      refine lv_aload_n hx hb dM_add_93 rfl (lv_at hl 0 rfl) ?_
      refine va_get (D := (dC, dI)) (ci := 1) (v := .int (nI ((np % 56) + 1))) (C := RX1) (T := TX1) (N := 19) hx hb hts hin1 hown hK hP 0 rfl rfl 13 (by decide) lkf59 (fun _ h9 => h9) rfl dM_add_94 ?_
      refine lv_bipush (v := nI 56) hx hb dM_add_97 (by decide) ?_
      refine lv_icmp_ne (tgt := 106) hx hb dM_add_99 (by decide) (fun c_99 => ?_) (fun c_99 => ?_)
      · have c_99 := kmt (nI_eq (by omega) (by omega)).mpr c_99
        have hP : va_P (dC, dI) vwCl (wM g m1 m2 m3 m4 m5 m6 m7 m8 m9 m10 m11 m12 m13 ci mt tl rc kp ms mi ml mb mf mo my ((np + 1) / 56) ((np + 1) % 56) (updN md np (lb v)) (aU mu np) (aG fi np) (aS sp np) sq) H := by rw [aU, if_neg (show ¬ np % 56 + 1 = 56 by omega), show (np + 1) / 56 = np / 56 by omega, show (np + 1) % 56 = (np % 56) + 1 by omega]; exact hP
        have hD : va_D A (wM g m1 m2 m3 m4 m5 m6 m7 m8 m9 m10 m11 m12 m13 ci mt tl rc kp ms mi ml mb mf mo my ((np + 1) / 56) ((np + 1) % 56) (updN md np (lb v)) (aU mu np) (aG fi np) (aS sp np) sq) := by rw [aU, if_neg (show ¬ np % 56 + 1 = 56 by omega), show (np + 1) / 56 = np / 56 by omega, show (np + 1) % 56 = (np % 56) + 1 by omega]; exact hD
        exact hret _ _ _ _ hP hD hS dM_add_106
      · have c_99 := (nI_eq (by omega) (by omega)).mp c_99
        refine lv_aload_n hx hb dM_add_102 rfl (lv_at hl 0 rfl) ?_
        refine kc_vv (WR := []) (As := []) (rest := []) ⟨hx, hb, hml, hown, hts⟩ (r_write l dC dI g m1 m2 m3 m4 m5 m6 m7 m8 m9 m10 m11 m12 m13 ci mt tl rc kp ms mi ml mb mf mo my (np / 56) ((np % 56) + 1) (updN md np (lb v)) mu (aG fi np) (aS sp np) sq H.size (by omega)) (cwV 0 hts gM_add_M_write rfl rfl rfl (by decide +kernel) ⟨Nat.le_of_ble_eq_true rfl, Nat.le_of_ble_eq_true rfl⟩) hK hP hD hS hA [0, 1, 2, 3, 4, 5, 6, 7, 8, 9, 10, 11, 12, 13] [] [0] rfl rfl (by decide) (by decide) (by decide) rfl 0 1 rfl rfl rfl rfl hl.1 rfl (Nat.le_of_ble_eq_true rfl) dM_add_103 ⟨Nat.zero_le _, Nat.zero_le _⟩ (fun H locs hP hD hS => ?_)
        have hP : va_P (dC, dI) vwCl (wM g m1 m2 m3 m4 m5 m6 m7 m8 m9 m10 m11 m12 m13 ci mt tl rc kp ms mi ml mb mf mo my ((np / 56) + 1) 0 (updN md np (lb v)) (updN mu (np / 56) ((np % 56) + 1)) (aG fi np) (aS sp np) sq) H := hP
        have hD : va_D A (wM g m1 m2 m3 m4 m5 m6 m7 m8 m9 m10 m11 m12 m13 ci mt tl rc kp ms mi ml mb mf mo my ((np / 56) + 1) 0 (updN md np (lb v)) (updN mu (np / 56) ((np % 56) + 1)) (aG fi np) (aS sp np) sq) := hD
        have hP : va_P (dC, dI) vwCl (wM g m1 m2 m3 m4 m5 m6 m7 m8 m9 m10 m11 m12 m13 ci mt tl rc kp ms mi ml mb mf mo my ((np + 1) / 56) ((np + 1) % 56) (updN md np (lb v)) (aU mu np) (aG fi np) (aS sp np) sq) H := by rw [aU, if_pos (show np % 56 + 1 = 56 by omega), show (np + 1) / 56 = (np / 56) + 1 by omega, show (np + 1) % 56 = 0 by omega]; exact hP
        have hD : va_D A (wM g m1 m2 m3 m4 m5 m6 m7 m8 m9 m10 m11 m12 m13 ci mt tl rc kp ms mi ml mb mf mo my ((np + 1) / 56) ((np + 1) % 56) (updN md np (lb v)) (aU mu np) (aG fi np) (aS sp np) sq) := by rw [aU, if_pos (show np % 56 + 1 = 56 by omega), show (np + 1) / 56 = (np / 56) + 1 by omega, show (np + 1) % 56 = 0 by omega]; exact hD
        exact hret _ _ _ _ hP hD hS dM_add_106
    · have c_30 := kmt (kn_eq0 (by omega)).mpr c_30
      exact absurd rfl c_30
set_option maxHeartbeats 4000000 in
set_option maxRecDepth 100000 in
theorem r_add1 (l : Launch) (dC : Nat → ClassId) (dI : Nat → Nat → Nat) (g m1 m2 m3 m4 m5 m6 m7 m8 m9 m10 m11 m12 m13 : Nat) (ci : ClassId) (mt : Nat → Nat) (tl rc kp : Nat) (ms mi ml mb mf mo my : Nat → Nat) (np : Nat) (md mu fi : Nat → Nat) (sp : Nat → Int32) (sq : Nat → Nat) (sz : Nat) (v : Int32) (hnp : np < 4480) (hfi : fi (np / 56) < 256) : Met l yM_add wsM_add ({ frames := 1, cells := 0, slots := 0, locals := 20 }) (kPre (dC, dI) vwCl (wM g m1 m2 m3 m4 m5 m6 m7 m8 m9 m10 m11 m12 m13 ci mt tl rc kp ms mi ml mb mf mo my (np / 56) (np % 56) md mu fi sp sq) (tM ci) sz [.ref g, .int v, .int (nI 1)]) (kQv (dC, dI) vwCl (wM g m1 m2 m3 m4 m5 m6 m7 m8 m9 m10 m11 m12 m13 ci mt tl rc kp ms mi ml mb mf mo my (np / 56) (np % 56) md mu fi sp sq) (tM ci) sz (wM g m1 m2 m3 m4 m5 m6 m7 m8 m9 m10 m11 m12 m13 ci mt tl rc kp ms mi ml mb mf mo my ((np + 1) / 56) ((np + 1) % 56) (updN md np (lb v)) (aU mu np) (aF fi np) (aS sp np) sq)) 0 0 (va_A (wM g m1 m2 m3 m4 m5 m6 m7 m8 m9 m10 m11 m12 m13 ci mt tl rc kp ms mi ml mb mf mo my (np / 56) (np % 56) md mu fi sp sq) sz) := by
  refine kM_v (cc := cM_add) (maxL := 3) (by decide) rfl (Nat.le_of_ble_eq_true rfl) ?_
  intro p e s m below meth c A Q ls H locs S hP hK hD hS hA hl hret
  obtain ⟨hx, hb, hml, hown, hts⟩ := id S
  have hin1 : ∀ w ∈ u_ws RX1 TX1 19, w ∈ wsM_add := fun _ h => List.mem_cons_of_mem _ (List.mem_append_right _ h)
  have lkf59 := hts (.fieldLink RX1 59 "BlockTapeModel" "used" "I") (by decide +kernel)
  have lkf40 := hts (.fieldLink RX1 40 "BlockTapeModel" "first" "[I") (by decide +kernel)
  have lkf56 := hts (.fieldLink RX1 56 "BlockTapeModel" "written" "I") (by decide +kernel)
  have lkf34 := hts (.fieldLink RX1 34 "BlockTapeModel" "data" "[I") (by decide +kernel)
  have lkf43 := hts (.fieldLink RX1 43 "BlockTapeModel" "spoilt" "[I") (by decide +kernel)
  have hl : lv_has ls 3 [(0, .ref g), (1, .int v), (2, .int (nI 1))] := hl
  refine lv_aload_n hx hb dM_add_0 rfl (lv_at hl 0 rfl) ?_
  refine va_get (D := (dC, dI)) (ci := 1) (v := .int (nI (np % 56))) (C := RX1) (T := TX1) (N := 19) hx hb hts hin1 hown hK hP 0 rfl rfl 13 (by decide) lkf59 (fun _ h9 => h9) rfl dM_add_1 ?_
  refine lv_if_ne (tgt := 29) hx hb dM_add_4 (by decide) (fun c_4 => ?_) (fun c_4 => ?_)
  · have c_4 := kmt (kn_eq0 (by omega)).mpr c_4
    have hP : va_P (dC, dI) vwCl (wM g m1 m2 m3 m4 m5 m6 m7 m8 m9 m10 m11 m12 m13 ci mt tl rc kp ms mi ml mb mf mo my (np / 56) (np % 56) md mu (aG fi np) (aS sp np) sq) H := by rw [aS, if_neg c_4, aG, if_neg c_4]; exact hP
    have hD : va_D A (wM g m1 m2 m3 m4 m5 m6 m7 m8 m9 m10 m11 m12 m13 ci mt tl rc kp ms mi ml mb mf mo my (np / 56) (np % 56) md mu (aG fi np) (aS sp np) sq) := by rw [aS, if_neg c_4, aG, if_neg c_4]; exact hD
    have hag := aG_lt hfi
    refine lv_iload_n hx hb dM_add_29 rfl (lv_at hl 2 rfl) ?_
    refine lv_if_eq (tgt := 61) hx hb dM_add_30 (by decide) (fun c_30 => ?_) (fun c_30 => ?_)
    · have c_30 := (kn_eq0 (by omega)).mp c_30
      exact absurd c_30 (by decide)
    · have c_30 := kmt (kn_eq0 (by omega)).mpr c_30
      refine lv_aload_n hx hb dM_add_33 rfl (lv_at hl 0 rfl) ?_
      refine va_get (D := (dC, dI)) (ci := 1) (v := .ref m11) (C := RX1) (T := TX1) (N := 19) hx hb hts hin1 hown hK hP 0 rfl rfl 16 (by decide) lkf40 (fun _ h9 => h9) rfl dM_add_34 ?_
      refine lv_aload_n hx hb dM_add_37 rfl (lv_at hl 0 rfl) ?_
      refine va_get (D := (dC, dI)) (ci := 1) (v := .int (nI (np / 56))) (C := RX1) (T := TX1) (N := 19) hx hb hts hin1 hown hK hP 0 rfl rfl 12 (by decide) lkf56 (fun _ h9 => h9) rfl dM_add_38 ?_
      refine ka_ialdN hx hb hK hP 11 0 rfl rfl (k := np / 56) (by omega) (by decide) dM_add_41 ?_
      refine lv_sipush (v := nI 255) hx hb dM_add_42 (by decide) ?_
      refine lv_icmp_ne (tgt := 61) hx hb dM_add_45 (by decide) (fun c_45 => ?_) (fun c_45 => ?_)
      · have c_45 := kmt (nI_eq (by omega) (by omega)).mpr c_45
        have hP : va_P (dC, dI) vwCl (wM g m1 m2 m3 m4 m5 m6 m7 m8 m9 m10 m11 m12 m13 ci mt tl rc kp ms mi ml mb mf mo my (np / 56) (np % 56) md mu (aF fi np) (aS sp np) sq) H := by rw [aF, if_neg c_45]; exact hP
        have hD : va_D A (wM g m1 m2 m3 m4 m5 m6 m7 m8 m9 m10 m11 m12 m13 ci mt tl rc kp ms mi ml mb mf mo my (np / 56) (np % 56) md mu (aF fi np) (aS sp np) sq) := by rw [aF, if_neg c_45]; exact hD
        refine lv_aload_n hx hb dM_add_61 rfl (lv_at hl 0 rfl) ?_
        refine va_get (D := (dC, dI)) (ci := 1) (v := .ref m9) (C := RX1) (T := TX1) (N := 19) hx hb hts hin1 hown hK hP 0 rfl rfl 14 (by decide) lkf34 (fun _ h9 => h9) rfl dM_add_62 ?_
        refine lv_bipush (v := nI 56) hx hb dM_add_65 (by decide) ?_
        refine lv_aload_n hx hb dM_add_67 rfl (lv_at hl 0 rfl) ?_
        refine va_get (D := (dC, dI)) (ci := 1) (v := .int (nI (np / 56))) (C := RX1) (T := TX1) (N := 19) hx hb hts hin1 hown hK hP 0 rfl rfl 12 (by decide) lkf56 (fun _ h9 => h9) rfl dM_add_68 ?_
        refine lv_imul hx hb dM_add_71 ?_
        refine kv_top (show _ = nI (56 * (np / 56)) from pk_mul _ _) ?_
        refine lv_aload_n hx hb dM_add_72 rfl (lv_at hl 0 rfl) ?_
        refine va_get (D := (dC, dI)) (ci := 1) (v := .int (nI (np % 56))) (C := RX1) (T := TX1) (N := 19) hx hb hts hin1 hown hK hP 0 rfl rfl 13 (by decide) lkf59 (fun _ h9 => h9) rfl dM_add_73 ?_
        refine lv_iadd hx hb dM_add_76 ?_
        refine kv_top (show _ = nI ((56 * (np / 56)) + (np % 56)) from nI_add _ _) ?_
        refine kv_top (show _ = nI np from (by rw [show (56 * (np / 56)) + (np % 56) = np by omega])) ?_
        refine lv_iload_n hx hb dM_add_77 rfl (lv_at hl 1 rfl) ?_
        refine lv_sipush (v := nI 255) hx hb dM_add_78 (by decide) ?_
        refine lv_iand hx hb dM_add_81 ?_
        refine kv_top (show _ = nI (lb v) from and255 v) ?_
        refine ka_iastN hx hb hK hP hD hS 9 0 rfl rfl (k := np) (x := lb v) (by omega) (by decide) dM_add_82 (fun H locs hP hD hS => ?_)
        have hP : va_P (dC, dI) vwCl (wM g m1 m2 m3 m4 m5 m6 m7 m8 m9 m10 m11 m12 m13 ci mt tl rc kp ms mi ml mb mf mo my (np / 56) (np % 56) (updN md np (lb v)) mu (aF fi np) (aS sp np) sq) H := hP
        have hD : va_D A (wM g m1 m2 m3 m4 m5 m6 m7 m8 m9 m10 m11 m12 m13 ci mt tl rc kp ms mi ml mb mf mo my (np / 56) (np % 56) (updN md np (lb v)) mu (aF fi np) (aS sp np) sq) := hD
        refine lv_aload_n hx hb dM_add_83 rfl (lv_at hl 0 rfl) ?_
        refine lv_dup hx hb dM_add_84 rfl ?_
        refine va_get (D := (dC, dI)) (ci := 1) (v := .int (nI (np % 56))) (C := RX1) (T := TX1) (N := 19) hx hb hts hin1 hown hK hP 0 rfl rfl 13 (by decide) lkf59 (fun _ h9 => h9) rfl dM_add_85 ?_
        refine lv_iconst (v := nI 1) hx hb dM_add_88 (by decide) ?_
        refine lv_iadd hx hb dM_add_89 ?_
        refine kv_top (show _ = nI ((np % 56) + 1) from nI_add _ _) ?_
        refine va_put (D := (dC, dI)) (ci := 1) (v := .int (nI ((np % 56) + 1))) (ty := .int) (C := RX1) (T := TX1) (N := 19) hx hb hts hin1 tyX1 tyX1_ok nmX1 hown hK hP hD hS 0 rfl rfl 13 (by decide) lkf59 (fun _ h9 => h9) rfl (by decide +kernel) rfl rfl (Nat.le_of_ble_eq_true rfl) dM_add_90 (fun H locs hP hD hS => ?_)
        have hP : va_P (dC, dI) vwCl (wM g m1 m2 m3 m4 m5 m6 m7 m8 m9 m10 m11 m12 m13 ci mt tl rc kp ms mi ml mb mf mo my (np / 56) ((np % 56) + 1) (updN md np (lb v)) mu (aF fi np) (aS sp np) sq) H := hP
        have hD : va_D A (wM g m1 m2 m3 m4 m5 m6 m7 m8 m9 m10 m11 m12 m13 ci mt tl rc kp ms mi ml mb mf mo my (np / 56) ((np % 56) + 1) (updN md np (lb v)) mu (aF fi np) (aS sp np) sq) := hD
        refine lv_aload_n hx hb dM_add_93 rfl (lv_at hl 0 rfl) ?_
        refine va_get (D := (dC, dI)) (ci := 1) (v := .int (nI ((np % 56) + 1))) (C := RX1) (T := TX1) (N := 19) hx hb hts hin1 hown hK hP 0 rfl rfl 13 (by decide) lkf59 (fun _ h9 => h9) rfl dM_add_94 ?_
        refine lv_bipush (v := nI 56) hx hb dM_add_97 (by decide) ?_
        refine lv_icmp_ne (tgt := 106) hx hb dM_add_99 (by decide) (fun c_99 => ?_) (fun c_99 => ?_)
        · have c_99 := kmt (nI_eq (by omega) (by omega)).mpr c_99
          have hP : va_P (dC, dI) vwCl (wM g m1 m2 m3 m4 m5 m6 m7 m8 m9 m10 m11 m12 m13 ci mt tl rc kp ms mi ml mb mf mo my ((np + 1) / 56) ((np + 1) % 56) (updN md np (lb v)) (aU mu np) (aF fi np) (aS sp np) sq) H := by rw [aU, if_neg (show ¬ np % 56 + 1 = 56 by omega), show (np + 1) / 56 = np / 56 by omega, show (np + 1) % 56 = (np % 56) + 1 by omega]; exact hP
          have hD : va_D A (wM g m1 m2 m3 m4 m5 m6 m7 m8 m9 m10 m11 m12 m13 ci mt tl rc kp ms mi ml mb mf mo my ((np + 1) / 56) ((np + 1) % 56) (updN md np (lb v)) (aU mu np) (aF fi np) (aS sp np) sq) := by rw [aU, if_neg (show ¬ np % 56 + 1 = 56 by omega), show (np + 1) / 56 = np / 56 by omega, show (np + 1) % 56 = (np % 56) + 1 by omega]; exact hD
          exact hret _ _ _ _ hP hD hS dM_add_106
        · have c_99 := (nI_eq (by omega) (by omega)).mp c_99
          refine lv_aload_n hx hb dM_add_102 rfl (lv_at hl 0 rfl) ?_
          refine kc_vv (WR := []) (As := []) (rest := []) ⟨hx, hb, hml, hown, hts⟩ (r_write l dC dI g m1 m2 m3 m4 m5 m6 m7 m8 m9 m10 m11 m12 m13 ci mt tl rc kp ms mi ml mb mf mo my (np / 56) ((np % 56) + 1) (updN md np (lb v)) mu (aF fi np) (aS sp np) sq H.size (by omega)) (cwV 0 hts gM_add_M_write rfl rfl rfl (by decide +kernel) ⟨Nat.le_of_ble_eq_true rfl, Nat.le_of_ble_eq_true rfl⟩) hK hP hD hS hA [0, 1, 2, 3, 4, 5, 6, 7, 8, 9, 10, 11, 12, 13] [] [0] rfl rfl (by decide) (by decide) (by decide) rfl 0 1 rfl rfl rfl rfl hl.1 rfl (Nat.le_of_ble_eq_true rfl) dM_add_103 ⟨Nat.zero_le _, Nat.zero_le _⟩ (fun H locs hP hD hS => ?_)
          have hP : va_P (dC, dI) vwCl (wM g m1 m2 m3 m4 m5 m6 m7 m8 m9 m10 m11 m12 m13 ci mt tl rc kp ms mi ml mb mf mo my ((np / 56) + 1) 0 (updN md np (lb v)) (updN mu (np / 56) ((np % 56) + 1)) (aF fi np) (aS sp np) sq) H := hP
          have hD : va_D A (wM g m1 m2 m3 m4 m5 m6 m7 m8 m9 m10 m11 m12 m13 ci mt tl rc kp ms mi ml mb mf mo my ((np / 56) + 1) 0 (updN md np (lb v)) (updN mu (np / 56) ((np % 56) + 1)) (aF fi np) (aS sp np) sq) := hD
          have hP : va_P (dC, dI) vwCl (wM g m1 m2 m3 m4 m5 m6 m7 m8 m9 m10 m11 m12 m13 ci mt tl rc kp ms mi ml mb mf mo my ((np + 1) / 56) ((np + 1) % 56) (updN md np (lb v)) (aU mu np) (aF fi np) (aS sp np) sq) H := by rw [aU, if_pos (show np % 56 + 1 = 56 by omega), show (np + 1) / 56 = (np / 56) + 1 by omega, show (np + 1) % 56 = 0 by omega]; exact hP
          have hD : va_D A (wM g m1 m2 m3 m4 m5 m6 m7 m8 m9 m10 m11 m12 m13 ci mt tl rc kp ms mi ml mb mf mo my ((np + 1) / 56) ((np + 1) % 56) (updN md np (lb v)) (aU mu np) (aF fi np) (aS sp np) sq) := by rw [aU, if_pos (show np % 56 + 1 = 56 by omega), show (np + 1) / 56 = (np / 56) + 1 by omega, show (np + 1) % 56 = 0 by omega]; exact hD
          exact hret _ _ _ _ hP hD hS dM_add_106
      · have c_45 := (nI_eq (by omega) (by omega)).mp c_45
        refine lv_aload_n hx hb dM_add_48 rfl (lv_at hl 0 rfl) ?_
        refine va_get (D := (dC, dI)) (ci := 1) (v := .ref m11) (C := RX1) (T := TX1) (N := 19) hx hb hts hin1 hown hK hP 0 rfl rfl 16 (by decide) lkf40 (fun _ h9 => h9) rfl dM_add_49 ?_
        refine lv_aload_n hx hb dM_add_52 rfl (lv_at hl 0 rfl) ?_
        refine va_get (D := (dC, dI)) (ci := 1) (v := .int (nI (np / 56))) (C := RX1) (T := TX1) (N := 19) hx hb hts hin1 hown hK hP 0 rfl rfl 12 (by decide) lkf56 (fun _ h9 => h9) rfl dM_add_53 ?_
        refine lv_aload_n hx hb dM_add_56 rfl (lv_at hl 0 rfl) ?_
        refine va_get (D := (dC, dI)) (ci := 1) (v := .int (nI (np % 56))) (C := RX1) (T := TX1) (N := 19) hx hb hts hin1 hown hK hP 0 rfl rfl 13 (by decide) lkf59 (fun _ h9 => h9) rfl dM_add_57 ?_
        refine ka_iastN hx hb hK hP hD hS 11 0 rfl rfl (k := np / 56) (x := np % 56) (by omega) (by decide) dM_add_60 (fun H locs hP hD hS => ?_)
        have hP : va_P (dC, dI) vwCl (wM g m1 m2 m3 m4 m5 m6 m7 m8 m9 m10 m11 m12 m13 ci mt tl rc kp ms mi ml mb mf mo my (np / 56) (np % 56) md mu (updN (aG fi np) (np / 56) (np % 56)) (aS sp np) sq) H := hP
        have hD : va_D A (wM g m1 m2 m3 m4 m5 m6 m7 m8 m9 m10 m11 m12 m13 ci mt tl rc kp ms mi ml mb mf mo my (np / 56) (np % 56) md mu (updN (aG fi np) (np / 56) (np % 56)) (aS sp np) sq) := hD
        have hP : va_P (dC, dI) vwCl (wM g m1 m2 m3 m4 m5 m6 m7 m8 m9 m10 m11 m12 m13 ci mt tl rc kp ms mi ml mb mf mo my (np / 56) (np % 56) md mu (aF fi np) (aS sp np) sq) H := by rw [aF, if_pos c_45]; exact hP
        have hD : va_D A (wM g m1 m2 m3 m4 m5 m6 m7 m8 m9 m10 m11 m12 m13 ci mt tl rc kp ms mi ml mb mf mo my (np / 56) (np % 56) md mu (aF fi np) (aS sp np) sq) := by rw [aF, if_pos c_45]; exact hD
        refine lv_aload_n hx hb dM_add_61 rfl (lv_at hl 0 rfl) ?_
        refine va_get (D := (dC, dI)) (ci := 1) (v := .ref m9) (C := RX1) (T := TX1) (N := 19) hx hb hts hin1 hown hK hP 0 rfl rfl 14 (by decide) lkf34 (fun _ h9 => h9) rfl dM_add_62 ?_
        refine lv_bipush (v := nI 56) hx hb dM_add_65 (by decide) ?_
        refine lv_aload_n hx hb dM_add_67 rfl (lv_at hl 0 rfl) ?_
        refine va_get (D := (dC, dI)) (ci := 1) (v := .int (nI (np / 56))) (C := RX1) (T := TX1) (N := 19) hx hb hts hin1 hown hK hP 0 rfl rfl 12 (by decide) lkf56 (fun _ h9 => h9) rfl dM_add_68 ?_
        refine lv_imul hx hb dM_add_71 ?_
        refine kv_top (show _ = nI (56 * (np / 56)) from pk_mul _ _) ?_
        refine lv_aload_n hx hb dM_add_72 rfl (lv_at hl 0 rfl) ?_
        refine va_get (D := (dC, dI)) (ci := 1) (v := .int (nI (np % 56))) (C := RX1) (T := TX1) (N := 19) hx hb hts hin1 hown hK hP 0 rfl rfl 13 (by decide) lkf59 (fun _ h9 => h9) rfl dM_add_73 ?_
        refine lv_iadd hx hb dM_add_76 ?_
        refine kv_top (show _ = nI ((56 * (np / 56)) + (np % 56)) from nI_add _ _) ?_
        refine kv_top (show _ = nI np from (by rw [show (56 * (np / 56)) + (np % 56) = np by omega])) ?_
        refine lv_iload_n hx hb dM_add_77 rfl (lv_at hl 1 rfl) ?_
        refine lv_sipush (v := nI 255) hx hb dM_add_78 (by decide) ?_
        refine lv_iand hx hb dM_add_81 ?_
        refine kv_top (show _ = nI (lb v) from and255 v) ?_
        refine ka_iastN hx hb hK hP hD hS 9 0 rfl rfl (k := np) (x := lb v) (by omega) (by decide) dM_add_82 (fun H locs hP hD hS => ?_)
        have hP : va_P (dC, dI) vwCl (wM g m1 m2 m3 m4 m5 m6 m7 m8 m9 m10 m11 m12 m13 ci mt tl rc kp ms mi ml mb mf mo my (np / 56) (np % 56) (updN md np (lb v)) mu (aF fi np) (aS sp np) sq) H := hP
        have hD : va_D A (wM g m1 m2 m3 m4 m5 m6 m7 m8 m9 m10 m11 m12 m13 ci mt tl rc kp ms mi ml mb mf mo my (np / 56) (np % 56) (updN md np (lb v)) mu (aF fi np) (aS sp np) sq) := hD
        refine lv_aload_n hx hb dM_add_83 rfl (lv_at hl 0 rfl) ?_
        refine lv_dup hx hb dM_add_84 rfl ?_
        refine va_get (D := (dC, dI)) (ci := 1) (v := .int (nI (np % 56))) (C := RX1) (T := TX1) (N := 19) hx hb hts hin1 hown hK hP 0 rfl rfl 13 (by decide) lkf59 (fun _ h9 => h9) rfl dM_add_85 ?_
        refine lv_iconst (v := nI 1) hx hb dM_add_88 (by decide) ?_
        refine lv_iadd hx hb dM_add_89 ?_
        refine kv_top (show _ = nI ((np % 56) + 1) from nI_add _ _) ?_
        refine va_put (D := (dC, dI)) (ci := 1) (v := .int (nI ((np % 56) + 1))) (ty := .int) (C := RX1) (T := TX1) (N := 19) hx hb hts hin1 tyX1 tyX1_ok nmX1 hown hK hP hD hS 0 rfl rfl 13 (by decide) lkf59 (fun _ h9 => h9) rfl (by decide +kernel) rfl rfl (Nat.le_of_ble_eq_true rfl) dM_add_90 (fun H locs hP hD hS => ?_)
        have hP : va_P (dC, dI) vwCl (wM g m1 m2 m3 m4 m5 m6 m7 m8 m9 m10 m11 m12 m13 ci mt tl rc kp ms mi ml mb mf mo my (np / 56) ((np % 56) + 1) (updN md np (lb v)) mu (aF fi np) (aS sp np) sq) H := hP
        have hD : va_D A (wM g m1 m2 m3 m4 m5 m6 m7 m8 m9 m10 m11 m12 m13 ci mt tl rc kp ms mi ml mb mf mo my (np / 56) ((np % 56) + 1) (updN md np (lb v)) mu (aF fi np) (aS sp np) sq) := hD
        refine lv_aload_n hx hb dM_add_93 rfl (lv_at hl 0 rfl) ?_
        refine va_get (D := (dC, dI)) (ci := 1) (v := .int (nI ((np % 56) + 1))) (C := RX1) (T := TX1) (N := 19) hx hb hts hin1 hown hK hP 0 rfl rfl 13 (by decide) lkf59 (fun _ h9 => h9) rfl dM_add_94 ?_
        refine lv_bipush (v := nI 56) hx hb dM_add_97 (by decide) ?_
        refine lv_icmp_ne (tgt := 106) hx hb dM_add_99 (by decide) (fun c_99 => ?_) (fun c_99 => ?_)
        · have c_99 := kmt (nI_eq (by omega) (by omega)).mpr c_99
          have hP : va_P (dC, dI) vwCl (wM g m1 m2 m3 m4 m5 m6 m7 m8 m9 m10 m11 m12 m13 ci mt tl rc kp ms mi ml mb mf mo my ((np + 1) / 56) ((np + 1) % 56) (updN md np (lb v)) (aU mu np) (aF fi np) (aS sp np) sq) H := by rw [aU, if_neg (show ¬ np % 56 + 1 = 56 by omega), show (np + 1) / 56 = np / 56 by omega, show (np + 1) % 56 = (np % 56) + 1 by omega]; exact hP
          have hD : va_D A (wM g m1 m2 m3 m4 m5 m6 m7 m8 m9 m10 m11 m12 m13 ci mt tl rc kp ms mi ml mb mf mo my ((np + 1) / 56) ((np + 1) % 56) (updN md np (lb v)) (aU mu np) (aF fi np) (aS sp np) sq) := by rw [aU, if_neg (show ¬ np % 56 + 1 = 56 by omega), show (np + 1) / 56 = np / 56 by omega, show (np + 1) % 56 = (np % 56) + 1 by omega]; exact hD
          exact hret _ _ _ _ hP hD hS dM_add_106
        · have c_99 := (nI_eq (by omega) (by omega)).mp c_99
          refine lv_aload_n hx hb dM_add_102 rfl (lv_at hl 0 rfl) ?_
          refine kc_vv (WR := []) (As := []) (rest := []) ⟨hx, hb, hml, hown, hts⟩ (r_write l dC dI g m1 m2 m3 m4 m5 m6 m7 m8 m9 m10 m11 m12 m13 ci mt tl rc kp ms mi ml mb mf mo my (np / 56) ((np % 56) + 1) (updN md np (lb v)) mu (aF fi np) (aS sp np) sq H.size (by omega)) (cwV 0 hts gM_add_M_write rfl rfl rfl (by decide +kernel) ⟨Nat.le_of_ble_eq_true rfl, Nat.le_of_ble_eq_true rfl⟩) hK hP hD hS hA [0, 1, 2, 3, 4, 5, 6, 7, 8, 9, 10, 11, 12, 13] [] [0] rfl rfl (by decide) (by decide) (by decide) rfl 0 1 rfl rfl rfl rfl hl.1 rfl (Nat.le_of_ble_eq_true rfl) dM_add_103 ⟨Nat.zero_le _, Nat.zero_le _⟩ (fun H locs hP hD hS => ?_)
          have hP : va_P (dC, dI) vwCl (wM g m1 m2 m3 m4 m5 m6 m7 m8 m9 m10 m11 m12 m13 ci mt tl rc kp ms mi ml mb mf mo my ((np / 56) + 1) 0 (updN md np (lb v)) (updN mu (np / 56) ((np % 56) + 1)) (aF fi np) (aS sp np) sq) H := hP
          have hD : va_D A (wM g m1 m2 m3 m4 m5 m6 m7 m8 m9 m10 m11 m12 m13 ci mt tl rc kp ms mi ml mb mf mo my ((np / 56) + 1) 0 (updN md np (lb v)) (updN mu (np / 56) ((np % 56) + 1)) (aF fi np) (aS sp np) sq) := hD
          have hP : va_P (dC, dI) vwCl (wM g m1 m2 m3 m4 m5 m6 m7 m8 m9 m10 m11 m12 m13 ci mt tl rc kp ms mi ml mb mf mo my ((np + 1) / 56) ((np + 1) % 56) (updN md np (lb v)) (aU mu np) (aF fi np) (aS sp np) sq) H := by rw [aU, if_pos (show np % 56 + 1 = 56 by omega), show (np + 1) / 56 = (np / 56) + 1 by omega, show (np + 1) % 56 = 0 by omega]; exact hP
          have hD : va_D A (wM g m1 m2 m3 m4 m5 m6 m7 m8 m9 m10 m11 m12 m13 ci mt tl rc kp ms mi ml mb mf mo my ((np + 1) / 56) ((np + 1) % 56) (updN md np (lb v)) (aU mu np) (aF fi np) (aS sp np) sq) := by rw [aU, if_pos (show np % 56 + 1 = 56 by omega), show (np + 1) / 56 = (np / 56) + 1 by omega, show (np + 1) % 56 = 0 by omega]; exact hD
          exact hret _ _ _ _ hP hD hS dM_add_106
  · have c_4 := (kn_eq0 (by omega)).mp c_4
    refine lv_aload_n hx hb dM_add_7 rfl (lv_at hl 0 rfl) ?_
    refine va_get (D := (dC, dI)) (ci := 1) (v := .ref m11) (C := RX1) (T := TX1) (N := 19) hx hb hts hin1 hown hK hP 0 rfl rfl 16 (by decide) lkf40 (fun _ h9 => h9) rfl dM_add_8 ?_
    refine lv_aload_n hx hb dM_add_11 rfl (lv_at hl 0 rfl) ?_
    refine va_get (D := (dC, dI)) (ci := 1) (v := .int (nI (np / 56))) (C := RX1) (T := TX1) (N := 19) hx hb hts hin1 hown hK hP 0 rfl rfl 12 (by decide) lkf56 (fun _ h9 => h9) rfl dM_add_12 ?_
    refine lv_sipush (v := nI 255) hx hb dM_add_15 (by decide) ?_
    refine ka_iastN hx hb hK hP hD hS 11 0 rfl rfl (k := np / 56) (x := 255) (by omega) (by decide) dM_add_18 (fun H locs hP hD hS => ?_)
    have hP : va_P (dC, dI) vwCl (wM g m1 m2 m3 m4 m5 m6 m7 m8 m9 m10 m11 m12 m13 ci mt tl rc kp ms mi ml mb mf mo my (np / 56) (np % 56) md mu (updN fi (np / 56) 255) sp sq) H := hP
    have hD : va_D A (wM g m1 m2 m3 m4 m5 m6 m7 m8 m9 m10 m11 m12 m13 ci mt tl rc kp ms mi ml mb mf mo my (np / 56) (np % 56) md mu (updN fi (np / 56) 255) sp sq) := hD
    refine lv_aload_n hx hb dM_add_19 rfl (lv_at hl 0 rfl) ?_
    refine va_get (D := (dC, dI)) (ci := 1) (v := .ref m12) (C := RX1) (T := TX1) (N := 19) hx hb hts hin1 hown hK hP 0 rfl rfl 17 (by decide) lkf43 (fun _ h9 => h9) rfl dM_add_20 ?_
    refine lv_aload_n hx hb dM_add_23 rfl (lv_at hl 0 rfl) ?_
    refine va_get (D := (dC, dI)) (ci := 1) (v := .int (nI (np / 56))) (C := RX1) (T := TX1) (N := 19) hx hb hts hin1 hown hK hP 0 rfl rfl 12 (by decide) lkf56 (fun _ h9 => h9) rfl dM_add_24 ?_
    refine lv_iconst (v := (-1)) hx hb dM_add_27 (by decide) ?_
    refine ka_iast hx hb hK hP hD hS 12 0 rfl rfl (k := np / 56) (x := (-1)) (by omega) (by decide) dM_add_28 (fun H locs hP hD hS => ?_)
    have hP : va_P (dC, dI) vwCl (wM g m1 m2 m3 m4 m5 m6 m7 m8 m9 m10 m11 m12 m13 ci mt tl rc kp ms mi ml mb mf mo my (np / 56) (np % 56) md mu (updN fi (np / 56) 255) (upd sp (np / 56) ((-1))) sq) H := hP
    have hD : va_D A (wM g m1 m2 m3 m4 m5 m6 m7 m8 m9 m10 m11 m12 m13 ci mt tl rc kp ms mi ml mb mf mo my (np / 56) (np % 56) md mu (updN fi (np / 56) 255) (upd sp (np / 56) ((-1))) sq) := hD
    have hP : va_P (dC, dI) vwCl (wM g m1 m2 m3 m4 m5 m6 m7 m8 m9 m10 m11 m12 m13 ci mt tl rc kp ms mi ml mb mf mo my (np / 56) (np % 56) md mu (aG fi np) (aS sp np) sq) H := by rw [aS, if_pos c_4, aG, if_pos c_4]; exact hP
    have hD : va_D A (wM g m1 m2 m3 m4 m5 m6 m7 m8 m9 m10 m11 m12 m13 ci mt tl rc kp ms mi ml mb mf mo my (np / 56) (np % 56) md mu (aG fi np) (aS sp np) sq) := by rw [aS, if_pos c_4, aG, if_pos c_4]; exact hD
    have hag := aG_lt hfi
    refine lv_iload_n hx hb dM_add_29 rfl (lv_at hl 2 rfl) ?_
    refine lv_if_eq (tgt := 61) hx hb dM_add_30 (by decide) (fun c_30 => ?_) (fun c_30 => ?_)
    · have c_30 := (kn_eq0 (by omega)).mp c_30
      exact absurd c_30 (by decide)
    · have c_30 := kmt (kn_eq0 (by omega)).mpr c_30
      refine lv_aload_n hx hb dM_add_33 rfl (lv_at hl 0 rfl) ?_
      refine va_get (D := (dC, dI)) (ci := 1) (v := .ref m11) (C := RX1) (T := TX1) (N := 19) hx hb hts hin1 hown hK hP 0 rfl rfl 16 (by decide) lkf40 (fun _ h9 => h9) rfl dM_add_34 ?_
      refine lv_aload_n hx hb dM_add_37 rfl (lv_at hl 0 rfl) ?_
      refine va_get (D := (dC, dI)) (ci := 1) (v := .int (nI (np / 56))) (C := RX1) (T := TX1) (N := 19) hx hb hts hin1 hown hK hP 0 rfl rfl 12 (by decide) lkf56 (fun _ h9 => h9) rfl dM_add_38 ?_
      refine ka_ialdN hx hb hK hP 11 0 rfl rfl (k := np / 56) (by omega) (by decide) dM_add_41 ?_
      refine lv_sipush (v := nI 255) hx hb dM_add_42 (by decide) ?_
      refine lv_icmp_ne (tgt := 61) hx hb dM_add_45 (by decide) (fun c_45 => ?_) (fun c_45 => ?_)
      · have c_45 := kmt (nI_eq (by omega) (by omega)).mpr c_45
        have hP : va_P (dC, dI) vwCl (wM g m1 m2 m3 m4 m5 m6 m7 m8 m9 m10 m11 m12 m13 ci mt tl rc kp ms mi ml mb mf mo my (np / 56) (np % 56) md mu (aF fi np) (aS sp np) sq) H := by rw [aF, if_neg c_45]; exact hP
        have hD : va_D A (wM g m1 m2 m3 m4 m5 m6 m7 m8 m9 m10 m11 m12 m13 ci mt tl rc kp ms mi ml mb mf mo my (np / 56) (np % 56) md mu (aF fi np) (aS sp np) sq) := by rw [aF, if_neg c_45]; exact hD
        refine lv_aload_n hx hb dM_add_61 rfl (lv_at hl 0 rfl) ?_
        refine va_get (D := (dC, dI)) (ci := 1) (v := .ref m9) (C := RX1) (T := TX1) (N := 19) hx hb hts hin1 hown hK hP 0 rfl rfl 14 (by decide) lkf34 (fun _ h9 => h9) rfl dM_add_62 ?_
        refine lv_bipush (v := nI 56) hx hb dM_add_65 (by decide) ?_
        refine lv_aload_n hx hb dM_add_67 rfl (lv_at hl 0 rfl) ?_
        refine va_get (D := (dC, dI)) (ci := 1) (v := .int (nI (np / 56))) (C := RX1) (T := TX1) (N := 19) hx hb hts hin1 hown hK hP 0 rfl rfl 12 (by decide) lkf56 (fun _ h9 => h9) rfl dM_add_68 ?_
        refine lv_imul hx hb dM_add_71 ?_
        refine kv_top (show _ = nI (56 * (np / 56)) from pk_mul _ _) ?_
        refine lv_aload_n hx hb dM_add_72 rfl (lv_at hl 0 rfl) ?_
        refine va_get (D := (dC, dI)) (ci := 1) (v := .int (nI (np % 56))) (C := RX1) (T := TX1) (N := 19) hx hb hts hin1 hown hK hP 0 rfl rfl 13 (by decide) lkf59 (fun _ h9 => h9) rfl dM_add_73 ?_
        refine lv_iadd hx hb dM_add_76 ?_
        refine kv_top (show _ = nI ((56 * (np / 56)) + (np % 56)) from nI_add _ _) ?_
        refine kv_top (show _ = nI np from (by rw [show (56 * (np / 56)) + (np % 56) = np by omega])) ?_
        refine lv_iload_n hx hb dM_add_77 rfl (lv_at hl 1 rfl) ?_
        refine lv_sipush (v := nI 255) hx hb dM_add_78 (by decide) ?_
        refine lv_iand hx hb dM_add_81 ?_
        refine kv_top (show _ = nI (lb v) from and255 v) ?_
        refine ka_iastN hx hb hK hP hD hS 9 0 rfl rfl (k := np) (x := lb v) (by omega) (by decide) dM_add_82 (fun H locs hP hD hS => ?_)
        have hP : va_P (dC, dI) vwCl (wM g m1 m2 m3 m4 m5 m6 m7 m8 m9 m10 m11 m12 m13 ci mt tl rc kp ms mi ml mb mf mo my (np / 56) (np % 56) (updN md np (lb v)) mu (aF fi np) (aS sp np) sq) H := hP
        have hD : va_D A (wM g m1 m2 m3 m4 m5 m6 m7 m8 m9 m10 m11 m12 m13 ci mt tl rc kp ms mi ml mb mf mo my (np / 56) (np % 56) (updN md np (lb v)) mu (aF fi np) (aS sp np) sq) := hD
        refine lv_aload_n hx hb dM_add_83 rfl (lv_at hl 0 rfl) ?_
        refine lv_dup hx hb dM_add_84 rfl ?_
        refine va_get (D := (dC, dI)) (ci := 1) (v := .int (nI (np % 56))) (C := RX1) (T := TX1) (N := 19) hx hb hts hin1 hown hK hP 0 rfl rfl 13 (by decide) lkf59 (fun _ h9 => h9) rfl dM_add_85 ?_
        refine lv_iconst (v := nI 1) hx hb dM_add_88 (by decide) ?_
        refine lv_iadd hx hb dM_add_89 ?_
        refine kv_top (show _ = nI ((np % 56) + 1) from nI_add _ _) ?_
        refine va_put (D := (dC, dI)) (ci := 1) (v := .int (nI ((np % 56) + 1))) (ty := .int) (C := RX1) (T := TX1) (N := 19) hx hb hts hin1 tyX1 tyX1_ok nmX1 hown hK hP hD hS 0 rfl rfl 13 (by decide) lkf59 (fun _ h9 => h9) rfl (by decide +kernel) rfl rfl (Nat.le_of_ble_eq_true rfl) dM_add_90 (fun H locs hP hD hS => ?_)
        have hP : va_P (dC, dI) vwCl (wM g m1 m2 m3 m4 m5 m6 m7 m8 m9 m10 m11 m12 m13 ci mt tl rc kp ms mi ml mb mf mo my (np / 56) ((np % 56) + 1) (updN md np (lb v)) mu (aF fi np) (aS sp np) sq) H := hP
        have hD : va_D A (wM g m1 m2 m3 m4 m5 m6 m7 m8 m9 m10 m11 m12 m13 ci mt tl rc kp ms mi ml mb mf mo my (np / 56) ((np % 56) + 1) (updN md np (lb v)) mu (aF fi np) (aS sp np) sq) := hD
        refine lv_aload_n hx hb dM_add_93 rfl (lv_at hl 0 rfl) ?_
        refine va_get (D := (dC, dI)) (ci := 1) (v := .int (nI ((np % 56) + 1))) (C := RX1) (T := TX1) (N := 19) hx hb hts hin1 hown hK hP 0 rfl rfl 13 (by decide) lkf59 (fun _ h9 => h9) rfl dM_add_94 ?_
        refine lv_bipush (v := nI 56) hx hb dM_add_97 (by decide) ?_
        refine lv_icmp_ne (tgt := 106) hx hb dM_add_99 (by decide) (fun c_99 => ?_) (fun c_99 => ?_)
        · have c_99 := kmt (nI_eq (by omega) (by omega)).mpr c_99
          have hP : va_P (dC, dI) vwCl (wM g m1 m2 m3 m4 m5 m6 m7 m8 m9 m10 m11 m12 m13 ci mt tl rc kp ms mi ml mb mf mo my ((np + 1) / 56) ((np + 1) % 56) (updN md np (lb v)) (aU mu np) (aF fi np) (aS sp np) sq) H := by rw [aU, if_neg (show ¬ np % 56 + 1 = 56 by omega), show (np + 1) / 56 = np / 56 by omega, show (np + 1) % 56 = (np % 56) + 1 by omega]; exact hP
          have hD : va_D A (wM g m1 m2 m3 m4 m5 m6 m7 m8 m9 m10 m11 m12 m13 ci mt tl rc kp ms mi ml mb mf mo my ((np + 1) / 56) ((np + 1) % 56) (updN md np (lb v)) (aU mu np) (aF fi np) (aS sp np) sq) := by rw [aU, if_neg (show ¬ np % 56 + 1 = 56 by omega), show (np + 1) / 56 = np / 56 by omega, show (np + 1) % 56 = (np % 56) + 1 by omega]; exact hD
          exact hret _ _ _ _ hP hD hS dM_add_106
        · have c_99 := (nI_eq (by omega) (by omega)).mp c_99
          refine lv_aload_n hx hb dM_add_102 rfl (lv_at hl 0 rfl) ?_
          refine kc_vv (WR := []) (As := []) (rest := []) ⟨hx, hb, hml, hown, hts⟩ (r_write l dC dI g m1 m2 m3 m4 m5 m6 m7 m8 m9 m10 m11 m12 m13 ci mt tl rc kp ms mi ml mb mf mo my (np / 56) ((np % 56) + 1) (updN md np (lb v)) mu (aF fi np) (aS sp np) sq H.size (by omega)) (cwV 0 hts gM_add_M_write rfl rfl rfl (by decide +kernel) ⟨Nat.le_of_ble_eq_true rfl, Nat.le_of_ble_eq_true rfl⟩) hK hP hD hS hA [0, 1, 2, 3, 4, 5, 6, 7, 8, 9, 10, 11, 12, 13] [] [0] rfl rfl (by decide) (by decide) (by decide) rfl 0 1 rfl rfl rfl rfl hl.1 rfl (Nat.le_of_ble_eq_true rfl) dM_add_103 ⟨Nat.zero_le _, Nat.zero_le _⟩ (fun H locs hP hD hS => ?_)
          have hP : va_P (dC, dI) vwCl (wM g m1 m2 m3 m4 m5 m6 m7 m8 m9 m10 m11 m12 m13 ci mt tl rc kp ms mi ml mb mf mo my ((np / 56) + 1) 0 (updN md np (lb v)) (updN mu (np / 56) ((np % 56) + 1)) (aF fi np) (aS sp np) sq) H := hP
          have hD : va_D A (wM g m1 m2 m3 m4 m5 m6 m7 m8 m9 m10 m11 m12 m13 ci mt tl rc kp ms mi ml mb mf mo my ((np / 56) + 1) 0 (updN md np (lb v)) (updN mu (np / 56) ((np % 56) + 1)) (aF fi np) (aS sp np) sq) := hD
          have hP : va_P (dC, dI) vwCl (wM g m1 m2 m3 m4 m5 m6 m7 m8 m9 m10 m11 m12 m13 ci mt tl rc kp ms mi ml mb mf mo my ((np + 1) / 56) ((np + 1) % 56) (updN md np (lb v)) (aU mu np) (aF fi np) (aS sp np) sq) H := by rw [aU, if_pos (show np % 56 + 1 = 56 by omega), show (np + 1) / 56 = (np / 56) + 1 by omega, show (np + 1) % 56 = 0 by omega]; exact hP
          have hD : va_D A (wM g m1 m2 m3 m4 m5 m6 m7 m8 m9 m10 m11 m12 m13 ci mt tl rc kp ms mi ml mb mf mo my ((np + 1) / 56) ((np + 1) % 56) (updN md np (lb v)) (aU mu np) (aF fi np) (aS sp np) sq) := by rw [aU, if_pos (show np % 56 + 1 = 56 by omega), show (np + 1) / 56 = (np / 56) + 1 by omega, show (np + 1) % 56 = 0 by omega]; exact hD
          exact hret _ _ _ _ hP hD hS dM_add_106
      · have c_45 := (nI_eq (by omega) (by omega)).mp c_45
        refine lv_aload_n hx hb dM_add_48 rfl (lv_at hl 0 rfl) ?_
        refine va_get (D := (dC, dI)) (ci := 1) (v := .ref m11) (C := RX1) (T := TX1) (N := 19) hx hb hts hin1 hown hK hP 0 rfl rfl 16 (by decide) lkf40 (fun _ h9 => h9) rfl dM_add_49 ?_
        refine lv_aload_n hx hb dM_add_52 rfl (lv_at hl 0 rfl) ?_
        refine va_get (D := (dC, dI)) (ci := 1) (v := .int (nI (np / 56))) (C := RX1) (T := TX1) (N := 19) hx hb hts hin1 hown hK hP 0 rfl rfl 12 (by decide) lkf56 (fun _ h9 => h9) rfl dM_add_53 ?_
        refine lv_aload_n hx hb dM_add_56 rfl (lv_at hl 0 rfl) ?_
        refine va_get (D := (dC, dI)) (ci := 1) (v := .int (nI (np % 56))) (C := RX1) (T := TX1) (N := 19) hx hb hts hin1 hown hK hP 0 rfl rfl 13 (by decide) lkf59 (fun _ h9 => h9) rfl dM_add_57 ?_
        refine ka_iastN hx hb hK hP hD hS 11 0 rfl rfl (k := np / 56) (x := np % 56) (by omega) (by decide) dM_add_60 (fun H locs hP hD hS => ?_)
        have hP : va_P (dC, dI) vwCl (wM g m1 m2 m3 m4 m5 m6 m7 m8 m9 m10 m11 m12 m13 ci mt tl rc kp ms mi ml mb mf mo my (np / 56) (np % 56) md mu (updN (aG fi np) (np / 56) (np % 56)) (aS sp np) sq) H := hP
        have hD : va_D A (wM g m1 m2 m3 m4 m5 m6 m7 m8 m9 m10 m11 m12 m13 ci mt tl rc kp ms mi ml mb mf mo my (np / 56) (np % 56) md mu (updN (aG fi np) (np / 56) (np % 56)) (aS sp np) sq) := hD
        have hP : va_P (dC, dI) vwCl (wM g m1 m2 m3 m4 m5 m6 m7 m8 m9 m10 m11 m12 m13 ci mt tl rc kp ms mi ml mb mf mo my (np / 56) (np % 56) md mu (aF fi np) (aS sp np) sq) H := by rw [aF, if_pos c_45]; exact hP
        have hD : va_D A (wM g m1 m2 m3 m4 m5 m6 m7 m8 m9 m10 m11 m12 m13 ci mt tl rc kp ms mi ml mb mf mo my (np / 56) (np % 56) md mu (aF fi np) (aS sp np) sq) := by rw [aF, if_pos c_45]; exact hD
        refine lv_aload_n hx hb dM_add_61 rfl (lv_at hl 0 rfl) ?_
        refine va_get (D := (dC, dI)) (ci := 1) (v := .ref m9) (C := RX1) (T := TX1) (N := 19) hx hb hts hin1 hown hK hP 0 rfl rfl 14 (by decide) lkf34 (fun _ h9 => h9) rfl dM_add_62 ?_
        refine lv_bipush (v := nI 56) hx hb dM_add_65 (by decide) ?_
        refine lv_aload_n hx hb dM_add_67 rfl (lv_at hl 0 rfl) ?_
        refine va_get (D := (dC, dI)) (ci := 1) (v := .int (nI (np / 56))) (C := RX1) (T := TX1) (N := 19) hx hb hts hin1 hown hK hP 0 rfl rfl 12 (by decide) lkf56 (fun _ h9 => h9) rfl dM_add_68 ?_
        refine lv_imul hx hb dM_add_71 ?_
        refine kv_top (show _ = nI (56 * (np / 56)) from pk_mul _ _) ?_
        refine lv_aload_n hx hb dM_add_72 rfl (lv_at hl 0 rfl) ?_
        refine va_get (D := (dC, dI)) (ci := 1) (v := .int (nI (np % 56))) (C := RX1) (T := TX1) (N := 19) hx hb hts hin1 hown hK hP 0 rfl rfl 13 (by decide) lkf59 (fun _ h9 => h9) rfl dM_add_73 ?_
        refine lv_iadd hx hb dM_add_76 ?_
        refine kv_top (show _ = nI ((56 * (np / 56)) + (np % 56)) from nI_add _ _) ?_
        refine kv_top (show _ = nI np from (by rw [show (56 * (np / 56)) + (np % 56) = np by omega])) ?_
        refine lv_iload_n hx hb dM_add_77 rfl (lv_at hl 1 rfl) ?_
        refine lv_sipush (v := nI 255) hx hb dM_add_78 (by decide) ?_
        refine lv_iand hx hb dM_add_81 ?_
        refine kv_top (show _ = nI (lb v) from and255 v) ?_
        refine ka_iastN hx hb hK hP hD hS 9 0 rfl rfl (k := np) (x := lb v) (by omega) (by decide) dM_add_82 (fun H locs hP hD hS => ?_)
        have hP : va_P (dC, dI) vwCl (wM g m1 m2 m3 m4 m5 m6 m7 m8 m9 m10 m11 m12 m13 ci mt tl rc kp ms mi ml mb mf mo my (np / 56) (np % 56) (updN md np (lb v)) mu (aF fi np) (aS sp np) sq) H := hP
        have hD : va_D A (wM g m1 m2 m3 m4 m5 m6 m7 m8 m9 m10 m11 m12 m13 ci mt tl rc kp ms mi ml mb mf mo my (np / 56) (np % 56) (updN md np (lb v)) mu (aF fi np) (aS sp np) sq) := hD
        refine lv_aload_n hx hb dM_add_83 rfl (lv_at hl 0 rfl) ?_
        refine lv_dup hx hb dM_add_84 rfl ?_
        refine va_get (D := (dC, dI)) (ci := 1) (v := .int (nI (np % 56))) (C := RX1) (T := TX1) (N := 19) hx hb hts hin1 hown hK hP 0 rfl rfl 13 (by decide) lkf59 (fun _ h9 => h9) rfl dM_add_85 ?_
        refine lv_iconst (v := nI 1) hx hb dM_add_88 (by decide) ?_
        refine lv_iadd hx hb dM_add_89 ?_
        refine kv_top (show _ = nI ((np % 56) + 1) from nI_add _ _) ?_
        refine va_put (D := (dC, dI)) (ci := 1) (v := .int (nI ((np % 56) + 1))) (ty := .int) (C := RX1) (T := TX1) (N := 19) hx hb hts hin1 tyX1 tyX1_ok nmX1 hown hK hP hD hS 0 rfl rfl 13 (by decide) lkf59 (fun _ h9 => h9) rfl (by decide +kernel) rfl rfl (Nat.le_of_ble_eq_true rfl) dM_add_90 (fun H locs hP hD hS => ?_)
        have hP : va_P (dC, dI) vwCl (wM g m1 m2 m3 m4 m5 m6 m7 m8 m9 m10 m11 m12 m13 ci mt tl rc kp ms mi ml mb mf mo my (np / 56) ((np % 56) + 1) (updN md np (lb v)) mu (aF fi np) (aS sp np) sq) H := hP
        have hD : va_D A (wM g m1 m2 m3 m4 m5 m6 m7 m8 m9 m10 m11 m12 m13 ci mt tl rc kp ms mi ml mb mf mo my (np / 56) ((np % 56) + 1) (updN md np (lb v)) mu (aF fi np) (aS sp np) sq) := hD
        refine lv_aload_n hx hb dM_add_93 rfl (lv_at hl 0 rfl) ?_
        refine va_get (D := (dC, dI)) (ci := 1) (v := .int (nI ((np % 56) + 1))) (C := RX1) (T := TX1) (N := 19) hx hb hts hin1 hown hK hP 0 rfl rfl 13 (by decide) lkf59 (fun _ h9 => h9) rfl dM_add_94 ?_
        refine lv_bipush (v := nI 56) hx hb dM_add_97 (by decide) ?_
        refine lv_icmp_ne (tgt := 106) hx hb dM_add_99 (by decide) (fun c_99 => ?_) (fun c_99 => ?_)
        · have c_99 := kmt (nI_eq (by omega) (by omega)).mpr c_99
          have hP : va_P (dC, dI) vwCl (wM g m1 m2 m3 m4 m5 m6 m7 m8 m9 m10 m11 m12 m13 ci mt tl rc kp ms mi ml mb mf mo my ((np + 1) / 56) ((np + 1) % 56) (updN md np (lb v)) (aU mu np) (aF fi np) (aS sp np) sq) H := by rw [aU, if_neg (show ¬ np % 56 + 1 = 56 by omega), show (np + 1) / 56 = np / 56 by omega, show (np + 1) % 56 = (np % 56) + 1 by omega]; exact hP
          have hD : va_D A (wM g m1 m2 m3 m4 m5 m6 m7 m8 m9 m10 m11 m12 m13 ci mt tl rc kp ms mi ml mb mf mo my ((np + 1) / 56) ((np + 1) % 56) (updN md np (lb v)) (aU mu np) (aF fi np) (aS sp np) sq) := by rw [aU, if_neg (show ¬ np % 56 + 1 = 56 by omega), show (np + 1) / 56 = np / 56 by omega, show (np + 1) % 56 = (np % 56) + 1 by omega]; exact hD
          exact hret _ _ _ _ hP hD hS dM_add_106
        · have c_99 := (nI_eq (by omega) (by omega)).mp c_99
          refine lv_aload_n hx hb dM_add_102 rfl (lv_at hl 0 rfl) ?_
          refine kc_vv (WR := []) (As := []) (rest := []) ⟨hx, hb, hml, hown, hts⟩ (r_write l dC dI g m1 m2 m3 m4 m5 m6 m7 m8 m9 m10 m11 m12 m13 ci mt tl rc kp ms mi ml mb mf mo my (np / 56) ((np % 56) + 1) (updN md np (lb v)) mu (aF fi np) (aS sp np) sq H.size (by omega)) (cwV 0 hts gM_add_M_write rfl rfl rfl (by decide +kernel) ⟨Nat.le_of_ble_eq_true rfl, Nat.le_of_ble_eq_true rfl⟩) hK hP hD hS hA [0, 1, 2, 3, 4, 5, 6, 7, 8, 9, 10, 11, 12, 13] [] [0] rfl rfl (by decide) (by decide) (by decide) rfl 0 1 rfl rfl rfl rfl hl.1 rfl (Nat.le_of_ble_eq_true rfl) dM_add_103 ⟨Nat.zero_le _, Nat.zero_le _⟩ (fun H locs hP hD hS => ?_)
          have hP : va_P (dC, dI) vwCl (wM g m1 m2 m3 m4 m5 m6 m7 m8 m9 m10 m11 m12 m13 ci mt tl rc kp ms mi ml mb mf mo my ((np / 56) + 1) 0 (updN md np (lb v)) (updN mu (np / 56) ((np % 56) + 1)) (aF fi np) (aS sp np) sq) H := hP
          have hD : va_D A (wM g m1 m2 m3 m4 m5 m6 m7 m8 m9 m10 m11 m12 m13 ci mt tl rc kp ms mi ml mb mf mo my ((np / 56) + 1) 0 (updN md np (lb v)) (updN mu (np / 56) ((np % 56) + 1)) (aF fi np) (aS sp np) sq) := hD
          have hP : va_P (dC, dI) vwCl (wM g m1 m2 m3 m4 m5 m6 m7 m8 m9 m10 m11 m12 m13 ci mt tl rc kp ms mi ml mb mf mo my ((np + 1) / 56) ((np + 1) % 56) (updN md np (lb v)) (aU mu np) (aF fi np) (aS sp np) sq) H := by rw [aU, if_pos (show np % 56 + 1 = 56 by omega), show (np + 1) / 56 = (np / 56) + 1 by omega, show (np + 1) % 56 = 0 by omega]; exact hP
          have hD : va_D A (wM g m1 m2 m3 m4 m5 m6 m7 m8 m9 m10 m11 m12 m13 ci mt tl rc kp ms mi ml mb mf mo my ((np + 1) / 56) ((np + 1) % 56) (updN md np (lb v)) (aU mu np) (aF fi np) (aS sp np) sq) := by rw [aU, if_pos (show np % 56 + 1 = 56 by omega), show (np + 1) / 56 = (np / 56) + 1 by omega, show (np + 1) % 56 = 0 by omega]; exact hD
          exact hret _ _ _ _ hP hD hS dM_add_106
set_option maxHeartbeats 4000000 in
set_option maxRecDepth 100000 in
theorem r_feed (l : Launch) (dC : Nat → ClassId) (dI : Nat → Nat → Nat) (g m1 m2 m3 m4 m5 m6 m7 m8 m9 m10 m11 m12 m13 : Nat) (ci : ClassId) (mt : Nat → Nat) (tl rc kp : Nat) (ms mi ml mb mf mo my : Nat → Nat) (np : Nat) (md mu fi : Nat → Nat) (sp : Nat → Int32) (sq : Nat → Nat) (sz : Nat) (v : Int32) (j : Nat) (hj : 1 ≤ j ∧ j ≤ 4) (htl : tl + j ≤ 300) : Met l yM_feed wsM_feed ({ frames := 0, cells := 0, slots := 0, locals := 0 }) (kPre (dC, dI) vwCl (wM g m1 m2 m3 m4 m5 m6 m7 m8 m9 m10 m11 m12 m13 ci mt tl rc kp ms mi ml mb mf mo my (np / 56) (np % 56) md mu fi sp sq) (tM ci) sz [.ref g, .int v, .int (nI j)]) (kQi (dC, dI) vwCl (wM g m1 m2 m3 m4 m5 m6 m7 m8 m9 m10 m11 m12 m13 ci mt tl rc kp ms mi ml mb mf mo my (np / 56) (np % 56) md mu fi sp sq) (tM ci) sz (nI (tl + j)) (wM g m1 m2 m3 m4 m5 m6 m7 m8 m9 m10 m11 m12 m13 ci (fdM mt tl v j) (tl + j) rc kp ms mi ml mb mf mo my (np / 56) (np % 56) md mu fi sp sq)) 0 0 (va_A (wM g m1 m2 m3 m4 m5 m6 m7 m8 m9 m10 m11 m12 m13 ci mt tl rc kp ms mi ml mb mf mo my (np / 56) (np % 56) md mu fi sp sq) sz) := by
  refine kM_i (cc := cM_feed) (maxL := 4) (by decide) rfl (Nat.le_of_ble_eq_true rfl) ?_
  intro p e s m below meth c A Q ls H locs S hP hK hD hS hA hl hret
  obtain ⟨hx, hb, hml, hown, hts⟩ := id S
  have hin1 : ∀ w ∈ u_ws RX1 TX1 19, w ∈ wsM_feed := fun _ h => List.mem_cons_of_mem _ (List.mem_append_right _ h)
  have lkf49 := hts (.fieldLink RX1 49 "BlockTapeModel" "thrown" "I") (by decide +kernel)
  have lkf53 := hts (.fieldLink RX1 53 "BlockTapeModel" "taped" "I") (by decide +kernel)
  have lkf7 := hts (.fieldLink RX1 7 "BlockTapeModel" "tape" "[I") (by decide +kernel)
  have hl : lv_has ls 4 [(0, .ref g), (1, .int v), (2, .int (nI j))] := hl
  refine lv_aload_n hx hb dM_feed_0 rfl (lv_at hl 0 rfl) ?_
  refine lv_iconst (v := nI 0) hx hb dM_feed_1 (by decide) ?_
  refine va_put (D := (dC, dI)) (ci := 1) (v := .int (nI 0)) (ty := .int) (C := RX1) (T := TX1) (N := 19) hx hb hts hin1 tyX1 tyX1_ok nmX1 hown hK hP hD hS 0 rfl rfl 0 (by decide) lkf49 (fun _ h9 => h9) rfl (by decide +kernel) rfl rfl (Nat.le_of_ble_eq_true rfl) dM_feed_2 (fun H locs hP hD hS => ?_)
  have hP : va_P (dC, dI) vwCl (wM g m1 m2 m3 m4 m5 m6 m7 m8 m9 m10 m11 m12 m13 ci mt tl rc kp ms mi ml mb mf mo my (np / 56) (np % 56) md mu fi sp sq) H := hP
  have hD : va_D A (wM g m1 m2 m3 m4 m5 m6 m7 m8 m9 m10 m11 m12 m13 ci mt tl rc kp ms mi ml mb mf mo my (np / 56) (np % 56) md mu fi sp sq) := hD
  refine lv_iload_n hx hb dM_feed_5 rfl (lv_at hl 2 rfl) ?_
  refine lv_iconst (v := nI 1) hx hb dM_feed_6 (by decide) ?_
  refine lv_icmp_lt (tgt := 27) hx hb dM_feed_7 (by decide) (fun c_7 => ?_) (fun c_7 => ?_)
  · have c_7 := (nI_ltI (by omega) (by omega)).mp c_7
    exfalso; omega
  · have c_7 := kmt (nI_ltI (by omega) (by omega)).mpr c_7
    refine lv_iload_n hx hb dM_feed_10 rfl (lv_at hl 2 rfl) ?_
    refine lv_iconst (v := nI 4) hx hb dM_feed_11 (by decide) ?_
    refine lv_icmp_gt (tgt := 27) hx hb dM_feed_12 (by decide) (fun c_12 => ?_) (fun c_12 => ?_)
    · have c_12 := (nI_ltI (by omega) (by omega)).mp c_12
      exfalso; omega
    · have c_12 := kmt (nI_ltI (by omega) (by omega)).mpr c_12
      refine lv_aload_n hx hb dM_feed_15 rfl (lv_at hl 0 rfl) ?_
      refine va_get (D := (dC, dI)) (ci := 1) (v := .int (nI tl)) (C := RX1) (T := TX1) (N := 19) hx hb hts hin1 hown hK hP 0 rfl rfl 2 (by decide) lkf53 (fun _ h9 => h9) rfl dM_feed_16 ?_
      refine lv_iload_n hx hb dM_feed_19 rfl (lv_at hl 2 rfl) ?_
      refine lv_iadd hx hb dM_feed_20 ?_
      refine kv_top (show _ = nI (tl + j) from nI_add _ _) ?_
      refine lv_sipush (v := nI 300) hx hb dM_feed_21 (by decide) ?_
      refine lv_icmp_le (tgt := 29) hx hb dM_feed_24 (by decide) (fun c_24 => ?_) (fun c_24 => ?_)
      · have c_24 := (nI_leI (by omega) (by omega)).mp c_24
        refine lv_iconst (v := nI 0) hx hb dM_feed_29 (by decide) ?_
        refine lv_istore_n (lv' := [(3, .int (nI 0)), (0, .ref g), (1, .int v), (2, .int (nI j))]) hx hb dM_feed_30 rfl hl (by decide) rfl (fun ls hl => ?_)
        have hloopk : ∀ (n k : Nat), k ≤ j → j + 1 ≤ k + n → ∀ (H : Heap) (locs : List Loc) (ls : Array Slot), va_P (dC, dI) vwCl (wM g m1 m2 m3 m4 m5 m6 m7 m8 m9 m10 m11 m12 m13 ci (fdM mt tl v k) (tl + k) rc kp ms mi ml mb mf mo my (np / 56) (np % 56) md mu fi sp sq) H → va_D A (wM g m1 m2 m3 m4 m5 m6 m7 m8 m9 m10 m11 m12 m13 ci (fdM mt tl v k) (tl + k) rc kp ms mi ml mb mf mo my (np / 56) (np % 56) md mu fi sp sq) → va_S A s.heap H locs → lv_has ls 4 [(3, .int (nI k)), (0, .ref g), (1, .int v), (2, .int (nI j))] → W p l e ({ frames := 0, cells := 0, slots := 0, locals := 0 }) s m ([.ref g, .int v, .int (nI j)] : List Value).toArray below meth c H locs 0 0 Q (F0 m 31 ls []) := by
          intro n
          induction n with
          | zero => intro k h1 h2; exact absurd h2 (by omega)
          | succ n ih =>
            intro k hkA hkB H locs ls hP hD hS hl
            refine lv_iload_n hx hb dM_feed_31 rfl (lv_at hl 0 rfl) ?_
            refine lv_iload_n hx hb dM_feed_32 rfl (lv_at hl 3 rfl) ?_
            refine lv_icmp_ge (tgt := 74) hx hb dM_feed_33 (by decide) (fun c_33 => ?_) (fun c_33 => ?_)
            · have c_33 := (nI_leI (by omega) (by omega)).mp c_33
              have hkE : k = j := by omega
              subst hkE
              refine lv_aload_n hx hb dM_feed_74 rfl (lv_at hl 1 rfl) ?_
              refine va_get (D := (dC, dI)) (ci := 1) (v := .int (nI (tl + k))) (C := RX1) (T := TX1) (N := 19) hx hb hts hin1 hown hK hP 0 rfl rfl 2 (by decide) lkf53 (fun _ h9 => h9) rfl dM_feed_75 ?_
              exact hret _ _ _ _ hP hD hS dM_feed_78
            · have c_33 := kmt (nI_leI (by omega) (by omega)).mpr c_33
              refine lv_aload_n hx hb dM_feed_36 rfl (lv_at hl 1 rfl) ?_
              refine va_get (D := (dC, dI)) (ci := 1) (v := .ref m1) (C := RX1) (T := TX1) (N := 19) hx hb hts hin1 hown hK hP 0 rfl rfl 1 (by decide) lkf7 (fun _ h9 => h9) rfl dM_feed_37 ?_
              refine lv_aload_n hx hb dM_feed_40 rfl (lv_at hl 1 rfl) ?_
              refine va_get (D := (dC, dI)) (ci := 1) (v := .int (nI (tl + k))) (C := RX1) (T := TX1) (N := 19) hx hb hts hin1 hown hK hP 0 rfl rfl 2 (by decide) lkf53 (fun _ h9 => h9) rfl dM_feed_41 ?_
              refine lv_iload_n hx hb dM_feed_44 rfl (lv_at hl 2 rfl) ?_
              refine lv_bipush (v := nI 24) hx hb dM_feed_45 (by decide) ?_
              refine lv_bipush (v := nI 8) hx hb dM_feed_47 (by decide) ?_
              refine lv_iload_n hx hb dM_feed_49 rfl (lv_at hl 0 rfl) ?_
              refine lv_imul hx hb dM_feed_50 ?_
              refine kv_top (show _ = nI (8 * k) from pk_mul _ _) ?_
              refine lv_isub hx hb dM_feed_51 ?_
              refine kv_top (show _ = nI (24 - (8 * k)) from pk_sub (by omega)) ?_
              refine lv_ishr hx hb dM_feed_52 ?_
              refine lv_sipush (v := nI 255) hx hb dM_feed_53 (by decide) ?_
              refine lv_iand hx hb dM_feed_56 ?_
              refine kv_top (show _ = nI (lb (v >>> (nI (24 - 8 * k) &&& 31))) from and255 _) ?_
              refine ka_iastN hx hb hK hP hD hS 1 0 rfl rfl (k := tl + k) (x := lb (v >>> (nI (24 - 8 * k) &&& 31))) (by omega) (by decide) dM_feed_57 (fun H locs hP hD hS => ?_)
              have hP : va_P (dC, dI) vwCl (wM g m1 m2 m3 m4 m5 m6 m7 m8 m9 m10 m11 m12 m13 ci (updN (fdM mt tl v k) (tl + k) (lb (v >>> (nI (24 - 8 * k) &&& 31)))) (tl + k) rc kp ms mi ml mb mf mo my (np / 56) (np % 56) md mu fi sp sq) H := hP
              have hD : va_D A (wM g m1 m2 m3 m4 m5 m6 m7 m8 m9 m10 m11 m12 m13 ci (updN (fdM mt tl v k) (tl + k) (lb (v >>> (nI (24 - 8 * k) &&& 31)))) (tl + k) rc kp ms mi ml mb mf mo my (np / 56) (np % 56) md mu fi sp sq) := hD
              refine lv_aload_n hx hb dM_feed_58 rfl (lv_at hl 1 rfl) ?_
              refine lv_dup hx hb dM_feed_59 rfl ?_
              refine va_get (D := (dC, dI)) (ci := 1) (v := .int (nI (tl + k))) (C := RX1) (T := TX1) (N := 19) hx hb hts hin1 hown hK hP 0 rfl rfl 2 (by decide) lkf53 (fun _ h9 => h9) rfl dM_feed_60 ?_
              refine lv_iconst (v := nI 1) hx hb dM_feed_63 (by decide) ?_
              refine lv_iadd hx hb dM_feed_64 ?_
              refine kv_top (show _ = nI ((tl + k) + 1) from nI_add _ _) ?_
              refine va_put (D := (dC, dI)) (ci := 1) (v := .int (nI ((tl + k) + 1))) (ty := .int) (C := RX1) (T := TX1) (N := 19) hx hb hts hin1 tyX1 tyX1_ok nmX1 hown hK hP hD hS 0 rfl rfl 2 (by decide) lkf53 (fun _ h9 => h9) rfl (by decide +kernel) rfl rfl (Nat.le_of_ble_eq_true rfl) dM_feed_65 (fun H locs hP hD hS => ?_)
              have hP : va_P (dC, dI) vwCl (wM g m1 m2 m3 m4 m5 m6 m7 m8 m9 m10 m11 m12 m13 ci (updN (fdM mt tl v k) (tl + k) (lb (v >>> (nI (24 - 8 * k) &&& 31)))) ((tl + k) + 1) rc kp ms mi ml mb mf mo my (np / 56) (np % 56) md mu fi sp sq) H := hP
              have hD : va_D A (wM g m1 m2 m3 m4 m5 m6 m7 m8 m9 m10 m11 m12 m13 ci (updN (fdM mt tl v k) (tl + k) (lb (v >>> (nI (24 - 8 * k) &&& 31)))) ((tl + k) + 1) rc kp ms mi ml mb mf mo my (np / 56) (np % 56) md mu fi sp sq) := hD
              refine lv_iinc (v := nI (k + 1)) (lv' := [(3, .int (nI (k + 1))), (0, .ref g), (1, .int v), (2, .int (nI j))]) hx hb dM_feed_68 hl (k := 0) rfl (ki_inc _) (by decide) rfl (fun ls hl => ?_)
              refine lv_goto (tgt := 31) hx hb dM_feed_71 (by decide) ?_
              have hP : va_P (dC, dI) vwCl (wM g m1 m2 m3 m4 m5 m6 m7 m8 m9 m10 m11 m12 m13 ci (fdM mt tl v (k + 1)) (tl + (k + 1)) rc kp ms mi ml mb mf mo my (np / 56) (np % 56) md mu fi sp sq) H := hP
              have hD : va_D A (wM g m1 m2 m3 m4 m5 m6 m7 m8 m9 m10 m11 m12 m13 ci (fdM mt tl v (k + 1)) (tl + (k + 1)) rc kp ms mi ml mb mf mo my (np / 56) (np % 56) md mu fi sp sq) := hD
              exact ih (k + 1) (by omega) (by omega) _ _ _ hP hD hS (lv_sub hl [0, 1, 2, 3] rfl)
        have hP : va_P (dC, dI) vwCl (wM g m1 m2 m3 m4 m5 m6 m7 m8 m9 m10 m11 m12 m13 ci (fdM mt tl v (0)) (tl + (0)) rc kp ms mi ml mb mf mo my (np / 56) (np % 56) md mu fi sp sq) H := hP
        have hD : va_D A (wM g m1 m2 m3 m4 m5 m6 m7 m8 m9 m10 m11 m12 m13 ci (fdM mt tl v (0)) (tl + (0)) rc kp ms mi ml mb mf mo my (np / 56) (np % 56) md mu fi sp sq) := hD
        exact hloopk (j + 1) 0 (by omega) (by omega) _ _ _ hP hD hS (lv_sub hl [0, 1, 2, 3] rfl)
      · have c_24 := kmt (nI_leI (by omega) (by omega)).mpr c_24
        exfalso; omega
set_option maxHeartbeats 4000000 in
set_option maxRecDepth 100000 in
theorem r_feedN (l : Launch) (dC : Nat → ClassId) (dI : Nat → Nat → Nat) (g m1 m2 m3 m4 m5 m6 m7 m8 m9 m10 m11 m12 m13 : Nat) (ci : ClassId) (mt : Nat → Nat) (tl rc kp : Nat) (ms mi ml mb mf mo my : Nat → Nat) (np : Nat) (md mu fi : Nat → Nat) (sp : Nat → Int32) (sq : Nat → Nat) (sz : Nat) (v : Int32) (x : Int32) (htl : tl ≤ 300) (hno : ¬ (1 ≤ x.toInt ∧ x.toInt ≤ 4 ∧ tl + x.toInt ≤ 300)) : Met l yM_feed wsM_feed ({ frames := 0, cells := 0, slots := 0, locals := 0 }) (kPre (dC, dI) vwCl (wM g m1 m2 m3 m4 m5 m6 m7 m8 m9 m10 m11 m12 m13 ci mt tl rc kp ms mi ml mb mf mo my (np / 56) (np % 56) md mu fi sp sq) (tM ci) sz [.ref g, .int v, .int x]) (kQi (dC, dI) vwCl (wM g m1 m2 m3 m4 m5 m6 m7 m8 m9 m10 m11 m12 m13 ci mt tl rc kp ms mi ml mb mf mo my (np / 56) (np % 56) md mu fi sp sq) (tM ci) sz ((-1)) (wM g m1 m2 m3 m4 m5 m6 m7 m8 m9 m10 m11 m12 m13 ci mt tl rc kp ms mi ml mb mf mo my (np / 56) (np % 56) md mu fi sp sq)) 0 0 (va_A (wM g m1 m2 m3 m4 m5 m6 m7 m8 m9 m10 m11 m12 m13 ci mt tl rc kp ms mi ml mb mf mo my (np / 56) (np % 56) md mu fi sp sq) sz) := by
  refine kM_i (cc := cM_feed) (maxL := 4) (by decide) rfl (Nat.le_of_ble_eq_true rfl) ?_
  intro p e s m below meth c A Q ls H locs S hP hK hD hS hA hl hret
  obtain ⟨hx, hb, hml, hown, hts⟩ := id S
  have hin1 : ∀ w ∈ u_ws RX1 TX1 19, w ∈ wsM_feed := fun _ h => List.mem_cons_of_mem _ (List.mem_append_right _ h)
  have lkf49 := hts (.fieldLink RX1 49 "BlockTapeModel" "thrown" "I") (by decide +kernel)
  have lkf53 := hts (.fieldLink RX1 53 "BlockTapeModel" "taped" "I") (by decide +kernel)
  have hl : lv_has ls 4 [(0, .ref g), (1, .int v), (2, .int x)] := hl
  refine lv_aload_n hx hb dM_feed_0 rfl (lv_at hl 0 rfl) ?_
  refine lv_iconst (v := nI 0) hx hb dM_feed_1 (by decide) ?_
  refine va_put (D := (dC, dI)) (ci := 1) (v := .int (nI 0)) (ty := .int) (C := RX1) (T := TX1) (N := 19) hx hb hts hin1 tyX1 tyX1_ok nmX1 hown hK hP hD hS 0 rfl rfl 0 (by decide) lkf49 (fun _ h9 => h9) rfl (by decide +kernel) rfl rfl (Nat.le_of_ble_eq_true rfl) dM_feed_2 (fun H locs hP hD hS => ?_)
  have hP : va_P (dC, dI) vwCl (wM g m1 m2 m3 m4 m5 m6 m7 m8 m9 m10 m11 m12 m13 ci mt tl rc kp ms mi ml mb mf mo my (np / 56) (np % 56) md mu fi sp sq) H := hP
  have hD : va_D A (wM g m1 m2 m3 m4 m5 m6 m7 m8 m9 m10 m11 m12 m13 ci mt tl rc kp ms mi ml mb mf mo my (np / 56) (np % 56) md mu fi sp sq) := hD
  refine lv_iload_n hx hb dM_feed_5 rfl (lv_at hl 2 rfl) ?_
  refine lv_iconst (v := nI 1) hx hb dM_feed_6 (by decide) ?_
  refine lv_icmp_lt (tgt := 27) hx hb dM_feed_7 (by decide) (fun c_7 => ?_) (fun c_7 => ?_)
  · have c_7 := (kx_lt (by omega)).mp c_7
    refine lv_iconst (v := (-1)) hx hb dM_feed_27 (by decide) ?_
    exact hret _ _ _ _ hP hD hS dM_feed_28
  · have c_7 := kmt (kx_lt (by omega)).mpr c_7
    refine lv_iload_n hx hb dM_feed_10 rfl (lv_at hl 2 rfl) ?_
    refine lv_iconst (v := nI 4) hx hb dM_feed_11 (by decide) ?_
    refine lv_icmp_gt (tgt := 27) hx hb dM_feed_12 (by decide) (fun c_12 => ?_) (fun c_12 => ?_)
    · have c_12 := (kx_gt (by omega)).mp c_12
      refine lv_iconst (v := (-1)) hx hb dM_feed_27 (by decide) ?_
      exact hret _ _ _ _ hP hD hS dM_feed_28
    · have c_12 := kmt (kx_gt (by omega)).mpr c_12
      have hxb : ∃ j : Nat, j < 2 ^ 31 ∧ x = nI j := kx_of (by omega)
      obtain ⟨j, hj, rfl⟩ := hxb
      rw [nI_toInt hj] at c_7 c_12 hno
      refine lv_aload_n hx hb dM_feed_15 rfl (lv_at hl 0 rfl) ?_
      refine va_get (D := (dC, dI)) (ci := 1) (v := .int (nI tl)) (C := RX1) (T := TX1) (N := 19) hx hb hts hin1 hown hK hP 0 rfl rfl 2 (by decide) lkf53 (fun _ h9 => h9) rfl dM_feed_16 ?_
      refine lv_iload_n hx hb dM_feed_19 rfl (lv_at hl 2 rfl) ?_
      refine lv_iadd hx hb dM_feed_20 ?_
      refine kv_top (show _ = nI (tl + j) from nI_add _ _) ?_
      refine lv_sipush (v := nI 300) hx hb dM_feed_21 (by decide) ?_
      refine lv_icmp_le (tgt := 29) hx hb dM_feed_24 (by decide) (fun c_24 => ?_) (fun c_24 => ?_)
      · have c_24 := (nI_leI (by omega) (by omega)).mp c_24
        exfalso; omega
      · have c_24 := kmt (nI_leI (by omega) (by omega)).mpr c_24
        refine lv_iconst (v := (-1)) hx hb dM_feed_27 (by decide) ?_
        exact hret _ _ _ _ hP hD hS dM_feed_28
set_option maxHeartbeats 4000000 in
set_option maxRecDepth 100000 in
theorem r_put (l : Launch) (dC : Nat → ClassId) (dI : Nat → Nat → Nat) (g m1 m2 m3 m4 m5 m6 m7 m8 m9 m10 m11 m12 m13 : Nat) (ci : ClassId) (mt : Nat → Nat) (tl rc kp : Nat) (ms mi ml mb mf mo my : Nat → Nat) (np : Nat) (md mu fi : Nat → Nat) (sp : Nat → Int32) (sq : Nat → Nat) (sz : Nat) (sv : Int32) (iv : Int32) (htl : tl ≤ 300) (hnp : np ≤ 4480) (hrc : rc ≤ 200) (hs : 0 ≤ sv.toInt ∧ sv.toInt ≤ 255) (hi : 0 ≤ iv.toInt ∧ iv.toInt ≤ 65535) (hroom : rc < 200 ∧ np + 6 + tl ≤ 4480) (hkp : kp + tl ≤ 4480) (hfi : fi (np / 56) < 256) : Met l yM_put wsM_put ({ frames := 2, cells := 0, slots := 0, locals := 42 }) (kPre (dC, dI) vwCl (wM g m1 m2 m3 m4 m5 m6 m7 m8 m9 m10 m11 m12 m13 ci mt tl rc kp ms mi ml mb mf mo my (np / 56) (np % 56) md mu fi sp sq) (tM ci) sz [.ref g, .int sv, .int iv]) (kQi (dC, dI) vwCl (wM g m1 m2 m3 m4 m5 m6 m7 m8 m9 m10 m11 m12 m13 ci mt tl rc kp ms mi ml mb mf mo my (np / 56) (np % 56) md mu fi sp sq) (tM ci) sz (nI rc) (wM g m1 m2 m3 m4 m5 m6 m7 m8 m9 m10 m11 m12 m13 ci mt 0 (rc + 1) (kp + tl) (updN ms rc sv.toInt.toNat) (updN mi rc iv.toInt.toNat) (updN ml rc tl) (updN mb rc kp) (updN mf rc (np / 56)) (lO (updN mo rc ((np + 5) / 56)) rc (np + 6) tl) (lY my kp mt tl) ((np + 6 + tl) / 56) ((np + 6 + tl) % 56) (lD (hD6 md np sv iv tl) (np + 6) mt tl) (lU (lU mu np 6) (np + 6) tl) (lG (lG (aF fi np) (np + 1) 5) (np + 6) tl) (lS (lS sp np 6) (np + 6) tl) sq)) 0 0 (va_A (wM g m1 m2 m3 m4 m5 m6 m7 m8 m9 m10 m11 m12 m13 ci mt tl rc kp ms mi ml mb mf mo my (np / 56) (np % 56) md mu fi sp sq) sz) := by
  refine kM_i (cc := cM_put) (maxL := 5) (by decide) rfl (Nat.le_of_ble_eq_true rfl) ?_
  intro p e s m below meth c A Q ls H locs S hP hK hD hS hA hl hret
  obtain ⟨hx, hb, hml, hown, hts⟩ := id S
  have hin1 : ∀ w ∈ u_ws RX1 TX1 19, w ∈ wsM_put := fun _ h => List.mem_cons_of_mem _ (List.mem_append_right _ h)
  have lkf49 := hts (.fieldLink RX1 49 "BlockTapeModel" "thrown" "I") (by decide +kernel)
  have lkc65 := hts (.constant RX1 65 (65535)) (by decide +kernel)
  have lkf66 := hts (.fieldLink RX1 66 "BlockTapeModel" "records" "I") (by decide +kernel)
  have lkf53 := hts (.fieldLink RX1 53 "BlockTapeModel" "taped" "I") (by decide +kernel)
  have lkf13 := hts (.fieldLink RX1 13 "BlockTapeModel" "stream" "[I") (by decide +kernel)
  have lkf16 := hts (.fieldLink RX1 16 "BlockTapeModel" "index" "[I") (by decide +kernel)
  have lkf19 := hts (.fieldLink RX1 19 "BlockTapeModel" "length" "[I") (by decide +kernel)
  have lkf22 := hts (.fieldLink RX1 22 "BlockTapeModel" "begin" "[I") (by decide +kernel)
  have lkf73 := hts (.fieldLink RX1 73 "BlockTapeModel" "kept" "I") (by decide +kernel)
  have lkf25 := hts (.fieldLink RX1 25 "BlockTapeModel" "fromBlock" "[I") (by decide +kernel)
  have lkf56 := hts (.fieldLink RX1 56 "BlockTapeModel" "written" "I") (by decide +kernel)
  have lkf28 := hts (.fieldLink RX1 28 "BlockTapeModel" "toBlock" "[I") (by decide +kernel)
  have lkf31 := hts (.fieldLink RX1 31 "BlockTapeModel" "bytes" "[I") (by decide +kernel)
  have lkf7 := hts (.fieldLink RX1 7 "BlockTapeModel" "tape" "[I") (by decide +kernel)
  have hl : lv_has ls 5 [(0, .ref g), (1, .int sv), (2, .int iv)] := hl
  refine lv_aload_n hx hb dM_put_0 rfl (lv_at hl 0 rfl) ?_
  refine lv_iconst (v := nI 0) hx hb dM_put_1 (by decide) ?_
  refine va_put (D := (dC, dI)) (ci := 1) (v := .int (nI 0)) (ty := .int) (C := RX1) (T := TX1) (N := 19) hx hb hts hin1 tyX1 tyX1_ok nmX1 hown hK hP hD hS 0 rfl rfl 0 (by decide) lkf49 (fun _ h9 => h9) rfl (by decide +kernel) rfl rfl (Nat.le_of_ble_eq_true rfl) dM_put_2 (fun H locs hP hD hS => ?_)
  have hP : va_P (dC, dI) vwCl (wM g m1 m2 m3 m4 m5 m6 m7 m8 m9 m10 m11 m12 m13 ci mt tl rc kp ms mi ml mb mf mo my (np / 56) (np % 56) md mu fi sp sq) H := hP
  have hD : va_D A (wM g m1 m2 m3 m4 m5 m6 m7 m8 m9 m10 m11 m12 m13 ci mt tl rc kp ms mi ml mb mf mo my (np / 56) (np % 56) md mu fi sp sq) := hD
  refine lv_iload_n hx hb dM_put_5 rfl (lv_at hl 1 rfl) ?_
  refine lv_if_lt (tgt := 50) hx hb dM_put_6 (by decide) (fun c_6 => ?_) (fun c_6 => ?_)
  · have c_6 := (kx_lt0).mp c_6
    exfalso; omega
  · have c_6 := kmt (kx_lt0).mpr c_6
    refine lv_iload_n hx hb dM_put_9 rfl (lv_at hl 1 rfl) ?_
    refine lv_sipush (v := nI 255) hx hb dM_put_10 (by decide) ?_
    refine lv_icmp_gt (tgt := 50) hx hb dM_put_13 (by decide) (fun c_13 => ?_) (fun c_13 => ?_)
    · have c_13 := (kx_gt (by omega)).mp c_13
      exfalso; omega
    · have c_13 := kmt (kx_gt (by omega)).mpr c_13
      refine lv_iload_n hx hb dM_put_16 rfl (lv_at hl 2 rfl) ?_
      refine lv_if_lt (tgt := 50) hx hb dM_put_17 (by decide) (fun c_17 => ?_) (fun c_17 => ?_)
      · have c_17 := (kx_lt0).mp c_17
        exfalso; omega
      · have c_17 := kmt (kx_lt0).mpr c_17
        refine lv_iload_n hx hb dM_put_20 rfl (lv_at hl 2 rfl) ?_
        refine lv_ldc (v := nI 65535) hx hb hown lkc65 dM_put_21 ?_
        refine lv_icmp_gt (tgt := 50) hx hb dM_put_23 (by decide) (fun c_23 => ?_) (fun c_23 => ?_)
        · have c_23 := (kx_gt (by omega)).mp c_23
          exfalso; omega
        · have c_23 := kmt (kx_gt (by omega)).mpr c_23
          refine lv_aload_n hx hb dM_put_26 rfl (lv_at hl 0 rfl) ?_
          refine va_get (D := (dC, dI)) (ci := 1) (v := .int (nI rc)) (C := RX1) (T := TX1) (N := 19) hx hb hts hin1 hown hK hP 0 rfl rfl 3 (by decide) lkf66 (fun _ h9 => h9) rfl dM_put_27 ?_
          refine lv_sipush (v := nI 200) hx hb dM_put_30 (by decide) ?_
          refine lv_icmp_eq (tgt := 50) hx hb dM_put_33 (by decide) (fun c_33 => ?_) (fun c_33 => ?_)
          · have c_33 := (nI_eq (by omega) (by omega)).mp c_33
            exfalso; omega
          · have c_33 := kmt (nI_eq (by omega) (by omega)).mpr c_33
            refine lv_aload_n hx hb dM_put_36 rfl (lv_at hl 0 rfl) ?_
            refine kc_vi (WR := []) (As := []) (rest := []) ⟨hx, hb, hml, hown, hts⟩ (r_room l dC dI g m1 m2 m3 m4 m5 m6 m7 m8 m9 m10 m11 m12 m13 ci mt tl rc kp ms mi ml mb mf mo my np md mu fi sp sq H.size (by omega)) (cwV 0 hts gM_put_M_room rfl rfl rfl (by decide +kernel) ⟨Nat.le_of_ble_eq_true rfl, Nat.le_of_ble_eq_true rfl⟩) hK hP hD hS hA [0, 1, 2, 3, 4, 5, 6, 7, 8, 9, 10, 11, 12, 13] [] [0] rfl rfl (by decide) (by decide) (by decide) rfl 0 1 rfl rfl rfl rfl hl.1 rfl (Nat.le_of_ble_eq_true rfl) dM_put_37 ⟨Nat.zero_le _, Nat.zero_le _⟩ (fun H locs hP hD hS => ?_)
            have hP : va_P (dC, dI) vwCl (wM g m1 m2 m3 m4 m5 m6 m7 m8 m9 m10 m11 m12 m13 ci mt tl rc kp ms mi ml mb mf mo my (np / 56) (np % 56) md mu fi sp sq) H := hP
            have hD : va_D A (wM g m1 m2 m3 m4 m5 m6 m7 m8 m9 m10 m11 m12 m13 ci mt tl rc kp ms mi ml mb mf mo my (np / 56) (np % 56) md mu fi sp sq) := hD
            refine lv_bipush (v := nI 6) hx hb dM_put_40 (by decide) ?_
            refine lv_aload_n hx hb dM_put_42 rfl (lv_at hl 0 rfl) ?_
            refine va_get (D := (dC, dI)) (ci := 1) (v := .int (nI tl)) (C := RX1) (T := TX1) (N := 19) hx hb hts hin1 hown hK hP 0 rfl rfl 2 (by decide) lkf53 (fun _ h9 => h9) rfl dM_put_43 ?_
            refine lv_iadd hx hb dM_put_46 ?_
            refine kv_top (show _ = nI (6 + tl) from nI_add _ _) ?_
            refine lv_icmp_ge (tgt := 52) hx hb dM_put_47 (by decide) (fun c_47 => ?_) (fun c_47 => ?_)
            · have c_47 := (nI_leI (by omega) (by omega)).mp c_47
              obtain ⟨js, hjs, rfl⟩ := kx_of (x := sv) (by omega)
              obtain ⟨ji, hji, rfl⟩ := kx_of (x := iv) (by omega)
              rw [nI_toInt hjs] at hs; rw [nI_toInt hji] at hi
              simp only [nI_tn hjs, nI_tn hji] at hret
              refine lv_aload_n hx hb dM_put_52 rfl (lv_at hl 0 rfl) ?_
              refine va_get (D := (dC, dI)) (ci := 1) (v := .int (nI rc)) (C := RX1) (T := TX1) (N := 19) hx hb hts hin1 hown hK hP 0 rfl rfl 3 (by decide) lkf66 (fun _ h9 => h9) rfl dM_put_53 ?_
              refine lv_istore_n (lv' := [(3, .int (nI rc)), (0, .ref g), (1, .int (nI js)), (2, .int (nI ji))]) hx hb dM_put_56 rfl hl (by decide) rfl (fun ls hl => ?_)
              refine lv_aload_n hx hb dM_put_57 rfl (lv_at hl 1 rfl) ?_
              refine va_get (D := (dC, dI)) (ci := 1) (v := .ref m2) (C := RX1) (T := TX1) (N := 19) hx hb hts hin1 hown hK hP 0 rfl rfl 5 (by decide) lkf13 (fun _ h9 => h9) rfl dM_put_58 ?_
              refine lv_iload_n hx hb dM_put_61 rfl (lv_at hl 0 rfl) ?_
              refine lv_iload_n hx hb dM_put_62 rfl (lv_at hl 2 rfl) ?_
              refine ka_iastN hx hb hK hP hD hS 2 0 rfl rfl (k := rc) (x := js) (by omega) (by decide) dM_put_63 (fun H locs hP hD hS => ?_)
              have hP : va_P (dC, dI) vwCl (wM g m1 m2 m3 m4 m5 m6 m7 m8 m9 m10 m11 m12 m13 ci mt tl rc kp (updN ms rc js) mi ml mb mf mo my (np / 56) (np % 56) md mu fi sp sq) H := hP
              have hD : va_D A (wM g m1 m2 m3 m4 m5 m6 m7 m8 m9 m10 m11 m12 m13 ci mt tl rc kp (updN ms rc js) mi ml mb mf mo my (np / 56) (np % 56) md mu fi sp sq) := hD
              refine lv_aload_n hx hb dM_put_64 rfl (lv_at hl 1 rfl) ?_
              refine va_get (D := (dC, dI)) (ci := 1) (v := .ref m3) (C := RX1) (T := TX1) (N := 19) hx hb hts hin1 hown hK hP 0 rfl rfl 6 (by decide) lkf16 (fun _ h9 => h9) rfl dM_put_65 ?_
              refine lv_iload_n hx hb dM_put_68 rfl (lv_at hl 0 rfl) ?_
              refine lv_iload_n hx hb dM_put_69 rfl (lv_at hl 3 rfl) ?_
              refine ka_iastN hx hb hK hP hD hS 3 0 rfl rfl (k := rc) (x := ji) (by omega) (by decide) dM_put_70 (fun H locs hP hD hS => ?_)
              have hP : va_P (dC, dI) vwCl (wM g m1 m2 m3 m4 m5 m6 m7 m8 m9 m10 m11 m12 m13 ci mt tl rc kp (updN ms rc js) (updN mi rc ji) ml mb mf mo my (np / 56) (np % 56) md mu fi sp sq) H := hP
              have hD : va_D A (wM g m1 m2 m3 m4 m5 m6 m7 m8 m9 m10 m11 m12 m13 ci mt tl rc kp (updN ms rc js) (updN mi rc ji) ml mb mf mo my (np / 56) (np % 56) md mu fi sp sq) := hD
              refine lv_aload_n hx hb dM_put_71 rfl (lv_at hl 1 rfl) ?_
              refine va_get (D := (dC, dI)) (ci := 1) (v := .ref m4) (C := RX1) (T := TX1) (N := 19) hx hb hts hin1 hown hK hP 0 rfl rfl 7 (by decide) lkf19 (fun _ h9 => h9) rfl dM_put_72 ?_
              refine lv_iload_n hx hb dM_put_75 rfl (lv_at hl 0 rfl) ?_
              refine lv_aload_n hx hb dM_put_76 rfl (lv_at hl 1 rfl) ?_
              refine va_get (D := (dC, dI)) (ci := 1) (v := .int (nI tl)) (C := RX1) (T := TX1) (N := 19) hx hb hts hin1 hown hK hP 0 rfl rfl 2 (by decide) lkf53 (fun _ h9 => h9) rfl dM_put_77 ?_
              refine ka_iastN hx hb hK hP hD hS 4 0 rfl rfl (k := rc) (x := tl) (by omega) (by decide) dM_put_80 (fun H locs hP hD hS => ?_)
              have hP : va_P (dC, dI) vwCl (wM g m1 m2 m3 m4 m5 m6 m7 m8 m9 m10 m11 m12 m13 ci mt tl rc kp (updN ms rc js) (updN mi rc ji) (updN ml rc tl) mb mf mo my (np / 56) (np % 56) md mu fi sp sq) H := hP
              have hD : va_D A (wM g m1 m2 m3 m4 m5 m6 m7 m8 m9 m10 m11 m12 m13 ci mt tl rc kp (updN ms rc js) (updN mi rc ji) (updN ml rc tl) mb mf mo my (np / 56) (np % 56) md mu fi sp sq) := hD
              refine lv_aload_n hx hb dM_put_81 rfl (lv_at hl 1 rfl) ?_
              refine va_get (D := (dC, dI)) (ci := 1) (v := .ref m5) (C := RX1) (T := TX1) (N := 19) hx hb hts hin1 hown hK hP 0 rfl rfl 8 (by decide) lkf22 (fun _ h9 => h9) rfl dM_put_82 ?_
              refine lv_iload_n hx hb dM_put_85 rfl (lv_at hl 0 rfl) ?_
              refine lv_aload_n hx hb dM_put_86 rfl (lv_at hl 1 rfl) ?_
              refine va_get (D := (dC, dI)) (ci := 1) (v := .int (nI kp)) (C := RX1) (T := TX1) (N := 19) hx hb hts hin1 hown hK hP 0 rfl rfl 4 (by decide) lkf73 (fun _ h9 => h9) rfl dM_put_87 ?_
              refine ka_iastN hx hb hK hP hD hS 5 0 rfl rfl (k := rc) (x := kp) (by omega) (by decide) dM_put_90 (fun H locs hP hD hS => ?_)
              have hP : va_P (dC, dI) vwCl (wM g m1 m2 m3 m4 m5 m6 m7 m8 m9 m10 m11 m12 m13 ci mt tl rc kp (updN ms rc js) (updN mi rc ji) (updN ml rc tl) (updN mb rc kp) mf mo my (np / 56) (np % 56) md mu fi sp sq) H := hP
              have hD : va_D A (wM g m1 m2 m3 m4 m5 m6 m7 m8 m9 m10 m11 m12 m13 ci mt tl rc kp (updN ms rc js) (updN mi rc ji) (updN ml rc tl) (updN mb rc kp) mf mo my (np / 56) (np % 56) md mu fi sp sq) := hD
              refine lv_aload_n hx hb dM_put_91 rfl (lv_at hl 1 rfl) ?_
              refine va_get (D := (dC, dI)) (ci := 1) (v := .ref m6) (C := RX1) (T := TX1) (N := 19) hx hb hts hin1 hown hK hP 0 rfl rfl 9 (by decide) lkf25 (fun _ h9 => h9) rfl dM_put_92 ?_
              refine lv_iload_n hx hb dM_put_95 rfl (lv_at hl 0 rfl) ?_
              refine lv_aload_n hx hb dM_put_96 rfl (lv_at hl 1 rfl) ?_
              refine va_get (D := (dC, dI)) (ci := 1) (v := .int (nI (np / 56))) (C := RX1) (T := TX1) (N := 19) hx hb hts hin1 hown hK hP 0 rfl rfl 12 (by decide) lkf56 (fun _ h9 => h9) rfl dM_put_97 ?_
              refine ka_iastN hx hb hK hP hD hS 6 0 rfl rfl (k := rc) (x := np / 56) (by omega) (by decide) dM_put_100 (fun H locs hP hD hS => ?_)
              have hP : va_P (dC, dI) vwCl (wM g m1 m2 m3 m4 m5 m6 m7 m8 m9 m10 m11 m12 m13 ci mt tl rc kp (updN ms rc js) (updN mi rc ji) (updN ml rc tl) (updN mb rc kp) (updN mf rc (np / 56)) mo my (np / 56) (np % 56) md mu fi sp sq) H := hP
              have hD : va_D A (wM g m1 m2 m3 m4 m5 m6 m7 m8 m9 m10 m11 m12 m13 ci mt tl rc kp (updN ms rc js) (updN mi rc ji) (updN ml rc tl) (updN mb rc kp) (updN mf rc (np / 56)) mo my (np / 56) (np % 56) md mu fi sp sq) := hD
              refine lv_aload_n hx hb dM_put_101 rfl (lv_at hl 1 rfl) ?_
              refine lv_iload_n hx hb dM_put_102 rfl (lv_at hl 2 rfl) ?_
              refine lv_iconst (v := nI 1) hx hb dM_put_103 (by decide) ?_
              refine kc_vv (WR := []) (As := [.int (nI js), .int (nI 1)]) (rest := []) ⟨hx, hb, hml, hown, hts⟩ (r_add1 l dC dI g m1 m2 m3 m4 m5 m6 m7 m8 m9 m10 m11 m12 m13 ci mt tl rc kp (updN ms rc js) (updN mi rc ji) (updN ml rc tl) (updN mb rc kp) (updN mf rc (np / 56)) mo my np md mu fi sp sq H.size (nI js) (by omega) hfi) (cwV 2 hts gM_put_M_add rfl rfl rfl (by decide +kernel) ⟨Nat.le_of_ble_eq_true rfl, Nat.le_of_ble_eq_true rfl⟩) hK hP hD hS hA [0, 1, 2, 3, 4, 5, 6, 7, 8, 9, 10, 11, 12, 13] [] [0] rfl rfl (by decide) (by decide) (by decide) rfl 0 1 rfl rfl rfl rfl hl.1 rfl (Nat.le_of_ble_eq_true rfl) dM_put_104 ⟨Nat.zero_le _, Nat.zero_le _⟩ (fun H locs hP hD hS => ?_)
              have hP : va_P (dC, dI) vwCl (wM g m1 m2 m3 m4 m5 m6 m7 m8 m9 m10 m11 m12 m13 ci mt tl rc kp (updN ms rc js) (updN mi rc ji) (updN ml rc tl) (updN mb rc kp) (updN mf rc (np / 56)) mo my ((np + 1) / 56) ((np + 1) % 56) (updN md np (lb (nI js))) (aU mu np) (aF fi np) (aS sp np) sq) H := hP
              have hD : va_D A (wM g m1 m2 m3 m4 m5 m6 m7 m8 m9 m10 m11 m12 m13 ci mt tl rc kp (updN ms rc js) (updN mi rc ji) (updN ml rc tl) (updN mb rc kp) (updN mf rc (np / 56)) mo my ((np + 1) / 56) ((np + 1) % 56) (updN md np (lb (nI js))) (aU mu np) (aF fi np) (aS sp np) sq) := hD
              refine lv_aload_n hx hb dM_put_107 rfl (lv_at hl 1 rfl) ?_
              refine lv_iload_n hx hb dM_put_108 rfl (lv_at hl 3 rfl) ?_
              refine lv_bipush (v := nI 8) hx hb dM_put_109 (by decide) ?_
              refine lv_ishr hx hb dM_put_111 ?_
              refine lv_iconst (v := nI 0) hx hb dM_put_112 (by decide) ?_
              refine kc_vv (WR := []) (As := [.int ((nI ji) >>> ((nI 8) &&& 31)), .int (nI 0)]) (rest := []) ⟨hx, hb, hml, hown, hts⟩ (r_add0 l dC dI g m1 m2 m3 m4 m5 m6 m7 m8 m9 m10 m11 m12 m13 ci mt tl rc kp (updN ms rc js) (updN mi rc ji) (updN ml rc tl) (updN mb rc kp) (updN mf rc (np / 56)) mo my (np + 1) (updN md np (lb (nI js))) (aU mu np) (aF fi np) (aS sp np) sq H.size ((nI ji) >>> ((nI 8) &&& 31)) (by omega)) (cwV 2 hts gM_put_M_add rfl rfl rfl (by decide +kernel) ⟨Nat.le_of_ble_eq_true rfl, Nat.le_of_ble_eq_true rfl⟩) hK hP hD hS hA [0, 1, 2, 3, 4, 5, 6, 7, 8, 9, 10, 11, 12, 13] [] [0] rfl rfl (by decide) (by decide) (by decide) rfl 0 1 rfl rfl rfl rfl hl.1 rfl (Nat.le_of_ble_eq_true rfl) dM_put_113 ⟨Nat.zero_le _, Nat.zero_le _⟩ (fun H locs hP hD hS => ?_)
              have hP : va_P (dC, dI) vwCl (wM g m1 m2 m3 m4 m5 m6 m7 m8 m9 m10 m11 m12 m13 ci mt tl rc kp (updN ms rc js) (updN mi rc ji) (updN ml rc tl) (updN mb rc kp) (updN mf rc (np / 56)) mo my (((np + 1) + 1) / 56) (((np + 1) + 1) % 56) (updN (updN md np (lb (nI js))) (np + 1) (lb ((nI ji) >>> ((nI 8) &&& 31)))) (aU (aU mu np) (np + 1)) (aG (aF fi np) (np + 1)) (aS (aS sp np) (np + 1)) sq) H := hP
              have hD : va_D A (wM g m1 m2 m3 m4 m5 m6 m7 m8 m9 m10 m11 m12 m13 ci mt tl rc kp (updN ms rc js) (updN mi rc ji) (updN ml rc tl) (updN mb rc kp) (updN mf rc (np / 56)) mo my (((np + 1) + 1) / 56) (((np + 1) + 1) % 56) (updN (updN md np (lb (nI js))) (np + 1) (lb ((nI ji) >>> ((nI 8) &&& 31)))) (aU (aU mu np) (np + 1)) (aG (aF fi np) (np + 1)) (aS (aS sp np) (np + 1)) sq) := hD
              refine lv_aload_n hx hb dM_put_116 rfl (lv_at hl 1 rfl) ?_
              refine lv_iload_n hx hb dM_put_117 rfl (lv_at hl 3 rfl) ?_
              refine lv_iconst (v := nI 0) hx hb dM_put_118 (by decide) ?_
              refine kc_vv (WR := []) (As := [.int (nI ji), .int (nI 0)]) (rest := []) ⟨hx, hb, hml, hown, hts⟩ (r_add0 l dC dI g m1 m2 m3 m4 m5 m6 m7 m8 m9 m10 m11 m12 m13 ci mt tl rc kp (updN ms rc js) (updN mi rc ji) (updN ml rc tl) (updN mb rc kp) (updN mf rc (np / 56)) mo my (np + 2) (updN (updN md np (lb (nI js))) (np + 1) (lb ((nI ji) >>> ((nI 8) &&& 31)))) (aU (aU mu np) (np + 1)) (aG (aF fi np) (np + 1)) (aS (aS sp np) (np + 1)) sq H.size (nI ji) (by omega)) (cwV 2 hts gM_put_M_add rfl rfl rfl (by decide +kernel) ⟨Nat.le_of_ble_eq_true rfl, Nat.le_of_ble_eq_true rfl⟩) hK hP hD hS hA [0, 1, 2, 3, 4, 5, 6, 7, 8, 9, 10, 11, 12, 13] [] [0] rfl rfl (by decide) (by decide) (by decide) rfl 0 1 rfl rfl rfl rfl hl.1 rfl (Nat.le_of_ble_eq_true rfl) dM_put_119 ⟨Nat.zero_le _, Nat.zero_le _⟩ (fun H locs hP hD hS => ?_)
              have hP : va_P (dC, dI) vwCl (wM g m1 m2 m3 m4 m5 m6 m7 m8 m9 m10 m11 m12 m13 ci mt tl rc kp (updN ms rc js) (updN mi rc ji) (updN ml rc tl) (updN mb rc kp) (updN mf rc (np / 56)) mo my (((np + 2) + 1) / 56) (((np + 2) + 1) % 56) (updN (updN (updN md np (lb (nI js))) (np + 1) (lb ((nI ji) >>> ((nI 8) &&& 31)))) (np + 2) (lb (nI ji))) (aU (aU (aU mu np) (np + 1)) (np + 2)) (aG (aG (aF fi np) (np + 1)) (np + 2)) (aS (aS (aS sp np) (np + 1)) (np + 2)) sq) H := hP
              have hD : va_D A (wM g m1 m2 m3 m4 m5 m6 m7 m8 m9 m10 m11 m12 m13 ci mt tl rc kp (updN ms rc js) (updN mi rc ji) (updN ml rc tl) (updN mb rc kp) (updN mf rc (np / 56)) mo my (((np + 2) + 1) / 56) (((np + 2) + 1) % 56) (updN (updN (updN md np (lb (nI js))) (np + 1) (lb ((nI ji) >>> ((nI 8) &&& 31)))) (np + 2) (lb (nI ji))) (aU (aU (aU mu np) (np + 1)) (np + 2)) (aG (aG (aF fi np) (np + 1)) (np + 2)) (aS (aS (aS sp np) (np + 1)) (np + 2)) sq) := hD
              refine lv_aload_n hx hb dM_put_122 rfl (lv_at hl 1 rfl) ?_
              refine lv_aload_n hx hb dM_put_123 rfl (lv_at hl 1 rfl) ?_
              refine va_get (D := (dC, dI)) (ci := 1) (v := .int (nI tl)) (C := RX1) (T := TX1) (N := 19) hx hb hts hin1 hown hK hP 0 rfl rfl 2 (by decide) lkf53 (fun _ h9 => h9) rfl dM_put_124 ?_
              refine lv_bipush (v := nI 8) hx hb dM_put_127 (by decide) ?_
              refine lv_ishr hx hb dM_put_129 ?_
              refine lv_iconst (v := nI 0) hx hb dM_put_130 (by decide) ?_
              refine kc_vv (WR := []) (As := [.int ((nI tl) >>> ((nI 8) &&& 31)), .int (nI 0)]) (rest := []) ⟨hx, hb, hml, hown, hts⟩ (r_add0 l dC dI g m1 m2 m3 m4 m5 m6 m7 m8 m9 m10 m11 m12 m13 ci mt tl rc kp (updN ms rc js) (updN mi rc ji) (updN ml rc tl) (updN mb rc kp) (updN mf rc (np / 56)) mo my (np + 3) (updN (updN (updN md np (lb (nI js))) (np + 1) (lb ((nI ji) >>> ((nI 8) &&& 31)))) (np + 2) (lb (nI ji))) (aU (aU (aU mu np) (np + 1)) (np + 2)) (aG (aG (aF fi np) (np + 1)) (np + 2)) (aS (aS (aS sp np) (np + 1)) (np + 2)) sq H.size ((nI tl) >>> ((nI 8) &&& 31)) (by omega)) (cwV 2 hts gM_put_M_add rfl rfl rfl (by decide +kernel) ⟨Nat.le_of_ble_eq_true rfl, Nat.le_of_ble_eq_true rfl⟩) hK hP hD hS hA [0, 1, 2, 3, 4, 5, 6, 7, 8, 9, 10, 11, 12, 13] [] [0] rfl rfl (by decide) (by decide) (by decide) rfl 0 1 rfl rfl rfl rfl hl.1 rfl (Nat.le_of_ble_eq_true rfl) dM_put_131 ⟨Nat.zero_le _, Nat.zero_le _⟩ (fun H locs hP hD hS => ?_)
              have hP : va_P (dC, dI) vwCl (wM g m1 m2 m3 m4 m5 m6 m7 m8 m9 m10 m11 m12 m13 ci mt tl rc kp (updN ms rc js) (updN mi rc ji) (updN ml rc tl) (updN mb rc kp) (updN mf rc (np / 56)) mo my (((np + 3) + 1) / 56) (((np + 3) + 1) % 56) (updN (updN (updN (updN md np (lb (nI js))) (np + 1) (lb ((nI ji) >>> ((nI 8) &&& 31)))) (np + 2) (lb (nI ji))) (np + 3) (lb ((nI tl) >>> ((nI 8) &&& 31)))) (aU (aU (aU (aU mu np) (np + 1)) (np + 2)) (np + 3)) (aG (aG (aG (aF fi np) (np + 1)) (np + 2)) (np + 3)) (aS (aS (aS (aS sp np) (np + 1)) (np + 2)) (np + 3)) sq) H := hP
              have hD : va_D A (wM g m1 m2 m3 m4 m5 m6 m7 m8 m9 m10 m11 m12 m13 ci mt tl rc kp (updN ms rc js) (updN mi rc ji) (updN ml rc tl) (updN mb rc kp) (updN mf rc (np / 56)) mo my (((np + 3) + 1) / 56) (((np + 3) + 1) % 56) (updN (updN (updN (updN md np (lb (nI js))) (np + 1) (lb ((nI ji) >>> ((nI 8) &&& 31)))) (np + 2) (lb (nI ji))) (np + 3) (lb ((nI tl) >>> ((nI 8) &&& 31)))) (aU (aU (aU (aU mu np) (np + 1)) (np + 2)) (np + 3)) (aG (aG (aG (aF fi np) (np + 1)) (np + 2)) (np + 3)) (aS (aS (aS (aS sp np) (np + 1)) (np + 2)) (np + 3)) sq) := hD
              refine lv_aload_n hx hb dM_put_134 rfl (lv_at hl 1 rfl) ?_
              refine lv_aload_n hx hb dM_put_135 rfl (lv_at hl 1 rfl) ?_
              refine va_get (D := (dC, dI)) (ci := 1) (v := .int (nI tl)) (C := RX1) (T := TX1) (N := 19) hx hb hts hin1 hown hK hP 0 rfl rfl 2 (by decide) lkf53 (fun _ h9 => h9) rfl dM_put_136 ?_
              refine lv_iconst (v := nI 0) hx hb dM_put_139 (by decide) ?_
              refine kc_vv (WR := []) (As := [.int (nI tl), .int (nI 0)]) (rest := []) ⟨hx, hb, hml, hown, hts⟩ (r_add0 l dC dI g m1 m2 m3 m4 m5 m6 m7 m8 m9 m10 m11 m12 m13 ci mt tl rc kp (updN ms rc js) (updN mi rc ji) (updN ml rc tl) (updN mb rc kp) (updN mf rc (np / 56)) mo my (np + 4) (updN (updN (updN (updN md np (lb (nI js))) (np + 1) (lb ((nI ji) >>> ((nI 8) &&& 31)))) (np + 2) (lb (nI ji))) (np + 3) (lb ((nI tl) >>> ((nI 8) &&& 31)))) (aU (aU (aU (aU mu np) (np + 1)) (np + 2)) (np + 3)) (aG (aG (aG (aF fi np) (np + 1)) (np + 2)) (np + 3)) (aS (aS (aS (aS sp np) (np + 1)) (np + 2)) (np + 3)) sq H.size (nI tl) (by omega)) (cwV 2 hts gM_put_M_add rfl rfl rfl (by decide +kernel) ⟨Nat.le_of_ble_eq_true rfl, Nat.le_of_ble_eq_true rfl⟩) hK hP hD hS hA [0, 1, 2, 3, 4, 5, 6, 7, 8, 9, 10, 11, 12, 13] [] [0] rfl rfl (by decide) (by decide) (by decide) rfl 0 1 rfl rfl rfl rfl hl.1 rfl (Nat.le_of_ble_eq_true rfl) dM_put_140 ⟨Nat.zero_le _, Nat.zero_le _⟩ (fun H locs hP hD hS => ?_)
              have hP : va_P (dC, dI) vwCl (wM g m1 m2 m3 m4 m5 m6 m7 m8 m9 m10 m11 m12 m13 ci mt tl rc kp (updN ms rc js) (updN mi rc ji) (updN ml rc tl) (updN mb rc kp) (updN mf rc (np / 56)) mo my (((np + 4) + 1) / 56) (((np + 4) + 1) % 56) (updN (updN (updN (updN (updN md np (lb (nI js))) (np + 1) (lb ((nI ji) >>> ((nI 8) &&& 31)))) (np + 2) (lb (nI ji))) (np + 3) (lb ((nI tl) >>> ((nI 8) &&& 31)))) (np + 4) (lb (nI tl))) (aU (aU (aU (aU (aU mu np) (np + 1)) (np + 2)) (np + 3)) (np + 4)) (aG (aG (aG (aG (aF fi np) (np + 1)) (np + 2)) (np + 3)) (np + 4)) (aS (aS (aS (aS (aS sp np) (np + 1)) (np + 2)) (np + 3)) (np + 4)) sq) H := hP
              have hD : va_D A (wM g m1 m2 m3 m4 m5 m6 m7 m8 m9 m10 m11 m12 m13 ci mt tl rc kp (updN ms rc js) (updN mi rc ji) (updN ml rc tl) (updN mb rc kp) (updN mf rc (np / 56)) mo my (((np + 4) + 1) / 56) (((np + 4) + 1) % 56) (updN (updN (updN (updN (updN md np (lb (nI js))) (np + 1) (lb ((nI ji) >>> ((nI 8) &&& 31)))) (np + 2) (lb (nI ji))) (np + 3) (lb ((nI tl) >>> ((nI 8) &&& 31)))) (np + 4) (lb (nI tl))) (aU (aU (aU (aU (aU mu np) (np + 1)) (np + 2)) (np + 3)) (np + 4)) (aG (aG (aG (aG (aF fi np) (np + 1)) (np + 2)) (np + 3)) (np + 4)) (aS (aS (aS (aS (aS sp np) (np + 1)) (np + 2)) (np + 3)) (np + 4)) sq) := hD
              refine lv_aload_n hx hb dM_put_143 rfl (lv_at hl 1 rfl) ?_
              refine va_get (D := (dC, dI)) (ci := 1) (v := .ref m7) (C := RX1) (T := TX1) (N := 19) hx hb hts hin1 hown hK hP 0 rfl rfl 10 (by decide) lkf28 (fun _ h9 => h9) rfl dM_put_144 ?_
              refine lv_iload_n hx hb dM_put_147 rfl (lv_at hl 0 rfl) ?_
              refine lv_aload_n hx hb dM_put_148 rfl (lv_at hl 1 rfl) ?_
              refine va_get (D := (dC, dI)) (ci := 1) (v := .int (nI (((np + 4) + 1) / 56))) (C := RX1) (T := TX1) (N := 19) hx hb hts hin1 hown hK hP 0 rfl rfl 12 (by decide) lkf56 (fun _ h9 => h9) rfl dM_put_149 ?_
              refine ka_iastN hx hb hK hP hD hS 7 0 rfl rfl (k := rc) (x := ((np + 4) + 1) / 56) (by omega) (by decide) dM_put_152 (fun H locs hP hD hS => ?_)
              have hP : va_P (dC, dI) vwCl (wM g m1 m2 m3 m4 m5 m6 m7 m8 m9 m10 m11 m12 m13 ci mt tl rc kp (updN ms rc js) (updN mi rc ji) (updN ml rc tl) (updN mb rc kp) (updN mf rc (np / 56)) (updN mo rc (((np + 4) + 1) / 56)) my (((np + 4) + 1) / 56) (((np + 4) + 1) % 56) (updN (updN (updN (updN (updN md np (lb (nI js))) (np + 1) (lb ((nI ji) >>> ((nI 8) &&& 31)))) (np + 2) (lb (nI ji))) (np + 3) (lb ((nI tl) >>> ((nI 8) &&& 31)))) (np + 4) (lb (nI tl))) (aU (aU (aU (aU (aU mu np) (np + 1)) (np + 2)) (np + 3)) (np + 4)) (aG (aG (aG (aG (aF fi np) (np + 1)) (np + 2)) (np + 3)) (np + 4)) (aS (aS (aS (aS (aS sp np) (np + 1)) (np + 2)) (np + 3)) (np + 4)) sq) H := hP
              have hD : va_D A (wM g m1 m2 m3 m4 m5 m6 m7 m8 m9 m10 m11 m12 m13 ci mt tl rc kp (updN ms rc js) (updN mi rc ji) (updN ml rc tl) (updN mb rc kp) (updN mf rc (np / 56)) (updN mo rc (((np + 4) + 1) / 56)) my (((np + 4) + 1) / 56) (((np + 4) + 1) % 56) (updN (updN (updN (updN (updN md np (lb (nI js))) (np + 1) (lb ((nI ji) >>> ((nI 8) &&& 31)))) (np + 2) (lb (nI ji))) (np + 3) (lb ((nI tl) >>> ((nI 8) &&& 31)))) (np + 4) (lb (nI tl))) (aU (aU (aU (aU (aU mu np) (np + 1)) (np + 2)) (np + 3)) (np + 4)) (aG (aG (aG (aG (aF fi np) (np + 1)) (np + 2)) (np + 3)) (np + 4)) (aS (aS (aS (aS (aS sp np) (np + 1)) (np + 2)) (np + 3)) (np + 4)) sq) := hD
              refine lv_aload_n hx hb dM_put_153 rfl (lv_at hl 1 rfl) ?_
              refine lv_bipush (v := nI 90) hx hb dM_put_154 (by decide) ?_
              refine lv_iconst (v := nI 0) hx hb dM_put_156 (by decide) ?_
              refine kc_vv (WR := []) (As := [.int (nI 90), .int (nI 0)]) (rest := []) ⟨hx, hb, hml, hown, hts⟩ (r_add0 l dC dI g m1 m2 m3 m4 m5 m6 m7 m8 m9 m10 m11 m12 m13 ci mt tl rc kp (updN ms rc js) (updN mi rc ji) (updN ml rc tl) (updN mb rc kp) (updN mf rc (np / 56)) (updN mo rc (((np + 4) + 1) / 56)) my (np + 5) (updN (updN (updN (updN (updN md np (lb (nI js))) (np + 1) (lb ((nI ji) >>> ((nI 8) &&& 31)))) (np + 2) (lb (nI ji))) (np + 3) (lb ((nI tl) >>> ((nI 8) &&& 31)))) (np + 4) (lb (nI tl))) (aU (aU (aU (aU (aU mu np) (np + 1)) (np + 2)) (np + 3)) (np + 4)) (aG (aG (aG (aG (aF fi np) (np + 1)) (np + 2)) (np + 3)) (np + 4)) (aS (aS (aS (aS (aS sp np) (np + 1)) (np + 2)) (np + 3)) (np + 4)) sq H.size (nI 90) (by omega)) (cwV 2 hts gM_put_M_add rfl rfl rfl (by decide +kernel) ⟨Nat.le_of_ble_eq_true rfl, Nat.le_of_ble_eq_true rfl⟩) hK hP hD hS hA [0, 1, 2, 3, 4, 5, 6, 7, 8, 9, 10, 11, 12, 13] [] [0] rfl rfl (by decide) (by decide) (by decide) rfl 0 1 rfl rfl rfl rfl hl.1 rfl (Nat.le_of_ble_eq_true rfl) dM_put_157 ⟨Nat.zero_le _, Nat.zero_le _⟩ (fun H locs hP hD hS => ?_)
              have hP : va_P (dC, dI) vwCl (wM g m1 m2 m3 m4 m5 m6 m7 m8 m9 m10 m11 m12 m13 ci mt tl rc kp (updN ms rc js) (updN mi rc ji) (updN ml rc tl) (updN mb rc kp) (updN mf rc (np / 56)) (updN mo rc (((np + 4) + 1) / 56)) my (((np + 5) + 1) / 56) (((np + 5) + 1) % 56) (updN (updN (updN (updN (updN (updN md np (lb (nI js))) (np + 1) (lb ((nI ji) >>> ((nI 8) &&& 31)))) (np + 2) (lb (nI ji))) (np + 3) (lb ((nI tl) >>> ((nI 8) &&& 31)))) (np + 4) (lb (nI tl))) (np + 5) (lb (nI 90))) (aU (aU (aU (aU (aU (aU mu np) (np + 1)) (np + 2)) (np + 3)) (np + 4)) (np + 5)) (aG (aG (aG (aG (aG (aF fi np) (np + 1)) (np + 2)) (np + 3)) (np + 4)) (np + 5)) (aS (aS (aS (aS (aS (aS sp np) (np + 1)) (np + 2)) (np + 3)) (np + 4)) (np + 5)) sq) H := hP
              have hD : va_D A (wM g m1 m2 m3 m4 m5 m6 m7 m8 m9 m10 m11 m12 m13 ci mt tl rc kp (updN ms rc js) (updN mi rc ji) (updN ml rc tl) (updN mb rc kp) (updN mf rc (np / 56)) (updN mo rc (((np + 4) + 1) / 56)) my (((np + 5) + 1) / 56) (((np + 5) + 1) % 56) (updN (updN (updN (updN (updN (updN md np (lb (nI js))) (np + 1) (lb ((nI ji) >>> ((nI 8) &&& 31)))) (np + 2) (lb (nI ji))) (np + 3) (lb ((nI tl) >>> ((nI 8) &&& 31)))) (np + 4) (lb (nI tl))) (np + 5) (lb (nI 90))) (aU (aU (aU (aU (aU (aU mu np) (np + 1)) (np + 2)) (np + 3)) (np + 4)) (np + 5)) (aG (aG (aG (aG (aG (aF fi np) (np + 1)) (np + 2)) (np + 3)) (np + 4)) (np + 5)) (aS (aS (aS (aS (aS (aS sp np) (np + 1)) (np + 2)) (np + 3)) (np + 4)) (np + 5)) sq) := hD
              have hP : va_P (dC, dI) vwCl (wM g m1 m2 m3 m4 m5 m6 m7 m8 m9 m10 m11 m12 m13 ci mt tl rc kp (updN ms rc js) (updN mi rc ji) (updN ml rc tl) (updN mb rc kp) (updN mf rc (np / 56)) (updN mo rc (((np + 4) + 1) / 56)) my ((np + 6) / 56) ((np + 6) % 56) (hD6 md np (nI js) (nI ji) tl) (lU mu np 6) (lG (aF fi np) (np + 1) 5) (lS sp np 6) sq) H := hP
              have hD : va_D A (wM g m1 m2 m3 m4 m5 m6 m7 m8 m9 m10 m11 m12 m13 ci mt tl rc kp (updN ms rc js) (updN mi rc ji) (updN ml rc tl) (updN mb rc kp) (updN mf rc (np / 56)) (updN mo rc (((np + 4) + 1) / 56)) my ((np + 6) / 56) ((np + 6) % 56) (hD6 md np (nI js) (nI ji) tl) (lU mu np 6) (lG (aF fi np) (np + 1) 5) (lS sp np 6) sq) := hD
              refine lv_iconst (v := nI 0) hx hb dM_put_160 (by decide) ?_
              refine lv_istore (lv' := [(4, .int (nI 0)), (3, .int (nI rc)), (0, .ref g), (1, .int (nI js)), (2, .int (nI ji))]) hx hb dM_put_161 hl (by decide) rfl (fun ls hl => ?_)
              have hloopk : ∀ (n k : Nat), k ≤ tl → tl + 1 ≤ k + n → ∀ (H : Heap) (locs : List Loc) (ls : Array Slot), va_P (dC, dI) vwCl (wM g m1 m2 m3 m4 m5 m6 m7 m8 m9 m10 m11 m12 m13 ci mt tl rc (kp + k) (updN ms rc js) (updN mi rc ji) (updN ml rc tl) (updN mb rc kp) (updN mf rc (np / 56)) (lO (updN mo rc ((np + 5) / 56)) rc (np + 6) k) (lY my kp mt k) ((np + 6 + k) / 56) ((np + 6 + k) % 56) (lD (hD6 md np (nI js) (nI ji) tl) (np + 6) mt k) (lU (lU mu np 6) (np + 6) k) (lG (lG (aF fi np) (np + 1) 5) (np + 6) k) (lS (lS sp np 6) (np + 6) k) sq) H → va_D A (wM g m1 m2 m3 m4 m5 m6 m7 m8 m9 m10 m11 m12 m13 ci mt tl rc (kp + k) (updN ms rc js) (updN mi rc ji) (updN ml rc tl) (updN mb rc kp) (updN mf rc (np / 56)) (lO (updN mo rc ((np + 5) / 56)) rc (np + 6) k) (lY my kp mt k) ((np + 6 + k) / 56) ((np + 6 + k) % 56) (lD (hD6 md np (nI js) (nI ji) tl) (np + 6) mt k) (lU (lU mu np 6) (np + 6) k) (lG (lG (aF fi np) (np + 1) 5) (np + 6) k) (lS (lS sp np 6) (np + 6) k) sq) → va_S A s.heap H locs → lv_has ls 5 [(4, .int (nI k)), (0, .ref g), (3, .int (nI rc))] → W p l e ({ frames := 2, cells := 0, slots := 0, locals := 42 }) s m ([.ref g, .int (nI js), .int (nI ji)] : List Value).toArray below meth c H locs 0 0 Q (F0 m 163 ls []) := by
                intro n
                induction n with
                | zero => intro k h1 h2; exact absurd h2 (by omega)
                | succ n ih =>
                  intro k hkA hkB H locs ls hP hD hS hl
                  refine lv_iload hx hb dM_put_163 (lv_at hl 0 rfl) ?_
                  refine lv_aload_n hx hb dM_put_165 rfl (lv_at hl 1 rfl) ?_
                  refine va_get (D := (dC, dI)) (ci := 1) (v := .int (nI tl)) (C := RX1) (T := TX1) (N := 19) hx hb hts hin1 hown hK hP 0 rfl rfl 2 (by decide) lkf53 (fun _ h9 => h9) rfl dM_put_166 ?_
                  refine lv_icmp_ge (tgt := 226) hx hb dM_put_169 (by decide) (fun c_169 => ?_) (fun c_169 => ?_)
                  · have c_169 := (nI_leI (by omega) (by omega)).mp c_169
                    have hkE : k = tl := by omega
                    rw [hkE] at hP hD
                    refine lv_aload_n hx hb dM_put_226 rfl (lv_at hl 1 rfl) ?_
                    refine lv_dup hx hb dM_put_227 rfl ?_
                    refine va_get (D := (dC, dI)) (ci := 1) (v := .int (nI rc)) (C := RX1) (T := TX1) (N := 19) hx hb hts hin1 hown hK hP 0 rfl rfl 3 (by decide) lkf66 (fun _ h9 => h9) rfl dM_put_228 ?_
                    refine lv_iconst (v := nI 1) hx hb dM_put_231 (by decide) ?_
                    refine lv_iadd hx hb dM_put_232 ?_
                    refine kv_top (show _ = nI (rc + 1) from nI_add _ _) ?_
                    refine va_put (D := (dC, dI)) (ci := 1) (v := .int (nI (rc + 1))) (ty := .int) (C := RX1) (T := TX1) (N := 19) hx hb hts hin1 tyX1 tyX1_ok nmX1 hown hK hP hD hS 0 rfl rfl 3 (by decide) lkf66 (fun _ h9 => h9) rfl (by decide +kernel) rfl rfl (Nat.le_of_ble_eq_true rfl) dM_put_233 (fun H locs hP hD hS => ?_)
                    have hP : va_P (dC, dI) vwCl (wM g m1 m2 m3 m4 m5 m6 m7 m8 m9 m10 m11 m12 m13 ci mt tl (rc + 1) (kp + tl) (updN ms rc js) (updN mi rc ji) (updN ml rc tl) (updN mb rc kp) (updN mf rc (np / 56)) (lO (updN mo rc ((np + 5) / 56)) rc (np + 6) tl) (lY my kp mt tl) ((np + 6 + tl) / 56) ((np + 6 + tl) % 56) (lD (hD6 md np (nI js) (nI ji) tl) (np + 6) mt tl) (lU (lU mu np 6) (np + 6) tl) (lG (lG (aF fi np) (np + 1) 5) (np + 6) tl) (lS (lS sp np 6) (np + 6) tl) sq) H := hP
                    have hD : va_D A (wM g m1 m2 m3 m4 m5 m6 m7 m8 m9 m10 m11 m12 m13 ci mt tl (rc + 1) (kp + tl) (updN ms rc js) (updN mi rc ji) (updN ml rc tl) (updN mb rc kp) (updN mf rc (np / 56)) (lO (updN mo rc ((np + 5) / 56)) rc (np + 6) tl) (lY my kp mt tl) ((np + 6 + tl) / 56) ((np + 6 + tl) % 56) (lD (hD6 md np (nI js) (nI ji) tl) (np + 6) mt tl) (lU (lU mu np 6) (np + 6) tl) (lG (lG (aF fi np) (np + 1) 5) (np + 6) tl) (lS (lS sp np 6) (np + 6) tl) sq) := hD
                    refine lv_aload_n hx hb dM_put_236 rfl (lv_at hl 1 rfl) ?_
                    refine lv_iconst (v := nI 0) hx hb dM_put_237 (by decide) ?_
                    refine va_put (D := (dC, dI)) (ci := 1) (v := .int (nI 0)) (ty := .int) (C := RX1) (T := TX1) (N := 19) hx hb hts hin1 tyX1 tyX1_ok nmX1 hown hK hP hD hS 0 rfl rfl 2 (by decide) lkf53 (fun _ h9 => h9) rfl (by decide +kernel) rfl rfl (Nat.le_of_ble_eq_true rfl) dM_put_238 (fun H locs hP hD hS => ?_)
                    have hP : va_P (dC, dI) vwCl (wM g m1 m2 m3 m4 m5 m6 m7 m8 m9 m10 m11 m12 m13 ci mt 0 (rc + 1) (kp + tl) (updN ms rc js) (updN mi rc ji) (updN ml rc tl) (updN mb rc kp) (updN mf rc (np / 56)) (lO (updN mo rc ((np + 5) / 56)) rc (np + 6) tl) (lY my kp mt tl) ((np + 6 + tl) / 56) ((np + 6 + tl) % 56) (lD (hD6 md np (nI js) (nI ji) tl) (np + 6) mt tl) (lU (lU mu np 6) (np + 6) tl) (lG (lG (aF fi np) (np + 1) 5) (np + 6) tl) (lS (lS sp np 6) (np + 6) tl) sq) H := hP
                    have hD : va_D A (wM g m1 m2 m3 m4 m5 m6 m7 m8 m9 m10 m11 m12 m13 ci mt 0 (rc + 1) (kp + tl) (updN ms rc js) (updN mi rc ji) (updN ml rc tl) (updN mb rc kp) (updN mf rc (np / 56)) (lO (updN mo rc ((np + 5) / 56)) rc (np + 6) tl) (lY my kp mt tl) ((np + 6 + tl) / 56) ((np + 6 + tl) % 56) (lD (hD6 md np (nI js) (nI ji) tl) (np + 6) mt tl) (lU (lU mu np 6) (np + 6) tl) (lG (lG (aF fi np) (np + 1) 5) (np + 6) tl) (lS (lS sp np 6) (np + 6) tl) sq) := hD
                    refine lv_iload_n hx hb dM_put_241 rfl (lv_at hl 2 rfl) ?_
                    exact hret _ _ _ _ hP hD hS dM_put_242
                  · have c_169 := kmt (nI_leI (by omega) (by omega)).mpr c_169
                    refine lv_aload_n hx hb dM_put_172 rfl (lv_at hl 1 rfl) ?_
                    refine va_get (D := (dC, dI)) (ci := 1) (v := .ref m8) (C := RX1) (T := TX1) (N := 19) hx hb hts hin1 hown hK hP 0 rfl rfl 11 (by decide) lkf31 (fun _ h9 => h9) rfl dM_put_173 ?_
                    refine lv_aload_n hx hb dM_put_176 rfl (lv_at hl 1 rfl) ?_
                    refine va_get (D := (dC, dI)) (ci := 1) (v := .int (nI (kp + k))) (C := RX1) (T := TX1) (N := 19) hx hb hts hin1 hown hK hP 0 rfl rfl 4 (by decide) lkf73 (fun _ h9 => h9) rfl dM_put_177 ?_
                    refine lv_aload_n hx hb dM_put_180 rfl (lv_at hl 1 rfl) ?_
                    refine va_get (D := (dC, dI)) (ci := 1) (v := .ref m1) (C := RX1) (T := TX1) (N := 19) hx hb hts hin1 hown hK hP 0 rfl rfl 1 (by decide) lkf7 (fun _ h9 => h9) rfl dM_put_181 ?_
                    refine lv_iload hx hb dM_put_184 (lv_at hl 0 rfl) ?_
                    refine ka_ialdN hx hb hK hP 1 0 rfl rfl (k := k) (by omega) (by decide) dM_put_186 ?_
                    refine ka_iastN hx hb hK hP hD hS 8 0 rfl rfl (k := kp + k) (x := mt k) (by omega) (by decide) dM_put_187 (fun H locs hP hD hS => ?_)
                    have hP : va_P (dC, dI) vwCl (wM g m1 m2 m3 m4 m5 m6 m7 m8 m9 m10 m11 m12 m13 ci mt tl rc (kp + k) (updN ms rc js) (updN mi rc ji) (updN ml rc tl) (updN mb rc kp) (updN mf rc (np / 56)) (lO (updN mo rc ((np + 5) / 56)) rc (np + 6) k) (updN (lY my kp mt k) (kp + k) (mt k)) ((np + 6 + k) / 56) ((np + 6 + k) % 56) (lD (hD6 md np (nI js) (nI ji) tl) (np + 6) mt k) (lU (lU mu np 6) (np + 6) k) (lG (lG (aF fi np) (np + 1) 5) (np + 6) k) (lS (lS sp np 6) (np + 6) k) sq) H := hP
                    have hD : va_D A (wM g m1 m2 m3 m4 m5 m6 m7 m8 m9 m10 m11 m12 m13 ci mt tl rc (kp + k) (updN ms rc js) (updN mi rc ji) (updN ml rc tl) (updN mb rc kp) (updN mf rc (np / 56)) (lO (updN mo rc ((np + 5) / 56)) rc (np + 6) k) (updN (lY my kp mt k) (kp + k) (mt k)) ((np + 6 + k) / 56) ((np + 6 + k) % 56) (lD (hD6 md np (nI js) (nI ji) tl) (np + 6) mt k) (lU (lU mu np 6) (np + 6) k) (lG (lG (aF fi np) (np + 1) 5) (np + 6) k) (lS (lS sp np 6) (np + 6) k) sq) := hD
                    refine lv_aload_n hx hb dM_put_188 rfl (lv_at hl 1 rfl) ?_
                    refine lv_dup hx hb dM_put_189 rfl ?_
                    refine va_get (D := (dC, dI)) (ci := 1) (v := .int (nI (kp + k))) (C := RX1) (T := TX1) (N := 19) hx hb hts hin1 hown hK hP 0 rfl rfl 4 (by decide) lkf73 (fun _ h9 => h9) rfl dM_put_190 ?_
                    refine lv_iconst (v := nI 1) hx hb dM_put_193 (by decide) ?_
                    refine lv_iadd hx hb dM_put_194 ?_
                    refine kv_top (show _ = nI ((kp + k) + 1) from nI_add _ _) ?_
                    refine va_put (D := (dC, dI)) (ci := 1) (v := .int (nI ((kp + k) + 1))) (ty := .int) (C := RX1) (T := TX1) (N := 19) hx hb hts hin1 tyX1 tyX1_ok nmX1 hown hK hP hD hS 0 rfl rfl 4 (by decide) lkf73 (fun _ h9 => h9) rfl (by decide +kernel) rfl rfl (Nat.le_of_ble_eq_true rfl) dM_put_195 (fun H locs hP hD hS => ?_)
                    have hP : va_P (dC, dI) vwCl (wM g m1 m2 m3 m4 m5 m6 m7 m8 m9 m10 m11 m12 m13 ci mt tl rc ((kp + k) + 1) (updN ms rc js) (updN mi rc ji) (updN ml rc tl) (updN mb rc kp) (updN mf rc (np / 56)) (lO (updN mo rc ((np + 5) / 56)) rc (np + 6) k) (updN (lY my kp mt k) (kp + k) (mt k)) ((np + 6 + k) / 56) ((np + 6 + k) % 56) (lD (hD6 md np (nI js) (nI ji) tl) (np + 6) mt k) (lU (lU mu np 6) (np + 6) k) (lG (lG (aF fi np) (np + 1) 5) (np + 6) k) (lS (lS sp np 6) (np + 6) k) sq) H := hP
                    have hD : va_D A (wM g m1 m2 m3 m4 m5 m6 m7 m8 m9 m10 m11 m12 m13 ci mt tl rc ((kp + k) + 1) (updN ms rc js) (updN mi rc ji) (updN ml rc tl) (updN mb rc kp) (updN mf rc (np / 56)) (lO (updN mo rc ((np + 5) / 56)) rc (np + 6) k) (updN (lY my kp mt k) (kp + k) (mt k)) ((np + 6 + k) / 56) ((np + 6 + k) % 56) (lD (hD6 md np (nI js) (nI ji) tl) (np + 6) mt k) (lU (lU mu np 6) (np + 6) k) (lG (lG (aF fi np) (np + 1) 5) (np + 6) k) (lS (lS sp np 6) (np + 6) k) sq) := hD
                    refine lv_aload_n hx hb dM_put_198 rfl (lv_at hl 1 rfl) ?_
                    refine va_get (D := (dC, dI)) (ci := 1) (v := .ref m7) (C := RX1) (T := TX1) (N := 19) hx hb hts hin1 hown hK hP 0 rfl rfl 10 (by decide) lkf28 (fun _ h9 => h9) rfl dM_put_199 ?_
                    refine lv_iload_n hx hb dM_put_202 rfl (lv_at hl 2 rfl) ?_
                    refine lv_aload_n hx hb dM_put_203 rfl (lv_at hl 1 rfl) ?_
                    refine va_get (D := (dC, dI)) (ci := 1) (v := .int (nI ((np + 6 + k) / 56))) (C := RX1) (T := TX1) (N := 19) hx hb hts hin1 hown hK hP 0 rfl rfl 12 (by decide) lkf56 (fun _ h9 => h9) rfl dM_put_204 ?_
                    refine ka_iastN hx hb hK hP hD hS 7 0 rfl rfl (k := rc) (x := (np + 6 + k) / 56) (by omega) (by decide) dM_put_207 (fun H locs hP hD hS => ?_)
                    have hP : va_P (dC, dI) vwCl (wM g m1 m2 m3 m4 m5 m6 m7 m8 m9 m10 m11 m12 m13 ci mt tl rc ((kp + k) + 1) (updN ms rc js) (updN mi rc ji) (updN ml rc tl) (updN mb rc kp) (updN mf rc (np / 56)) (updN (lO (updN mo rc ((np + 5) / 56)) rc (np + 6) k) rc ((np + 6 + k) / 56)) (updN (lY my kp mt k) (kp + k) (mt k)) ((np + 6 + k) / 56) ((np + 6 + k) % 56) (lD (hD6 md np (nI js) (nI ji) tl) (np + 6) mt k) (lU (lU mu np 6) (np + 6) k) (lG (lG (aF fi np) (np + 1) 5) (np + 6) k) (lS (lS sp np 6) (np + 6) k) sq) H := hP
                    have hD : va_D A (wM g m1 m2 m3 m4 m5 m6 m7 m8 m9 m10 m11 m12 m13 ci mt tl rc ((kp + k) + 1) (updN ms rc js) (updN mi rc ji) (updN ml rc tl) (updN mb rc kp) (updN mf rc (np / 56)) (updN (lO (updN mo rc ((np + 5) / 56)) rc (np + 6) k) rc ((np + 6 + k) / 56)) (updN (lY my kp mt k) (kp + k) (mt k)) ((np + 6 + k) / 56) ((np + 6 + k) % 56) (lD (hD6 md np (nI js) (nI ji) tl) (np + 6) mt k) (lU (lU mu np 6) (np + 6) k) (lG (lG (aF fi np) (np + 1) 5) (np + 6) k) (lS (lS sp np 6) (np + 6) k) sq) := hD
                    refine lv_aload_n hx hb dM_put_208 rfl (lv_at hl 1 rfl) ?_
                    refine lv_aload_n hx hb dM_put_209 rfl (lv_at hl 1 rfl) ?_
                    refine va_get (D := (dC, dI)) (ci := 1) (v := .ref m1) (C := RX1) (T := TX1) (N := 19) hx hb hts hin1 hown hK hP 0 rfl rfl 1 (by decide) lkf7 (fun _ h9 => h9) rfl dM_put_210 ?_
                    refine lv_iload hx hb dM_put_213 (lv_at hl 0 rfl) ?_
                    refine ka_ialdN hx hb hK hP 1 0 rfl rfl (k := k) (by omega) (by decide) dM_put_215 ?_
                    refine lv_iconst (v := nI 0) hx hb dM_put_216 (by decide) ?_
                    refine kc_vv (WR := []) (As := [.int (nI (mt k)), .int (nI 0)]) (rest := []) ⟨hx, hb, hml, hown, hts⟩ (r_add0 l dC dI g m1 m2 m3 m4 m5 m6 m7 m8 m9 m10 m11 m12 m13 ci mt tl rc ((kp + k) + 1) (updN ms rc js) (updN mi rc ji) (updN ml rc tl) (updN mb rc kp) (updN mf rc (np / 56)) (updN (lO (updN mo rc ((np + 5) / 56)) rc (np + 6) k) rc ((np + 6 + k) / 56)) (updN (lY my kp mt k) (kp + k) (mt k)) (np + 6 + k) (lD (hD6 md np (nI js) (nI ji) tl) (np + 6) mt k) (lU (lU mu np 6) (np + 6) k) (lG (lG (aF fi np) (np + 1) 5) (np + 6) k) (lS (lS sp np 6) (np + 6) k) sq H.size (nI (mt k)) (by omega)) (cwV 2 hts gM_put_M_add rfl rfl rfl (by decide +kernel) ⟨Nat.le_of_ble_eq_true rfl, Nat.le_of_ble_eq_true rfl⟩) hK hP hD hS hA [0, 1, 2, 3, 4, 5, 6, 7, 8, 9, 10, 11, 12, 13] [] [0] rfl rfl (by decide) (by decide) (by decide) rfl 0 1 rfl rfl rfl rfl hl.1 rfl (Nat.le_of_ble_eq_true rfl) dM_put_217 ⟨Nat.zero_le _, Nat.zero_le _⟩ (fun H locs hP hD hS => ?_)
                    have hP : va_P (dC, dI) vwCl (wM g m1 m2 m3 m4 m5 m6 m7 m8 m9 m10 m11 m12 m13 ci mt tl rc ((kp + k) + 1) (updN ms rc js) (updN mi rc ji) (updN ml rc tl) (updN mb rc kp) (updN mf rc (np / 56)) (updN (lO (updN mo rc ((np + 5) / 56)) rc (np + 6) k) rc ((np + 6 + k) / 56)) (updN (lY my kp mt k) (kp + k) (mt k)) (((np + 6 + k) + 1) / 56) (((np + 6 + k) + 1) % 56) (updN (lD (hD6 md np (nI js) (nI ji) tl) (np + 6) mt k) (np + 6 + k) (lb (nI (mt k)))) (aU (lU (lU mu np 6) (np + 6) k) (np + 6 + k)) (aG (lG (lG (aF fi np) (np + 1) 5) (np + 6) k) (np + 6 + k)) (aS (lS (lS sp np 6) (np + 6) k) (np + 6 + k)) sq) H := hP
                    have hD : va_D A (wM g m1 m2 m3 m4 m5 m6 m7 m8 m9 m10 m11 m12 m13 ci mt tl rc ((kp + k) + 1) (updN ms rc js) (updN mi rc ji) (updN ml rc tl) (updN mb rc kp) (updN mf rc (np / 56)) (updN (lO (updN mo rc ((np + 5) / 56)) rc (np + 6) k) rc ((np + 6 + k) / 56)) (updN (lY my kp mt k) (kp + k) (mt k)) (((np + 6 + k) + 1) / 56) (((np + 6 + k) + 1) % 56) (updN (lD (hD6 md np (nI js) (nI ji) tl) (np + 6) mt k) (np + 6 + k) (lb (nI (mt k)))) (aU (lU (lU mu np 6) (np + 6) k) (np + 6 + k)) (aG (lG (lG (aF fi np) (np + 1) 5) (np + 6) k) (np + 6 + k)) (aS (lS (lS sp np 6) (np + 6) k) (np + 6 + k)) sq) := hD
                    refine lv_iinc (v := nI (k + 1)) (lv' := [(4, .int (nI (k + 1))), (0, .ref g), (3, .int (nI rc))]) hx hb dM_put_220 hl (k := 0) rfl (ki_inc _) (by decide) rfl (fun ls hl => ?_)
                    refine lv_goto (tgt := 163) hx hb dM_put_223 (by decide) ?_
                    have hP : va_P (dC, dI) vwCl (wM g m1 m2 m3 m4 m5 m6 m7 m8 m9 m10 m11 m12 m13 ci mt tl rc (kp + (k + 1)) (updN ms rc js) (updN mi rc ji) (updN ml rc tl) (updN mb rc kp) (updN mf rc (np / 56)) (lO (updN mo rc ((np + 5) / 56)) rc (np + 6) (k + 1)) (lY my kp mt (k + 1)) ((np + 6 + (k + 1)) / 56) ((np + 6 + (k + 1)) % 56) (lD (hD6 md np (nI js) (nI ji) tl) (np + 6) mt (k + 1)) (lU (lU mu np 6) (np + 6) (k + 1)) (lG (lG (aF fi np) (np + 1) 5) (np + 6) (k + 1)) (lS (lS sp np 6) (np + 6) (k + 1)) sq) H := hP
                    have hD : va_D A (wM g m1 m2 m3 m4 m5 m6 m7 m8 m9 m10 m11 m12 m13 ci mt tl rc (kp + (k + 1)) (updN ms rc js) (updN mi rc ji) (updN ml rc tl) (updN mb rc kp) (updN mf rc (np / 56)) (lO (updN mo rc ((np + 5) / 56)) rc (np + 6) (k + 1)) (lY my kp mt (k + 1)) ((np + 6 + (k + 1)) / 56) ((np + 6 + (k + 1)) % 56) (lD (hD6 md np (nI js) (nI ji) tl) (np + 6) mt (k + 1)) (lU (lU mu np 6) (np + 6) (k + 1)) (lG (lG (aF fi np) (np + 1) 5) (np + 6) (k + 1)) (lS (lS sp np 6) (np + 6) (k + 1)) sq) := hD
                    exact ih (k + 1) (by omega) (by omega) _ _ _ hP hD hS (lv_sub hl [0, 1, 2] rfl)
              have hP : va_P (dC, dI) vwCl (wM g m1 m2 m3 m4 m5 m6 m7 m8 m9 m10 m11 m12 m13 ci mt tl rc (kp + (0)) (updN ms rc js) (updN mi rc ji) (updN ml rc tl) (updN mb rc kp) (updN mf rc (np / 56)) (lO (updN mo rc ((np + 5) / 56)) rc (np + 6) (0)) (lY my kp mt (0)) ((np + 6 + (0)) / 56) ((np + 6 + (0)) % 56) (lD (hD6 md np (nI js) (nI ji) tl) (np + 6) mt (0)) (lU (lU mu np 6) (np + 6) (0)) (lG (lG (aF fi np) (np + 1) 5) (np + 6) (0)) (lS (lS sp np 6) (np + 6) (0)) sq) H := hP
              have hD : va_D A (wM g m1 m2 m3 m4 m5 m6 m7 m8 m9 m10 m11 m12 m13 ci mt tl rc (kp + (0)) (updN ms rc js) (updN mi rc ji) (updN ml rc tl) (updN mb rc kp) (updN mf rc (np / 56)) (lO (updN mo rc ((np + 5) / 56)) rc (np + 6) (0)) (lY my kp mt (0)) ((np + 6 + (0)) / 56) ((np + 6 + (0)) % 56) (lD (hD6 md np (nI js) (nI ji) tl) (np + 6) mt (0)) (lU (lU mu np 6) (np + 6) (0)) (lG (lG (aF fi np) (np + 1) 5) (np + 6) (0)) (lS (lS sp np 6) (np + 6) (0)) sq) := hD
              exact hloopk (tl + 1) 0 (by omega) (by omega) _ _ _ hP hD hS (lv_sub hl [0, 2, 1] rfl)
            · have c_47 := kmt (nI_leI (by omega) (by omega)).mpr c_47
              exfalso; omega
set_option maxHeartbeats 4000000 in
set_option maxRecDepth 100000 in
theorem r_putN (l : Launch) (dC : Nat → ClassId) (dI : Nat → Nat → Nat) (g m1 m2 m3 m4 m5 m6 m7 m8 m9 m10 m11 m12 m13 : Nat) (ci : ClassId) (mt : Nat → Nat) (tl rc kp : Nat) (ms mi ml mb mf mo my : Nat → Nat) (np : Nat) (md mu fi : Nat → Nat) (sp : Nat → Int32) (sq : Nat → Nat) (sz : Nat) (sv : Int32) (iv : Int32) (htl : tl ≤ 300) (hnp : np ≤ 4480) (hrc : rc ≤ 200) (hno : ¬ (0 ≤ sv.toInt ∧ sv.toInt ≤ 255 ∧ 0 ≤ iv.toInt ∧ iv.toInt ≤ 65535 ∧ rc < 200 ∧ np + 6 + tl ≤ 4480)) : Met l yM_put wsM_put ({ frames := 2, cells := 0, slots := 0, locals := 42 }) (kPre (dC, dI) vwCl (wM g m1 m2 m3 m4 m5 m6 m7 m8 m9 m10 m11 m12 m13 ci mt tl rc kp ms mi ml mb mf mo my (np / 56) (np % 56) md mu fi sp sq) (tM ci) sz [.ref g, .int sv, .int iv]) (kQi (dC, dI) vwCl (wM g m1 m2 m3 m4 m5 m6 m7 m8 m9 m10 m11 m12 m13 ci mt tl rc kp ms mi ml mb mf mo my (np / 56) (np % 56) md mu fi sp sq) (tM ci) sz ((-1)) (wM g m1 m2 m3 m4 m5 m6 m7 m8 m9 m10 m11 m12 m13 ci mt tl rc kp ms mi ml mb mf mo my (np / 56) (np % 56) md mu fi sp sq)) 0 0 (va_A (wM g m1 m2 m3 m4 m5 m6 m7 m8 m9 m10 m11 m12 m13 ci mt tl rc kp ms mi ml mb mf mo my (np / 56) (np % 56) md mu fi sp sq) sz) := by
  refine kM_i (cc := cM_put) (maxL := 5) (by decide) rfl (Nat.le_of_ble_eq_true rfl) ?_
  intro p e s m below meth c A Q ls H locs S hP hK hD hS hA hl hret
  obtain ⟨hx, hb, hml, hown, hts⟩ := id S
  have hin1 : ∀ w ∈ u_ws RX1 TX1 19, w ∈ wsM_put := fun _ h => List.mem_cons_of_mem _ (List.mem_append_right _ h)
  have lkf49 := hts (.fieldLink RX1 49 "BlockTapeModel" "thrown" "I") (by decide +kernel)
  have lkc65 := hts (.constant RX1 65 (65535)) (by decide +kernel)
  have lkf66 := hts (.fieldLink RX1 66 "BlockTapeModel" "records" "I") (by decide +kernel)
  have lkf53 := hts (.fieldLink RX1 53 "BlockTapeModel" "taped" "I") (by decide +kernel)
  have hl : lv_has ls 5 [(0, .ref g), (1, .int sv), (2, .int iv)] := hl
  refine lv_aload_n hx hb dM_put_0 rfl (lv_at hl 0 rfl) ?_
  refine lv_iconst (v := nI 0) hx hb dM_put_1 (by decide) ?_
  refine va_put (D := (dC, dI)) (ci := 1) (v := .int (nI 0)) (ty := .int) (C := RX1) (T := TX1) (N := 19) hx hb hts hin1 tyX1 tyX1_ok nmX1 hown hK hP hD hS 0 rfl rfl 0 (by decide) lkf49 (fun _ h9 => h9) rfl (by decide +kernel) rfl rfl (Nat.le_of_ble_eq_true rfl) dM_put_2 (fun H locs hP hD hS => ?_)
  have hP : va_P (dC, dI) vwCl (wM g m1 m2 m3 m4 m5 m6 m7 m8 m9 m10 m11 m12 m13 ci mt tl rc kp ms mi ml mb mf mo my (np / 56) (np % 56) md mu fi sp sq) H := hP
  have hD : va_D A (wM g m1 m2 m3 m4 m5 m6 m7 m8 m9 m10 m11 m12 m13 ci mt tl rc kp ms mi ml mb mf mo my (np / 56) (np % 56) md mu fi sp sq) := hD
  refine lv_iload_n hx hb dM_put_5 rfl (lv_at hl 1 rfl) ?_
  refine lv_if_lt (tgt := 50) hx hb dM_put_6 (by decide) (fun c_6 => ?_) (fun c_6 => ?_)
  · have c_6 := (kx_lt0).mp c_6
    refine lv_iconst (v := (-1)) hx hb dM_put_50 (by decide) ?_
    exact hret _ _ _ _ hP hD hS dM_put_51
  · have c_6 := kmt (kx_lt0).mpr c_6
    refine lv_iload_n hx hb dM_put_9 rfl (lv_at hl 1 rfl) ?_
    refine lv_sipush (v := nI 255) hx hb dM_put_10 (by decide) ?_
    refine lv_icmp_gt (tgt := 50) hx hb dM_put_13 (by decide) (fun c_13 => ?_) (fun c_13 => ?_)
    · have c_13 := (kx_gt (by omega)).mp c_13
      refine lv_iconst (v := (-1)) hx hb dM_put_50 (by decide) ?_
      exact hret _ _ _ _ hP hD hS dM_put_51
    · have c_13 := kmt (kx_gt (by omega)).mpr c_13
      refine lv_iload_n hx hb dM_put_16 rfl (lv_at hl 2 rfl) ?_
      refine lv_if_lt (tgt := 50) hx hb dM_put_17 (by decide) (fun c_17 => ?_) (fun c_17 => ?_)
      · have c_17 := (kx_lt0).mp c_17
        refine lv_iconst (v := (-1)) hx hb dM_put_50 (by decide) ?_
        exact hret _ _ _ _ hP hD hS dM_put_51
      · have c_17 := kmt (kx_lt0).mpr c_17
        refine lv_iload_n hx hb dM_put_20 rfl (lv_at hl 2 rfl) ?_
        refine lv_ldc (v := nI 65535) hx hb hown lkc65 dM_put_21 ?_
        refine lv_icmp_gt (tgt := 50) hx hb dM_put_23 (by decide) (fun c_23 => ?_) (fun c_23 => ?_)
        · have c_23 := (kx_gt (by omega)).mp c_23
          refine lv_iconst (v := (-1)) hx hb dM_put_50 (by decide) ?_
          exact hret _ _ _ _ hP hD hS dM_put_51
        · have c_23 := kmt (kx_gt (by omega)).mpr c_23
          refine lv_aload_n hx hb dM_put_26 rfl (lv_at hl 0 rfl) ?_
          refine va_get (D := (dC, dI)) (ci := 1) (v := .int (nI rc)) (C := RX1) (T := TX1) (N := 19) hx hb hts hin1 hown hK hP 0 rfl rfl 3 (by decide) lkf66 (fun _ h9 => h9) rfl dM_put_27 ?_
          refine lv_sipush (v := nI 200) hx hb dM_put_30 (by decide) ?_
          refine lv_icmp_eq (tgt := 50) hx hb dM_put_33 (by decide) (fun c_33 => ?_) (fun c_33 => ?_)
          · have c_33 := (nI_eq (by omega) (by omega)).mp c_33
            refine lv_iconst (v := (-1)) hx hb dM_put_50 (by decide) ?_
            exact hret _ _ _ _ hP hD hS dM_put_51
          · have c_33 := kmt (nI_eq (by omega) (by omega)).mpr c_33
            refine lv_aload_n hx hb dM_put_36 rfl (lv_at hl 0 rfl) ?_
            refine kc_vi (WR := []) (As := []) (rest := []) ⟨hx, hb, hml, hown, hts⟩ (r_room l dC dI g m1 m2 m3 m4 m5 m6 m7 m8 m9 m10 m11 m12 m13 ci mt tl rc kp ms mi ml mb mf mo my np md mu fi sp sq H.size (by omega)) (cwV 0 hts gM_put_M_room rfl rfl rfl (by decide +kernel) ⟨Nat.le_of_ble_eq_true rfl, Nat.le_of_ble_eq_true rfl⟩) hK hP hD hS hA [0, 1, 2, 3, 4, 5, 6, 7, 8, 9, 10, 11, 12, 13] [] [0] rfl rfl (by decide) (by decide) (by decide) rfl 0 1 rfl rfl rfl rfl hl.1 rfl (Nat.le_of_ble_eq_true rfl) dM_put_37 ⟨Nat.zero_le _, Nat.zero_le _⟩ (fun H locs hP hD hS => ?_)
            have hP : va_P (dC, dI) vwCl (wM g m1 m2 m3 m4 m5 m6 m7 m8 m9 m10 m11 m12 m13 ci mt tl rc kp ms mi ml mb mf mo my (np / 56) (np % 56) md mu fi sp sq) H := hP
            have hD : va_D A (wM g m1 m2 m3 m4 m5 m6 m7 m8 m9 m10 m11 m12 m13 ci mt tl rc kp ms mi ml mb mf mo my (np / 56) (np % 56) md mu fi sp sq) := hD
            refine lv_bipush (v := nI 6) hx hb dM_put_40 (by decide) ?_
            refine lv_aload_n hx hb dM_put_42 rfl (lv_at hl 0 rfl) ?_
            refine va_get (D := (dC, dI)) (ci := 1) (v := .int (nI tl)) (C := RX1) (T := TX1) (N := 19) hx hb hts hin1 hown hK hP 0 rfl rfl 2 (by decide) lkf53 (fun _ h9 => h9) rfl dM_put_43 ?_
            refine lv_iadd hx hb dM_put_46 ?_
            refine kv_top (show _ = nI (6 + tl) from nI_add _ _) ?_
            refine lv_icmp_ge (tgt := 52) hx hb dM_put_47 (by decide) (fun c_47 => ?_) (fun c_47 => ?_)
            · have c_47 := (nI_leI (by omega) (by omega)).mp c_47
              exfalso; omega
            · have c_47 := kmt (nI_leI (by omega) (by omega)).mpr c_47
              refine lv_iconst (v := (-1)) hx hb dM_put_50 (by decide) ?_
              exact hret _ _ _ _ hP hD hS dM_put_51
set_option maxHeartbeats 4000000 in
set_option maxRecDepth 100000 in
theorem r_close (l : Launch) (dC : Nat → ClassId) (dI : Nat → Nat → Nat) (g m1 m2 m3 m4 m5 m6 m7 m8 m9 m10 m11 m12 m13 : Nat) (ci : ClassId) (mt : Nat → Nat) (tl rc kp : Nat) (ms mi ml mb mf mo my : Nat → Nat) (np : Nat) (md mu fi : Nat → Nat) (sp : Nat → Int32) (sq : Nat → Nat) (sz : Nat) (hnp : np ≤ 4480) (hu : np % 56 ≠ 0) : Met l yM_close wsM_close ({ frames := 1, cells := 0, slots := 0, locals := 20 }) (kPre (dC, dI) vwCl (wM g m1 m2 m3 m4 m5 m6 m7 m8 m9 m10 m11 m12 m13 ci mt tl rc kp ms mi ml mb mf mo my (np / 56) (np % 56) md mu fi sp sq) (tM ci) sz [.ref g]) (kQi (dC, dI) vwCl (wM g m1 m2 m3 m4 m5 m6 m7 m8 m9 m10 m11 m12 m13 ci mt tl rc kp ms mi ml mb mf mo my (np / 56) (np % 56) md mu fi sp sq) (tM ci) sz (nI 1) (wM g m1 m2 m3 m4 m5 m6 m7 m8 m9 m10 m11 m12 m13 ci mt tl rc kp ms mi ml mb mf mo my ((np + (56 - np % 56)) / 56) ((np + (56 - np % 56)) % 56) (cz md np (56 - np % 56)) (updN mu (np / 56) (np % 56)) fi sp sq)) 0 0 (va_A (wM g m1 m2 m3 m4 m5 m6 m7 m8 m9 m10 m11 m12 m13 ci mt tl rc kp ms mi ml mb mf mo my (np / 56) (np % 56) md mu fi sp sq) sz) := by
  refine kM_z (cc := cM_close) (maxL := 2) (by decide) rfl (Nat.le_of_ble_eq_true rfl) (rfl) ?_
  intro p e s m below meth c A Q ls H locs S hP hK hD hS hA hl hret
  obtain ⟨hx, hb, hml, hown, hts⟩ := id S
  have hin1 : ∀ w ∈ u_ws RX1 TX1 19, w ∈ wsM_close := fun _ h => List.mem_cons_of_mem _ (List.mem_append_right _ h)
  have lkf49 := hts (.fieldLink RX1 49 "BlockTapeModel" "thrown" "I") (by decide +kernel)
  have lkf59 := hts (.fieldLink RX1 59 "BlockTapeModel" "used" "I") (by decide +kernel)
  have lkf34 := hts (.fieldLink RX1 34 "BlockTapeModel" "data" "[I") (by decide +kernel)
  have lkf56 := hts (.fieldLink RX1 56 "BlockTapeModel" "written" "I") (by decide +kernel)
  have hl : lv_has ls 2 [(0, .ref g)] := hl
  refine lv_aload_n hx hb dM_close_0 rfl (lv_at hl 0 rfl) ?_
  refine lv_iconst (v := nI 0) hx hb dM_close_1 (by decide) ?_
  refine va_put (D := (dC, dI)) (ci := 1) (v := .int (nI 0)) (ty := .int) (C := RX1) (T := TX1) (N := 19) hx hb hts hin1 tyX1 tyX1_ok nmX1 hown hK hP hD hS 0 rfl rfl 0 (by decide) lkf49 (fun _ h9 => h9) rfl (by decide +kernel) rfl rfl (Nat.le_of_ble_eq_true rfl) dM_close_2 (fun H locs hP hD hS => ?_)
  have hP : va_P (dC, dI) vwCl (wM g m1 m2 m3 m4 m5 m6 m7 m8 m9 m10 m11 m12 m13 ci mt tl rc kp ms mi ml mb mf mo my (np / 56) (np % 56) md mu fi sp sq) H := hP
  have hD : va_D A (wM g m1 m2 m3 m4 m5 m6 m7 m8 m9 m10 m11 m12 m13 ci mt tl rc kp ms mi ml mb mf mo my (np / 56) (np % 56) md mu fi sp sq) := hD
  refine lv_aload_n hx hb dM_close_5 rfl (lv_at hl 0 rfl) ?_
  refine va_get (D := (dC, dI)) (ci := 1) (v := .int (nI (np % 56))) (C := RX1) (T := TX1) (N := 19) hx hb hts hin1 hown hK hP 0 rfl rfl 13 (by decide) lkf59 (fun _ h9 => h9) rfl dM_close_6 ?_
  refine lv_if_ne (tgt := 14) hx hb dM_close_9 (by decide) (fun c_9 => ?_) (fun c_9 => ?_)
  · have c_9 := kmt (kn_eq0 (by omega)).mpr c_9
    refine lv_aload_n hx hb dM_close_14 rfl (lv_at hl 0 rfl) ?_
    refine va_get (D := (dC, dI)) (ci := 1) (v := .int (nI (np % 56))) (C := RX1) (T := TX1) (N := 19) hx hb hts hin1 hown hK hP 0 rfl rfl 13 (by decide) lkf59 (fun _ h9 => h9) rfl dM_close_15 ?_
    refine lv_istore_n (lv' := [(1, .int (nI (np % 56))), (0, .ref g)]) hx hb dM_close_18 rfl hl (by decide) rfl (fun ls hl => ?_)
    have hloopk : ∀ (n k : Nat), k ≤ 56 - np % 56 → 56 - np % 56 + 1 ≤ k + n → ∀ (H : Heap) (locs : List Loc) (ls : Array Slot), va_P (dC, dI) vwCl (wM g m1 m2 m3 m4 m5 m6 m7 m8 m9 m10 m11 m12 m13 ci mt tl rc kp ms mi ml mb mf mo my (np / 56) (np % 56) (cz md np k) mu fi sp sq) H → va_D A (wM g m1 m2 m3 m4 m5 m6 m7 m8 m9 m10 m11 m12 m13 ci mt tl rc kp ms mi ml mb mf mo my (np / 56) (np % 56) (cz md np k) mu fi sp sq) → va_S A s.heap H locs → lv_has ls 2 [(1, .int (nI (np % 56 + k))), (0, .ref g)] → W p l e ({ frames := 1, cells := 0, slots := 0, locals := 20 }) s m ([.ref g] : List Value).toArray below meth c H locs 0 0 Q (F0 m 19 ls []) := by
      intro n
      induction n with
      | zero => intro k h1 h2; exact absurd h2 (by omega)
      | succ n ih =>
        intro k hkA hkB H locs ls hP hD hS hl
        refine lv_iload_n hx hb dM_close_19 rfl (lv_at hl 0 rfl) ?_
        refine lv_bipush (v := nI 56) hx hb dM_close_20 (by decide) ?_
        refine lv_icmp_ge (tgt := 46) hx hb dM_close_22 (by decide) (fun c_22 => ?_) (fun c_22 => ?_)
        · have c_22 := (nI_leI (by omega) (by omega)).mp c_22
          have hkE : k = 56 - np % 56 := by omega
          rw [hkE] at hP hD
          refine lv_aload_n hx hb dM_close_46 rfl (lv_at hl 1 rfl) ?_
          refine kc_vv (WR := []) (As := []) (rest := []) ⟨hx, hb, hml, hown, hts⟩ (r_write l dC dI g m1 m2 m3 m4 m5 m6 m7 m8 m9 m10 m11 m12 m13 ci mt tl rc kp ms mi ml mb mf mo my (np / 56) (np % 56) (cz md np (56 - np % 56)) mu fi sp sq H.size (by omega)) (cwV 0 hts gM_close_M_write rfl rfl rfl (by decide +kernel) ⟨Nat.le_of_ble_eq_true rfl, Nat.le_of_ble_eq_true rfl⟩) hK hP hD hS hA [0, 1, 2, 3, 4, 5, 6, 7, 8, 9, 10, 11, 12, 13] [] [0] rfl rfl (by decide) (by decide) (by decide) rfl 0 1 rfl rfl rfl rfl hl.1 rfl (Nat.le_of_ble_eq_true rfl) dM_close_47 ⟨Nat.zero_le _, Nat.zero_le _⟩ (fun H locs hP hD hS => ?_)
          have hP : va_P (dC, dI) vwCl (wM g m1 m2 m3 m4 m5 m6 m7 m8 m9 m10 m11 m12 m13 ci mt tl rc kp ms mi ml mb mf mo my ((np / 56) + 1) 0 (cz md np (56 - np % 56)) (updN mu (np / 56) (np % 56)) fi sp sq) H := hP
          have hD : va_D A (wM g m1 m2 m3 m4 m5 m6 m7 m8 m9 m10 m11 m12 m13 ci mt tl rc kp ms mi ml mb mf mo my ((np / 56) + 1) 0 (cz md np (56 - np % 56)) (updN mu (np / 56) (np % 56)) fi sp sq) := hD
          have hP : va_P (dC, dI) vwCl (wM g m1 m2 m3 m4 m5 m6 m7 m8 m9 m10 m11 m12 m13 ci mt tl rc kp ms mi ml mb mf mo my ((np + (56 - np % 56)) / 56) ((np + (56 - np % 56)) % 56) (cz md np (56 - np % 56)) (updN mu (np / 56) (np % 56)) fi sp sq) H := by rw [show (np + (56 - np % 56)) / 56 = (np / 56) + 1 by omega, show (np + (56 - np % 56)) % 56 = 0 by omega]; exact hP
          have hD : va_D A (wM g m1 m2 m3 m4 m5 m6 m7 m8 m9 m10 m11 m12 m13 ci mt tl rc kp ms mi ml mb mf mo my ((np + (56 - np % 56)) / 56) ((np + (56 - np % 56)) % 56) (cz md np (56 - np % 56)) (updN mu (np / 56) (np % 56)) fi sp sq) := by rw [show (np + (56 - np % 56)) / 56 = (np / 56) + 1 by omega, show (np + (56 - np % 56)) % 56 = 0 by omega]; exact hD
          refine lv_iconst (v := nI 1) hx hb dM_close_50 (by decide) ?_
          exact hret _ _ _ _ hP hD hS dM_close_51
        · have c_22 := kmt (nI_leI (by omega) (by omega)).mpr c_22
          refine lv_aload_n hx hb dM_close_25 rfl (lv_at hl 1 rfl) ?_
          refine va_get (D := (dC, dI)) (ci := 1) (v := .ref m9) (C := RX1) (T := TX1) (N := 19) hx hb hts hin1 hown hK hP 0 rfl rfl 14 (by decide) lkf34 (fun _ h9 => h9) rfl dM_close_26 ?_
          refine lv_bipush (v := nI 56) hx hb dM_close_29 (by decide) ?_
          refine lv_aload_n hx hb dM_close_31 rfl (lv_at hl 1 rfl) ?_
          refine va_get (D := (dC, dI)) (ci := 1) (v := .int (nI (np / 56))) (C := RX1) (T := TX1) (N := 19) hx hb hts hin1 hown hK hP 0 rfl rfl 12 (by decide) lkf56 (fun _ h9 => h9) rfl dM_close_32 ?_
          refine lv_imul hx hb dM_close_35 ?_
          refine kv_top (show _ = nI (56 * (np / 56)) from pk_mul _ _) ?_
          refine lv_iload_n hx hb dM_close_36 rfl (lv_at hl 0 rfl) ?_
          refine lv_iadd hx hb dM_close_37 ?_
          refine kv_top (show _ = nI ((56 * (np / 56)) + (np % 56 + k)) from nI_add _ _) ?_
          refine kv_top (show _ = nI (np + k) from (by rw [show (56 * (np / 56)) + (np % 56 + k) = np + k by omega])) ?_
          refine lv_iconst (v := nI 0) hx hb dM_close_38 (by decide) ?_
          refine ka_iastN hx hb hK hP hD hS 9 0 rfl rfl (k := np + k) (x := 0) (by omega) (by decide) dM_close_39 (fun H locs hP hD hS => ?_)
          have hP : va_P (dC, dI) vwCl (wM g m1 m2 m3 m4 m5 m6 m7 m8 m9 m10 m11 m12 m13 ci mt tl rc kp ms mi ml mb mf mo my (np / 56) (np % 56) (updN (cz md np k) (np + k) 0) mu fi sp sq) H := hP
          have hD : va_D A (wM g m1 m2 m3 m4 m5 m6 m7 m8 m9 m10 m11 m12 m13 ci mt tl rc kp ms mi ml mb mf mo my (np / 56) (np % 56) (updN (cz md np k) (np + k) 0) mu fi sp sq) := hD
          refine lv_iinc (v := nI ((np % 56 + k) + 1)) (lv' := [(1, .int (nI ((np % 56 + k) + 1))), (0, .ref g)]) hx hb dM_close_40 hl (k := 0) rfl (ki_inc _) (by decide) rfl (fun ls hl => ?_)
          refine lv_goto (tgt := 19) hx hb dM_close_43 (by decide) ?_
          have hP : va_P (dC, dI) vwCl (wM g m1 m2 m3 m4 m5 m6 m7 m8 m9 m10 m11 m12 m13 ci mt tl rc kp ms mi ml mb mf mo my (np / 56) (np % 56) (cz md np (k + 1)) mu fi sp sq) H := hP
          have hD : va_D A (wM g m1 m2 m3 m4 m5 m6 m7 m8 m9 m10 m11 m12 m13 ci mt tl rc kp ms mi ml mb mf mo my (np / 56) (np % 56) (cz md np (k + 1)) mu fi sp sq) := hD
          exact ih (k + 1) (by omega) (by omega) _ _ _ hP hD hS (lv_sub hl [0, 1] rfl)
    have hP : va_P (dC, dI) vwCl (wM g m1 m2 m3 m4 m5 m6 m7 m8 m9 m10 m11 m12 m13 ci mt tl rc kp ms mi ml mb mf mo my (np / 56) (np % 56) (cz md np (0)) mu fi sp sq) H := hP
    have hD : va_D A (wM g m1 m2 m3 m4 m5 m6 m7 m8 m9 m10 m11 m12 m13 ci mt tl rc kp ms mi ml mb mf mo my (np / 56) (np % 56) (cz md np (0)) mu fi sp sq) := hD
    exact hloopk ((56 - np % 56) + 1) 0 (by omega) (by omega) _ _ _ hP hD hS (lv_sub hl [0, 1] rfl)
  · have c_9 := (kn_eq0 (by omega)).mp c_9
    exfalso; omega
end
section
set_option maxHeartbeats 4000000 in
set_option maxRecDepth 100000 in
theorem r_closeN (l : Launch) (dC : Nat → ClassId) (dI : Nat → Nat → Nat) (g m1 m2 m3 m4 m5 m6 m7 m8 m9 m10 m11 m12 m13 : Nat) (ci : ClassId) (mt : Nat → Nat) (tl rc kp : Nat) (ms mi ml mb mf mo my : Nat → Nat) (np : Nat) (md mu fi : Nat → Nat) (sp : Nat → Int32) (sq : Nat → Nat) (sz : Nat) (hnp : np ≤ 4480) (hu : np % 56 = 0) : Met l yM_close wsM_close ({ frames := 1, cells := 0, slots := 0, locals := 20 }) (kPre (dC, dI) vwCl (wM g m1 m2 m3 m4 m5 m6 m7 m8 m9 m10 m11 m12 m13 ci mt tl rc kp ms mi ml mb mf mo my (np / 56) (np % 56) md mu fi sp sq) (tM ci) sz [.ref g]) (kQi (dC, dI) vwCl (wM g m1 m2 m3 m4 m5 m6 m7 m8 m9 m10 m11 m12 m13 ci mt tl rc kp ms mi ml mb mf mo my (np / 56) (np % 56) md mu fi sp sq) (tM ci) sz (nI 0) (wM g m1 m2 m3 m4 m5 m6 m7 m8 m9 m10 m11 m12 m13 ci mt tl rc kp ms mi ml mb mf mo my (np / 56) (np % 56) md mu fi sp sq)) 0 0 (va_A (wM g m1 m2 m3 m4 m5 m6 m7 m8 m9 m10 m11 m12 m13 ci mt tl rc kp ms mi ml mb mf mo my (np / 56) (np % 56) md mu fi sp sq) sz) := by
  refine kM_z (cc := cM_close) (maxL := 2) (by decide) rfl (Nat.le_of_ble_eq_true rfl) (rfl) ?_
  intro p e s m below meth c A Q ls H locs S hP hK hD hS hA hl hret
  obtain ⟨hx, hb, hml, hown, hts⟩ := id S
  have hin1 : ∀ w ∈ u_ws RX1 TX1 19, w ∈ wsM_close := fun _ h => List.mem_cons_of_mem _ (List.mem_append_right _ h)
  have lkf49 := hts (.fieldLink RX1 49 "BlockTapeModel" "thrown" "I") (by decide +kernel)
  have lkf59 := hts (.fieldLink RX1 59 "BlockTapeModel" "used" "I") (by decide +kernel)
  have hl : lv_has ls 2 [(0, .ref g)] := hl
  refine lv_aload_n hx hb dM_close_0 rfl (lv_at hl 0 rfl) ?_
  refine lv_iconst (v := nI 0) hx hb dM_close_1 (by decide) ?_
  refine va_put (D := (dC, dI)) (ci := 1) (v := .int (nI 0)) (ty := .int) (C := RX1) (T := TX1) (N := 19) hx hb hts hin1 tyX1 tyX1_ok nmX1 hown hK hP hD hS 0 rfl rfl 0 (by decide) lkf49 (fun _ h9 => h9) rfl (by decide +kernel) rfl rfl (Nat.le_of_ble_eq_true rfl) dM_close_2 (fun H locs hP hD hS => ?_)
  have hP : va_P (dC, dI) vwCl (wM g m1 m2 m3 m4 m5 m6 m7 m8 m9 m10 m11 m12 m13 ci mt tl rc kp ms mi ml mb mf mo my (np / 56) (np % 56) md mu fi sp sq) H := hP
  have hD : va_D A (wM g m1 m2 m3 m4 m5 m6 m7 m8 m9 m10 m11 m12 m13 ci mt tl rc kp ms mi ml mb mf mo my (np / 56) (np % 56) md mu fi sp sq) := hD
  refine lv_aload_n hx hb dM_close_5 rfl (lv_at hl 0 rfl) ?_
  refine va_get (D := (dC, dI)) (ci := 1) (v := .int (nI (np % 56))) (C := RX1) (T := TX1) (N := 19) hx hb hts hin1 hown hK hP 0 rfl rfl 13 (by decide) lkf59 (fun _ h9 => h9) rfl dM_close_6 ?_
  refine lv_if_ne (tgt := 14) hx hb dM_close_9 (by decide) (fun c_9 => ?_) (fun c_9 => ?_)
  · have c_9 := kmt (kn_eq0 (by omega)).mpr c_9
    exfalso; omega
  · have c_9 := (kn_eq0 (by omega)).mp c_9
    refine lv_iconst (v := nI 0) hx hb dM_close_12 (by decide) ?_
    exact hret _ _ _ _ hP hD hS dM_close_13
set_option maxHeartbeats 4000000 in
set_option maxRecDepth 100000 in
theorem r_plain (l : Launch) (dC : Nat → ClassId) (dI : Nat → Nat → Nat) (g m1 m2 m3 m4 m5 m6 m7 m8 m9 m10 m11 m12 m13 : Nat) (ci : ClassId) (mt : Nat → Nat) (tl rc kp : Nat) (ms mi ml mb mf mo my : Nat → Nat) (np : Nat) (md mu fi : Nat → Nat) (sp : Nat → Int32) (sq : Nat → Nat) (sz : Nat) (b : Nat) (i : Nat) (hb80 : b < 80) (hi : i < 64 ∧ ¬ (3 < i ∧ i < 8)) : Met l yM_plain wsM_plain ({ frames := 0, cells := 0, slots := 0, locals := 0 }) (kPre (dC, dI) vwCl (wM g m1 m2 m3 m4 m5 m6 m7 m8 m9 m10 m11 m12 m13 ci mt tl rc kp ms mi ml mb mf mo my (np / 56) (np % 56) md mu fi sp sq) (tM ci) sz [.ref g, .int (nI b), .int (nI i)]) (kQi (dC, dI) vwCl (wM g m1 m2 m3 m4 m5 m6 m7 m8 m9 m10 m11 m12 m13 ci mt tl rc kp ms mi ml mb mf mo my (np / 56) (np % 56) md mu fi sp sq) (tM ci) sz (nI (plN mu fi md b i)) (wM g m1 m2 m3 m4 m5 m6 m7 m8 m9 m10 m11 m12 m13 ci mt tl rc kp ms mi ml mb mf mo my (np / 56) (np % 56) md mu fi sp sq)) 0 0 (va_A (wM g m1 m2 m3 m4 m5 m6 m7 m8 m9 m10 m11 m12 m13 ci mt tl rc kp ms mi ml mb mf mo my (np / 56) (np % 56) md mu fi sp sq) sz) := by
  refine kM_i (cc := cM_plain) (maxL := 3) (by decide) rfl (Nat.le_of_ble_eq_true rfl) ?_
  intro p e s m below meth c A Q ls H locs S hP hK hD hS hA hl hret
  obtain ⟨hx, hb, hml, hown, hts⟩ := id S
  have hin1 : ∀ w ∈ u_ws RX1 TX1 19, w ∈ wsM_plain := fun _ h => List.mem_cons_of_mem _ (List.mem_append_right _ h)
  have lkf34 := hts (.fieldLink RX1 34 "BlockTapeModel" "data" "[I") (by decide +kernel)
  have lkf40 := hts (.fieldLink RX1 40 "BlockTapeModel" "first" "[I") (by decide +kernel)
  have lkf37 := hts (.fieldLink RX1 37 "BlockTapeModel" "uses" "[I") (by decide +kernel)
  have hl : lv_has ls 3 [(0, .ref g), (1, .int (nI b)), (2, .int (nI i))] := hl
  refine lv_iload_n hx hb dM_plain_0 rfl (lv_at hl 2 rfl) ?_
  refine lv_iconst (v := nI 2) hx hb dM_plain_1 (by decide) ?_
  refine lv_icmp_ge (tgt := 22) hx hb dM_plain_2 (by decide) (fun c_2 => ?_) (fun c_2 => ?_)
  · have c_2 := (nI_leI (by omega) (by omega)).mp c_2
    refine lv_iload_n hx hb dM_plain_22 rfl (lv_at hl 2 rfl) ?_
    refine lv_iconst (v := nI 4) hx hb dM_plain_23 (by decide) ?_
    refine lv_icmp_ge (tgt := 48) hx hb dM_plain_24 (by decide) (fun c_24 => ?_) (fun c_24 => ?_)
    · have c_24 := (nI_leI (by omega) (by omega)).mp c_24
      refine lv_aload_n hx hb dM_plain_48 rfl (lv_at hl 0 rfl) ?_
      refine va_get (D := (dC, dI)) (ci := 1) (v := .ref m9) (C := RX1) (T := TX1) (N := 19) hx hb hts hin1 hown hK hP 0 rfl rfl 14 (by decide) lkf34 (fun _ h9 => h9) rfl dM_plain_49 ?_
      refine lv_bipush (v := nI 56) hx hb dM_plain_52 (by decide) ?_
      refine lv_iload_n hx hb dM_plain_54 rfl (lv_at hl 1 rfl) ?_
      refine lv_imul hx hb dM_plain_55 ?_
      refine kv_top (show _ = nI (56 * b) from pk_mul _ _) ?_
      refine lv_iload_n hx hb dM_plain_56 rfl (lv_at hl 2 rfl) ?_
      refine lv_iadd hx hb dM_plain_57 ?_
      refine kv_top (show _ = nI ((56 * b) + i) from nI_add _ _) ?_
      refine lv_bipush (v := nI 8) hx hb dM_plain_58 (by decide) ?_
      refine lv_isub hx hb dM_plain_60 ?_
      refine kv_top (show _ = nI (((56 * b) + i) - 8) from pk_sub (by omega)) ?_
      refine ka_ialdN hx hb hK hP 9 0 rfl rfl (k := ((56 * b) + i) - 8) (by omega) (by decide) dM_plain_61 ?_
      refine kv_top (show _ = nI (plN mu fi md b i) from (by rw [plN, if_neg (by omega), if_neg (by omega), if_neg (by omega), if_neg (by omega)])) ?_
      exact hret _ _ _ _ hP hD hS dM_plain_62
    · have c_24 := kmt (nI_leI (by omega) (by omega)).mpr c_24
      refine lv_iload_n hx hb dM_plain_27 rfl (lv_at hl 2 rfl) ?_
      refine lv_iconst (v := nI 2) hx hb dM_plain_28 (by decide) ?_
      refine lv_icmp_ne (tgt := 41) hx hb dM_plain_29 (by decide) (fun c_29 => ?_) (fun c_29 => ?_)
      · have c_29 := kmt (nI_eq (by omega) (by omega)).mpr c_29
        refine lv_aload_n hx hb dM_plain_41 rfl (lv_at hl 0 rfl) ?_
        refine va_get (D := (dC, dI)) (ci := 1) (v := .ref m11) (C := RX1) (T := TX1) (N := 19) hx hb hts hin1 hown hK hP 0 rfl rfl 16 (by decide) lkf40 (fun _ h9 => h9) rfl dM_plain_42 ?_
        refine lv_iload_n hx hb dM_plain_45 rfl (lv_at hl 1 rfl) ?_
        refine ka_ialdN hx hb hK hP 11 0 rfl rfl (k := b) (by omega) (by decide) dM_plain_46 ?_
        refine kv_top (show _ = nI (plN mu fi md b i) from (by rw [plN, if_neg (by omega), if_neg (by omega), if_neg c_29, if_pos (by omega)])) ?_
        exact hret _ _ _ _ hP hD hS dM_plain_47
      · have c_29 := (nI_eq (by omega) (by omega)).mp c_29
        refine lv_aload_n hx hb dM_plain_32 rfl (lv_at hl 0 rfl) ?_
        refine va_get (D := (dC, dI)) (ci := 1) (v := .ref m10) (C := RX1) (T := TX1) (N := 19) hx hb hts hin1 hown hK hP 0 rfl rfl 15 (by decide) lkf37 (fun _ h9 => h9) rfl dM_plain_33 ?_
        refine lv_iload_n hx hb dM_plain_36 rfl (lv_at hl 1 rfl) ?_
        refine ka_ialdN hx hb hK hP 10 0 rfl rfl (k := b) (by omega) (by decide) dM_plain_37 ?_
        refine lv_goto (tgt := 47) hx hb dM_plain_38 (by decide) ?_
        refine kv_top (show _ = nI (plN mu fi md b i) from (by rw [plN, if_neg (by omega), if_neg (by omega), if_pos c_29])) ?_
        exact hret _ _ _ _ hP hD hS dM_plain_47
  · have c_2 := kmt (nI_leI (by omega) (by omega)).mpr c_2
    refine lv_iload_n hx hb dM_plain_5 rfl (lv_at hl 2 rfl) ?_
    refine lv_if_ne (tgt := 16) hx hb dM_plain_6 (by decide) (fun c_6 => ?_) (fun c_6 => ?_)
    · have c_6 := kmt (kn_eq0 (by omega)).mpr c_6
      refine lv_iload_n hx hb dM_plain_16 rfl (lv_at hl 1 rfl) ?_
      refine lv_sipush (v := nI 255) hx hb dM_plain_17 (by decide) ?_
      refine lv_iand hx hb dM_plain_20 ?_
      refine kv_top (show _ = nI (b % 256) from pk_andN (by omega) 8 (by decide)) ?_
      refine kv_top (show _ = nI (plN mu fi md b i) from (by rw [plN, if_neg c_6, if_pos (by omega)])) ?_
      exact hret _ _ _ _ hP hD hS dM_plain_21
    · have c_6 := (kn_eq0 (by omega)).mp c_6
      refine lv_iload_n hx hb dM_plain_9 rfl (lv_at hl 1 rfl) ?_
      refine lv_bipush (v := nI 8) hx hb dM_plain_10 (by decide) ?_
      refine lv_ishr hx hb dM_plain_12 ?_
      refine kv_top (show _ = nI (b / 256) from pk_shrN (by omega) _ 8 (by decide)) ?_
      refine lv_goto (tgt := 21) hx hb dM_plain_13 (by decide) ?_
      refine kv_top (show _ = nI (plN mu fi md b i) from (by rw [plN, if_pos c_6])) ?_
      exact hret _ _ _ _ hP hD hS dM_plain_21
set_option maxHeartbeats 4000000 in
set_option maxRecDepth 100000 in
theorem r_sum (l : Launch) (dC : Nat → ClassId) (dI : Nat → Nat → Nat) (g m1 m2 m3 m4 m5 m6 m7 m8 m9 m10 m11 m12 m13 : Nat) (ci : ClassId) (mt : Nat → Nat) (tl rc kp : Nat) (ms mi ml mb mf mo my : Nat → Nat) (np : Nat) (md mu fi : Nat → Nat) (sp : Nat → Int32) (sq : Nat → Nat) (sz : Nat) (b : Nat) (hb80 : b < 80) : Met l yM_sum wsM_sum ({ frames := 1, cells := 0, slots := 0, locals := 22 }) (kPre (dC, dI) vwCl (wM g m1 m2 m3 m4 m5 m6 m7 m8 m9 m10 m11 m12 m13 ci mt tl rc kp ms mi ml mb mf mo my (np / 56) (np % 56) md mu fi sp sq) (tM ci) sz [.ref g, .int (nI b)]) (kQi (dC, dI) vwCl (wM g m1 m2 m3 m4 m5 m6 m7 m8 m9 m10 m11 m12 m13 ci mt tl rc kp ms mi ml mb mf mo my (np / 56) (np % 56) md mu fi sp sq) (tM ci) sz (sumX mu fi md b) (wM g m1 m2 m3 m4 m5 m6 m7 m8 m9 m10 m11 m12 m13 ci mt tl rc kp ms mi ml mb mf mo my (np / 56) (np % 56) md mu fi sp sq)) 0 0 (va_A (wM g m1 m2 m3 m4 m5 m6 m7 m8 m9 m10 m11 m12 m13 ci mt tl rc kp ms mi ml mb mf mo my (np / 56) (np % 56) md mu fi sp sq) sz) := by
  refine kM_i (cc := cM_sum) (maxL := 5) (by decide) rfl (Nat.le_of_ble_eq_true rfl) ?_
  intro p e s m below meth c A Q ls H locs S hP hK hD hS hA hl hret
  obtain ⟨hx, hb, hml, hown, hts⟩ := id S
  have lkc84 := hts (.constant RX1 84 (-306674912)) (by decide +kernel)
  have hl : lv_has ls 5 [(0, .ref g), (1, .int (nI b))] := hl
  refine lv_iconst (v := (-1)) hx hb dM_sum_0 (by decide) ?_
  refine lv_istore_n (lv' := [(2, .int ((-1))), (0, .ref g), (1, .int (nI b))]) hx hb dM_sum_1 rfl hl (by decide) rfl (fun ls hl => ?_)
  refine lv_iconst (v := nI 0) hx hb dM_sum_2 (by decide) ?_
  refine lv_istore_n (lv' := [(3, .int (nI 0)), (2, .int ((-1))), (0, .ref g), (1, .int (nI b))]) hx hb dM_sum_3 rfl hl (by decide) rfl (fun ls hl => ?_)
  have hloopi : ∀ (n i : Nat), i ≤ 64 → 64 + 1 ≤ i + n → ∀ (H : Heap) (locs : List Loc) (ls : Array Slot), va_P (dC, dI) vwCl (wM g m1 m2 m3 m4 m5 m6 m7 m8 m9 m10 m11 m12 m13 ci mt tl rc kp ms mi ml mb mf mo my (np / 56) (np % 56) md mu fi sp sq) H → va_D A (wM g m1 m2 m3 m4 m5 m6 m7 m8 m9 m10 m11 m12 m13 ci mt tl rc kp ms mi ml mb mf mo my (np / 56) (np % 56) md mu fi sp sq) → va_S A s.heap H locs → lv_has ls 5 [(3, .int (nI i)), (2, .int (sumM mu fi md b i)), (0, .ref g), (1, .int (nI b))] → W p l e ({ frames := 1, cells := 0, slots := 0, locals := 22 }) s m ([.ref g, .int (nI b)] : List Value).toArray below meth c H locs 0 0 Q (F0 m 4 ls []) := by
    intro n
    induction n with
    | zero => intro i h1 h2; exact absurd h2 (by omega)
    | succ n ih =>
      intro i hiA hiB H locs ls hP hD hS hl
      refine lv_iload_n hx hb dM_sum_4 rfl (lv_at hl 0 rfl) ?_
      refine lv_bipush (v := nI 64) hx hb dM_sum_5 (by decide) ?_
      refine lv_icmp_ge (tgt := 75) hx hb dM_sum_7 (by decide) (fun c_7 => ?_) (fun c_7 => ?_)
      · have c_7 := (nI_leI (by omega) (by omega)).mp c_7
        have hiE : i = 64 := by omega
        subst hiE
        refine lv_iload_n hx hb dM_sum_75 rfl (lv_at hl 1 rfl) ?_
        refine lv_iconst (v := (-1)) hx hb dM_sum_76 (by decide) ?_
        refine lv_ixor hx hb dM_sum_77 ?_
        refine kv_top (show _ = sumX mu fi md b from rfl) ?_
        exact hret _ _ _ _ hP hD hS dM_sum_78
      · have c_7 := kmt (nI_leI (by omega) (by omega)).mpr c_7
        refine lv_iload_n hx hb dM_sum_10 rfl (lv_at hl 0 rfl) ?_
        refine lv_iconst (v := nI 3) hx hb dM_sum_11 (by decide) ?_
        refine lv_icmp_le (tgt := 24) hx hb dM_sum_12 (by decide) (fun c_12 => ?_) (fun c_12 => ?_)
        · have c_12 := (nI_leI (by omega) (by omega)).mp c_12
          refine lv_iload_n hx hb dM_sum_24 rfl (lv_at hl 1 rfl) ?_
          refine lv_aload_n hx hb dM_sum_25 rfl (lv_at hl 2 rfl) ?_
          refine lv_iload_n hx hb dM_sum_26 rfl (lv_at hl 3 rfl) ?_
          refine lv_iload_n hx hb dM_sum_27 rfl (lv_at hl 0 rfl) ?_
          refine kc_vi (WR := []) (As := [.int (nI b), .int (nI i)]) (rest := [.int (sumM mu fi md b i)]) ⟨hx, hb, hml, hown, hts⟩ (r_plain l dC dI g m1 m2 m3 m4 m5 m6 m7 m8 m9 m10 m11 m12 m13 ci mt tl rc kp ms mi ml mb mf mo my np md mu fi sp sq H.size b i (by omega) (by omega)) (cwV 2 hts gM_sum_M_plain rfl rfl rfl (by decide +kernel) ⟨Nat.le_of_ble_eq_true rfl, Nat.le_of_ble_eq_true rfl⟩) hK hP hD hS hA [0, 1, 2, 3, 4, 5, 6, 7, 8, 9, 10, 11, 12, 13] [] [0] rfl rfl (by decide) (by decide) (by decide) rfl 0 1 rfl rfl rfl rfl hl.1 rfl (Nat.le_of_ble_eq_true rfl) dM_sum_28 ⟨Nat.zero_le _, Nat.zero_le _⟩ (fun H locs hP hD hS => ?_)
          have hP : va_P (dC, dI) vwCl (wM g m1 m2 m3 m4 m5 m6 m7 m8 m9 m10 m11 m12 m13 ci mt tl rc kp ms mi ml mb mf mo my (np / 56) (np % 56) md mu fi sp sq) H := hP
          have hD : va_D A (wM g m1 m2 m3 m4 m5 m6 m7 m8 m9 m10 m11 m12 m13 ci mt tl rc kp ms mi ml mb mf mo my (np / 56) (np % 56) md mu fi sp sq) := hD
          refine lv_ixor hx hb dM_sum_31 ?_
          refine lv_istore_n (lv' := [(2, .int ((sumM mu fi md b i) ^^^ (nI (plN mu fi md b i)))), (3, .int (nI i)), (0, .ref g), (1, .int (nI b))]) hx hb dM_sum_32 rfl hl (by decide) rfl (fun ls hl => ?_)
          refine lv_iconst (v := nI 0) hx hb dM_sum_33 (by decide) ?_
          refine lv_istore (lv' := [(4, .int (nI 0)), (2, .int ((sumM mu fi md b i) ^^^ (nI (plN mu fi md b i)))), (3, .int (nI i)), (0, .ref g), (1, .int (nI b))]) hx hb dM_sum_34 hl (by decide) rfl (fun ls hl => ?_)
          have hloopj : ∀ (n2 j : Nat), j ≤ 8 → 8 + 1 ≤ j + n2 → ∀ (H : Heap) (locs : List Loc) (ls : Array Slot), va_P (dC, dI) vwCl (wM g m1 m2 m3 m4 m5 m6 m7 m8 m9 m10 m11 m12 m13 ci mt tl rc kp ms mi ml mb mf mo my (np / 56) (np % 56) md mu fi sp sq) H → va_D A (wM g m1 m2 m3 m4 m5 m6 m7 m8 m9 m10 m11 m12 m13 ci mt tl rc kp ms mi ml mb mf mo my (np / 56) (np % 56) md mu fi sp sq) → va_S A s.heap H locs → lv_has ls 5 [(4, .int (nI j)), (2, .int (crcN (sumM mu fi md b i ^^^ nI (plN mu fi md b i)) j)), (0, .ref g), (1, .int (nI b)), (3, .int (nI i))] → W p l e ({ frames := 1, cells := 0, slots := 0, locals := 22 }) s m ([.ref g, .int (nI b)] : List Value).toArray below meth c H locs 0 0 Q (F0 m 36 ls []) := by
            intro n2
            induction n2 with
            | zero => intro j h1 h2; exact absurd h2 (by omega)
            | succ n2 ih2 =>
              intro j hjA hjB H locs ls hP hD hS hl
              refine lv_iload hx hb dM_sum_36 (lv_at hl 0 rfl) ?_
              refine lv_bipush (v := nI 8) hx hb dM_sum_38 (by decide) ?_
              refine lv_icmp_ge (tgt := 69) hx hb dM_sum_40 (by decide) (fun c_40 => ?_) (fun c_40 => ?_)
              · have c_40 := (nI_leI (by omega) (by omega)).mp c_40
                have hjE : j = 8 := by omega
                subst hjE
                rw [show crcN (sumM mu fi md b i ^^^ nI (plN mu fi md b i)) 8 = sumM mu fi md b (i + 1) from (by rw [sumM, if_neg (by omega)])] at hl
                refine lv_iinc (v := nI (i + 1)) (lv' := [(3, .int (nI (i + 1))), (4, .int (nI 8)), (2, .int (sumM mu fi md b (i + 1))), (0, .ref g), (1, .int (nI b))]) hx hb dM_sum_69 hl (k := 4) rfl (ki_inc _) (by decide) rfl (fun ls hl => ?_)
                refine lv_goto (tgt := 4) hx hb dM_sum_72 (by decide) ?_
                have hP : va_P (dC, dI) vwCl (wM g m1 m2 m3 m4 m5 m6 m7 m8 m9 m10 m11 m12 m13 ci mt tl rc kp ms mi ml mb mf mo my (np / 56) (np % 56) md mu fi sp sq) H := hP
                have hD : va_D A (wM g m1 m2 m3 m4 m5 m6 m7 m8 m9 m10 m11 m12 m13 ci mt tl rc kp ms mi ml mb mf mo my (np / 56) (np % 56) md mu fi sp sq) := hD
                exact ih (i + 1) (by omega) (by omega) _ _ _ hP hD hS (lv_sub hl [0, 2, 3, 4] rfl)
              · have c_40 := kmt (nI_leI (by omega) (by omega)).mpr c_40
                refine lv_iload_n hx hb dM_sum_43 rfl (lv_at hl 1 rfl) ?_
                refine lv_iconst (v := nI 1) hx hb dM_sum_44 (by decide) ?_
                refine lv_iand hx hb dM_sum_45 ?_
                refine lv_iconst (v := nI 1) hx hb dM_sum_46 (by decide) ?_
                refine lv_icmp_ne (tgt := 59) hx hb dM_sum_47 (by decide) (fun c_47 => ?_) (fun c_47 => ?_)
                · refine lv_iload_n hx hb dM_sum_59 rfl (lv_at hl 1 rfl) ?_
                  refine lv_iconst (v := nI 1) hx hb dM_sum_60 (by decide) ?_
                  refine lv_iushr (v := ush (crcN (sumM mu fi md b i ^^^ nI (plN mu fi md b i)) j) 1) hx hb dM_sum_61 rfl ?_
                  refine kv_top (show _ = crcN (sumM mu fi md b i ^^^ nI (plN mu fi md b i)) (j + 1) from (by show _ = crc1 _; rw [crc1, if_pos (Decidable.byContradiction (fun h9 => c_47 (c1_one.mpr h9)))])) ?_
                  refine lv_istore_n (lv' := [(2, .int (crcN (sumM mu fi md b i ^^^ nI (plN mu fi md b i)) (j + 1))), (4, .int (nI j)), (0, .ref g), (1, .int (nI b)), (3, .int (nI i))]) hx hb dM_sum_62 rfl hl (by decide) rfl (fun ls hl => ?_)
                  refine lv_iinc (v := nI (j + 1)) (lv' := [(4, .int (nI (j + 1))), (2, .int (crcN (sumM mu fi md b i ^^^ nI (plN mu fi md b i)) (j + 1))), (0, .ref g), (1, .int (nI b)), (3, .int (nI i))]) hx hb dM_sum_63 hl (k := 1) rfl (ki_inc _) (by decide) rfl (fun ls hl => ?_)
                  refine lv_goto (tgt := 36) hx hb dM_sum_66 (by decide) ?_
                  have hP : va_P (dC, dI) vwCl (wM g m1 m2 m3 m4 m5 m6 m7 m8 m9 m10 m11 m12 m13 ci mt tl rc kp ms mi ml mb mf mo my (np / 56) (np % 56) md mu fi sp sq) H := hP
                  have hD : va_D A (wM g m1 m2 m3 m4 m5 m6 m7 m8 m9 m10 m11 m12 m13 ci mt tl rc kp ms mi ml mb mf mo my (np / 56) (np % 56) md mu fi sp sq) := hD
                  exact ih2 (j + 1) (by omega) (by omega) _ _ _ hP hD hS (lv_sub hl [0, 1, 2, 3, 4] rfl)
                · refine lv_iload_n hx hb dM_sum_50 rfl (lv_at hl 1 rfl) ?_
                  refine lv_iconst (v := nI 1) hx hb dM_sum_51 (by decide) ?_
                  refine lv_iushr (v := ush (crcN (sumM mu fi md b i ^^^ nI (plN mu fi md b i)) j) 1) hx hb dM_sum_52 rfl ?_
                  refine lv_ldc (v := (-306674912)) hx hb hown lkc84 dM_sum_53 ?_
                  refine lv_ixor hx hb dM_sum_55 ?_
                  refine lv_goto (tgt := 62) hx hb dM_sum_56 (by decide) ?_
                  refine kv_top (show _ = crcN (sumM mu fi md b i ^^^ nI (plN mu fi md b i)) (j + 1) from (by show _ = crc1 _; rw [crc1, if_neg (c1_one.mp c_47)])) ?_
                  refine lv_istore_n (lv' := [(2, .int (crcN (sumM mu fi md b i ^^^ nI (plN mu fi md b i)) (j + 1))), (4, .int (nI j)), (0, .ref g), (1, .int (nI b)), (3, .int (nI i))]) hx hb dM_sum_62 rfl hl (by decide) rfl (fun ls hl => ?_)
                  refine lv_iinc (v := nI (j + 1)) (lv' := [(4, .int (nI (j + 1))), (2, .int (crcN (sumM mu fi md b i ^^^ nI (plN mu fi md b i)) (j + 1))), (0, .ref g), (1, .int (nI b)), (3, .int (nI i))]) hx hb dM_sum_63 hl (k := 1) rfl (ki_inc _) (by decide) rfl (fun ls hl => ?_)
                  refine lv_goto (tgt := 36) hx hb dM_sum_66 (by decide) ?_
                  have hP : va_P (dC, dI) vwCl (wM g m1 m2 m3 m4 m5 m6 m7 m8 m9 m10 m11 m12 m13 ci mt tl rc kp ms mi ml mb mf mo my (np / 56) (np % 56) md mu fi sp sq) H := hP
                  have hD : va_D A (wM g m1 m2 m3 m4 m5 m6 m7 m8 m9 m10 m11 m12 m13 ci mt tl rc kp ms mi ml mb mf mo my (np / 56) (np % 56) md mu fi sp sq) := hD
                  exact ih2 (j + 1) (by omega) (by omega) _ _ _ hP hD hS (lv_sub hl [0, 1, 2, 3, 4] rfl)
          have hP : va_P (dC, dI) vwCl (wM g m1 m2 m3 m4 m5 m6 m7 m8 m9 m10 m11 m12 m13 ci mt tl rc kp ms mi ml mb mf mo my (np / 56) (np % 56) md mu fi sp sq) H := hP
          have hD : va_D A (wM g m1 m2 m3 m4 m5 m6 m7 m8 m9 m10 m11 m12 m13 ci mt tl rc kp ms mi ml mb mf mo my (np / 56) (np % 56) md mu fi sp sq) := hD
          exact hloopj (8 + 1) 0 (by omega) (by omega) _ _ _ hP hD hS (lv_sub hl [0, 1, 3, 4, 2] rfl)
        · have c_12 := kmt (nI_leI (by omega) (by omega)).mpr c_12
          refine lv_iload_n hx hb dM_sum_15 rfl (lv_at hl 0 rfl) ?_
          refine lv_bipush (v := nI 8) hx hb dM_sum_16 (by decide) ?_
          refine lv_icmp_ge (tgt := 24) hx hb dM_sum_18 (by decide) (fun c_18 => ?_) (fun c_18 => ?_)
          · have c_18 := (nI_leI (by omega) (by omega)).mp c_18
            refine lv_iload_n hx hb dM_sum_24 rfl (lv_at hl 1 rfl) ?_
            refine lv_aload_n hx hb dM_sum_25 rfl (lv_at hl 2 rfl) ?_
            refine lv_iload_n hx hb dM_sum_26 rfl (lv_at hl 3 rfl) ?_
            refine lv_iload_n hx hb dM_sum_27 rfl (lv_at hl 0 rfl) ?_
            refine kc_vi (WR := []) (As := [.int (nI b), .int (nI i)]) (rest := [.int (sumM mu fi md b i)]) ⟨hx, hb, hml, hown, hts⟩ (r_plain l dC dI g m1 m2 m3 m4 m5 m6 m7 m8 m9 m10 m11 m12 m13 ci mt tl rc kp ms mi ml mb mf mo my np md mu fi sp sq H.size b i (by omega) (by omega)) (cwV 2 hts gM_sum_M_plain rfl rfl rfl (by decide +kernel) ⟨Nat.le_of_ble_eq_true rfl, Nat.le_of_ble_eq_true rfl⟩) hK hP hD hS hA [0, 1, 2, 3, 4, 5, 6, 7, 8, 9, 10, 11, 12, 13] [] [0] rfl rfl (by decide) (by decide) (by decide) rfl 0 1 rfl rfl rfl rfl hl.1 rfl (Nat.le_of_ble_eq_true rfl) dM_sum_28 ⟨Nat.zero_le _, Nat.zero_le _⟩ (fun H locs hP hD hS => ?_)
            have hP : va_P (dC, dI) vwCl (wM g m1 m2 m3 m4 m5 m6 m7 m8 m9 m10 m11 m12 m13 ci mt tl rc kp ms mi ml mb mf mo my (np / 56) (np % 56) md mu fi sp sq) H := hP
            have hD : va_D A (wM g m1 m2 m3 m4 m5 m6 m7 m8 m9 m10 m11 m12 m13 ci mt tl rc kp ms mi ml mb mf mo my (np / 56) (np % 56) md mu fi sp sq) := hD
            refine lv_ixor hx hb dM_sum_31 ?_
            refine lv_istore_n (lv' := [(2, .int ((sumM mu fi md b i) ^^^ (nI (plN mu fi md b i)))), (3, .int (nI i)), (0, .ref g), (1, .int (nI b))]) hx hb dM_sum_32 rfl hl (by decide) rfl (fun ls hl => ?_)
            refine lv_iconst (v := nI 0) hx hb dM_sum_33 (by decide) ?_
            refine lv_istore (lv' := [(4, .int (nI 0)), (2, .int ((sumM mu fi md b i) ^^^ (nI (plN mu fi md b i)))), (3, .int (nI i)), (0, .ref g), (1, .int (nI b))]) hx hb dM_sum_34 hl (by decide) rfl (fun ls hl => ?_)
            have hloopj : ∀ (n2 j : Nat), j ≤ 8 → 8 + 1 ≤ j + n2 → ∀ (H : Heap) (locs : List Loc) (ls : Array Slot), va_P (dC, dI) vwCl (wM g m1 m2 m3 m4 m5 m6 m7 m8 m9 m10 m11 m12 m13 ci mt tl rc kp ms mi ml mb mf mo my (np / 56) (np % 56) md mu fi sp sq) H → va_D A (wM g m1 m2 m3 m4 m5 m6 m7 m8 m9 m10 m11 m12 m13 ci mt tl rc kp ms mi ml mb mf mo my (np / 56) (np % 56) md mu fi sp sq) → va_S A s.heap H locs → lv_has ls 5 [(4, .int (nI j)), (2, .int (crcN (sumM mu fi md b i ^^^ nI (plN mu fi md b i)) j)), (0, .ref g), (1, .int (nI b)), (3, .int (nI i))] → W p l e ({ frames := 1, cells := 0, slots := 0, locals := 22 }) s m ([.ref g, .int (nI b)] : List Value).toArray below meth c H locs 0 0 Q (F0 m 36 ls []) := by
              intro n2
              induction n2 with
              | zero => intro j h1 h2; exact absurd h2 (by omega)
              | succ n2 ih2 =>
                intro j hjA hjB H locs ls hP hD hS hl
                refine lv_iload hx hb dM_sum_36 (lv_at hl 0 rfl) ?_
                refine lv_bipush (v := nI 8) hx hb dM_sum_38 (by decide) ?_
                refine lv_icmp_ge (tgt := 69) hx hb dM_sum_40 (by decide) (fun c_40 => ?_) (fun c_40 => ?_)
                · have c_40 := (nI_leI (by omega) (by omega)).mp c_40
                  have hjE : j = 8 := by omega
                  subst hjE
                  rw [show crcN (sumM mu fi md b i ^^^ nI (plN mu fi md b i)) 8 = sumM mu fi md b (i + 1) from (by rw [sumM, if_neg (by omega)])] at hl
                  refine lv_iinc (v := nI (i + 1)) (lv' := [(3, .int (nI (i + 1))), (4, .int (nI 8)), (2, .int (sumM mu fi md b (i + 1))), (0, .ref g), (1, .int (nI b))]) hx hb dM_sum_69 hl (k := 4) rfl (ki_inc _) (by decide) rfl (fun ls hl => ?_)
                  refine lv_goto (tgt := 4) hx hb dM_sum_72 (by decide) ?_
                  have hP : va_P (dC, dI) vwCl (wM g m1 m2 m3 m4 m5 m6 m7 m8 m9 m10 m11 m12 m13 ci mt tl rc kp ms mi ml mb mf mo my (np / 56) (np % 56) md mu fi sp sq) H := hP
                  have hD : va_D A (wM g m1 m2 m3 m4 m5 m6 m7 m8 m9 m10 m11 m12 m13 ci mt tl rc kp ms mi ml mb mf mo my (np / 56) (np % 56) md mu fi sp sq) := hD
                  exact ih (i + 1) (by omega) (by omega) _ _ _ hP hD hS (lv_sub hl [0, 2, 3, 4] rfl)
                · have c_40 := kmt (nI_leI (by omega) (by omega)).mpr c_40
                  refine lv_iload_n hx hb dM_sum_43 rfl (lv_at hl 1 rfl) ?_
                  refine lv_iconst (v := nI 1) hx hb dM_sum_44 (by decide) ?_
                  refine lv_iand hx hb dM_sum_45 ?_
                  refine lv_iconst (v := nI 1) hx hb dM_sum_46 (by decide) ?_
                  refine lv_icmp_ne (tgt := 59) hx hb dM_sum_47 (by decide) (fun c_47 => ?_) (fun c_47 => ?_)
                  · refine lv_iload_n hx hb dM_sum_59 rfl (lv_at hl 1 rfl) ?_
                    refine lv_iconst (v := nI 1) hx hb dM_sum_60 (by decide) ?_
                    refine lv_iushr (v := ush (crcN (sumM mu fi md b i ^^^ nI (plN mu fi md b i)) j) 1) hx hb dM_sum_61 rfl ?_
                    refine kv_top (show _ = crcN (sumM mu fi md b i ^^^ nI (plN mu fi md b i)) (j + 1) from (by show _ = crc1 _; rw [crc1, if_pos (Decidable.byContradiction (fun h9 => c_47 (c1_one.mpr h9)))])) ?_
                    refine lv_istore_n (lv' := [(2, .int (crcN (sumM mu fi md b i ^^^ nI (plN mu fi md b i)) (j + 1))), (4, .int (nI j)), (0, .ref g), (1, .int (nI b)), (3, .int (nI i))]) hx hb dM_sum_62 rfl hl (by decide) rfl (fun ls hl => ?_)
                    refine lv_iinc (v := nI (j + 1)) (lv' := [(4, .int (nI (j + 1))), (2, .int (crcN (sumM mu fi md b i ^^^ nI (plN mu fi md b i)) (j + 1))), (0, .ref g), (1, .int (nI b)), (3, .int (nI i))]) hx hb dM_sum_63 hl (k := 1) rfl (ki_inc _) (by decide) rfl (fun ls hl => ?_)
                    refine lv_goto (tgt := 36) hx hb dM_sum_66 (by decide) ?_
                    have hP : va_P (dC, dI) vwCl (wM g m1 m2 m3 m4 m5 m6 m7 m8 m9 m10 m11 m12 m13 ci mt tl rc kp ms mi ml mb mf mo my (np / 56) (np % 56) md mu fi sp sq) H := hP
                    have hD : va_D A (wM g m1 m2 m3 m4 m5 m6 m7 m8 m9 m10 m11 m12 m13 ci mt tl rc kp ms mi ml mb mf mo my (np / 56) (np % 56) md mu fi sp sq) := hD
                    exact ih2 (j + 1) (by omega) (by omega) _ _ _ hP hD hS (lv_sub hl [0, 1, 2, 3, 4] rfl)
                  · refine lv_iload_n hx hb dM_sum_50 rfl (lv_at hl 1 rfl) ?_
                    refine lv_iconst (v := nI 1) hx hb dM_sum_51 (by decide) ?_
                    refine lv_iushr (v := ush (crcN (sumM mu fi md b i ^^^ nI (plN mu fi md b i)) j) 1) hx hb dM_sum_52 rfl ?_
                    refine lv_ldc (v := (-306674912)) hx hb hown lkc84 dM_sum_53 ?_
                    refine lv_ixor hx hb dM_sum_55 ?_
                    refine lv_goto (tgt := 62) hx hb dM_sum_56 (by decide) ?_
                    refine kv_top (show _ = crcN (sumM mu fi md b i ^^^ nI (plN mu fi md b i)) (j + 1) from (by show _ = crc1 _; rw [crc1, if_neg (c1_one.mp c_47)])) ?_
                    refine lv_istore_n (lv' := [(2, .int (crcN (sumM mu fi md b i ^^^ nI (plN mu fi md b i)) (j + 1))), (4, .int (nI j)), (0, .ref g), (1, .int (nI b)), (3, .int (nI i))]) hx hb dM_sum_62 rfl hl (by decide) rfl (fun ls hl => ?_)
                    refine lv_iinc (v := nI (j + 1)) (lv' := [(4, .int (nI (j + 1))), (2, .int (crcN (sumM mu fi md b i ^^^ nI (plN mu fi md b i)) (j + 1))), (0, .ref g), (1, .int (nI b)), (3, .int (nI i))]) hx hb dM_sum_63 hl (k := 1) rfl (ki_inc _) (by decide) rfl (fun ls hl => ?_)
                    refine lv_goto (tgt := 36) hx hb dM_sum_66 (by decide) ?_
                    have hP : va_P (dC, dI) vwCl (wM g m1 m2 m3 m4 m5 m6 m7 m8 m9 m10 m11 m12 m13 ci mt tl rc kp ms mi ml mb mf mo my (np / 56) (np % 56) md mu fi sp sq) H := hP
                    have hD : va_D A (wM g m1 m2 m3 m4 m5 m6 m7 m8 m9 m10 m11 m12 m13 ci mt tl rc kp ms mi ml mb mf mo my (np / 56) (np % 56) md mu fi sp sq) := hD
                    exact ih2 (j + 1) (by omega) (by omega) _ _ _ hP hD hS (lv_sub hl [0, 1, 2, 3, 4] rfl)
            have hP : va_P (dC, dI) vwCl (wM g m1 m2 m3 m4 m5 m6 m7 m8 m9 m10 m11 m12 m13 ci mt tl rc kp ms mi ml mb mf mo my (np / 56) (np % 56) md mu fi sp sq) H := hP
            have hD : va_D A (wM g m1 m2 m3 m4 m5 m6 m7 m8 m9 m10 m11 m12 m13 ci mt tl rc kp ms mi ml mb mf mo my (np / 56) (np % 56) md mu fi sp sq) := hD
            exact hloopj (8 + 1) 0 (by omega) (by omega) _ _ _ hP hD hS (lv_sub hl [0, 1, 3, 4, 2] rfl)
          · have c_18 := kmt (nI_leI (by omega) (by omega)).mpr c_18
            rw [show sumM mu fi md b i = sumM mu fi md b (i + 1) from (by rw [sumM, if_pos (by omega)])] at hl
            refine lv_goto (tgt := 69) hx hb dM_sum_21 (by decide) ?_
            refine lv_iinc (v := nI (i + 1)) (lv' := [(3, .int (nI (i + 1))), (2, .int (sumM mu fi md b (i + 1))), (0, .ref g), (1, .int (nI b))]) hx hb dM_sum_69 hl (k := 0) rfl (ki_inc _) (by decide) rfl (fun ls hl => ?_)
            refine lv_goto (tgt := 4) hx hb dM_sum_72 (by decide) ?_
            have hP : va_P (dC, dI) vwCl (wM g m1 m2 m3 m4 m5 m6 m7 m8 m9 m10 m11 m12 m13 ci mt tl rc kp ms mi ml mb mf mo my (np / 56) (np % 56) md mu fi sp sq) H := hP
            have hD : va_D A (wM g m1 m2 m3 m4 m5 m6 m7 m8 m9 m10 m11 m12 m13 ci mt tl rc kp ms mi ml mb mf mo my (np / 56) (np % 56) md mu fi sp sq) := hD
            exact ih (i + 1) (by omega) (by omega) _ _ _ hP hD hS (lv_sub hl [0, 1, 2, 3] rfl)
  have hP : va_P (dC, dI) vwCl (wM g m1 m2 m3 m4 m5 m6 m7 m8 m9 m10 m11 m12 m13 ci mt tl rc kp ms mi ml mb mf mo my (np / 56) (np % 56) md mu fi sp sq) H := hP
  have hD : va_D A (wM g m1 m2 m3 m4 m5 m6 m7 m8 m9 m10 m11 m12 m13 ci mt tl rc kp ms mi ml mb mf mo my (np / 56) (np % 56) md mu fi sp sq) := hD
  exact hloopi (64 + 1) 0 (by omega) (by omega) _ _ _ hP hD hS (lv_sub hl [0, 1, 2, 3] rfl)
set_option maxHeartbeats 4000000 in
set_option maxRecDepth 100000 in
theorem r_isWritten (l : Launch) (dC : Nat → ClassId) (dI : Nat → Nat → Nat) (g m1 m2 m3 m4 m5 m6 m7 m8 m9 m10 m11 m12 m13 : Nat) (ci : ClassId) (mt : Nat → Nat) (tl rc kp : Nat) (ms mi ml mb mf mo my : Nat → Nat) (np : Nat) (md mu fi : Nat → Nat) (sp : Nat → Int32) (sq : Nat → Nat) (sz : Nat) (x : Int32) (hnp : np ≤ 4480) : Met l yM_isWritten wsM_isWritten ({ frames := 0, cells := 0, slots := 0, locals := 0 }) (kPre (dC, dI) vwCl (wM g m1 m2 m3 m4 m5 m6 m7 m8 m9 m10 m11 m12 m13 ci mt tl rc kp ms mi ml mb mf mo my (np / 56) (np % 56) md mu fi sp sq) (tM ci) sz [.ref g, .int x]) (kQi (dC, dI) vwCl (wM g m1 m2 m3 m4 m5 m6 m7 m8 m9 m10 m11 m12 m13 ci mt tl rc kp ms mi ml mb mf mo my (np / 56) (np % 56) md mu fi sp sq) (tM ci) sz (bI (isW np x)) (wM g m1 m2 m3 m4 m5 m6 m7 m8 m9 m10 m11 m12 m13 ci mt tl rc kp ms mi ml mb mf mo my (np / 56) (np % 56) md mu fi sp sq)) 0 0 (va_A (wM g m1 m2 m3 m4 m5 m6 m7 m8 m9 m10 m11 m12 m13 ci mt tl rc kp ms mi ml mb mf mo my (np / 56) (np % 56) md mu fi sp sq) sz) := by
  refine kM_z (cc := cM_isWritten) (maxL := 2) (by decide) rfl (Nat.le_of_ble_eq_true rfl) (bI_n _) ?_
  intro p e s m below meth c A Q ls H locs S hP hK hD hS hA hl hret
  obtain ⟨hx, hb, hml, hown, hts⟩ := id S
  have hin1 : ∀ w ∈ u_ws RX1 TX1 19, w ∈ wsM_isWritten := fun _ h => List.mem_cons_of_mem _ (List.mem_append_right _ h)
  have lkf56 := hts (.fieldLink RX1 56 "BlockTapeModel" "written" "I") (by decide +kernel)
  have hl : lv_has ls 2 [(0, .ref g), (1, .int x)] := hl
  refine lv_iload_n hx hb dM_isWritten_0 rfl (lv_at hl 1 rfl) ?_
  refine lv_if_lt (tgt := 16) hx hb dM_isWritten_1 (by decide) (fun c_1 => ?_) (fun c_1 => ?_)
  · have c_1 := (kx_lt0).mp c_1
    refine lv_iconst (v := nI 0) hx hb dM_isWritten_16 (by decide) ?_
    refine kv_top (show _ = bI (isW np x) from (bI_f (by simp [isW]; omega))) ?_
    exact hret _ _ _ _ hP hD hS dM_isWritten_17
  · have c_1 := kmt (kx_lt0).mpr c_1
    refine lv_iload_n hx hb dM_isWritten_4 rfl (lv_at hl 1 rfl) ?_
    refine lv_aload_n hx hb dM_isWritten_5 rfl (lv_at hl 0 rfl) ?_
    refine va_get (D := (dC, dI)) (ci := 1) (v := .int (nI (np / 56))) (C := RX1) (T := TX1) (N := 19) hx hb hts hin1 hown hK hP 0 rfl rfl 12 (by decide) lkf56 (fun _ h9 => h9) rfl dM_isWritten_6 ?_
    refine lv_icmp_ge (tgt := 16) hx hb dM_isWritten_9 (by decide) (fun c_9 => ?_) (fun c_9 => ?_)
    · have c_9 := (kx_ge (by omega)).mp c_9
      refine lv_iconst (v := nI 0) hx hb dM_isWritten_16 (by decide) ?_
      refine kv_top (show _ = bI (isW np x) from (bI_f (by simp [isW]; omega))) ?_
      exact hret _ _ _ _ hP hD hS dM_isWritten_17
    · have c_9 := kmt (kx_ge (by omega)).mpr c_9
      refine lv_iconst (v := nI 1) hx hb dM_isWritten_12 (by decide) ?_
      refine lv_goto (tgt := 17) hx hb dM_isWritten_13 (by decide) ?_
      refine kv_top (show _ = bI (isW np x) from (bI_t (by simp [isW]; omega))) ?_
      exact hret _ _ _ _ hP hD hS dM_isWritten_17
set_option maxHeartbeats 4000000 in
set_option maxRecDepth 100000 in
theorem r_byteOf (l : Launch) (dC : Nat → ClassId) (dI : Nat → Nat → Nat) (g m1 m2 m3 m4 m5 m6 m7 m8 m9 m10 m11 m12 m13 : Nat) (ci : ClassId) (mt : Nat → Nat) (tl rc kp : Nat) (ms mi ml mb mf mo my : Nat → Nat) (np : Nat) (md mu fi : Nat → Nat) (sp : Nat → Int32) (sq : Nat → Nat) (sz : Nat) (x : Int32) (i : Int32) (hnp : np ≤ 4480) : Met l yM_byteOf wsM_byteOf ({ frames := 2, cells := 0, slots := 0, locals := 46 }) (kPre (dC, dI) vwCl (wM g m1 m2 m3 m4 m5 m6 m7 m8 m9 m10 m11 m12 m13 ci mt tl rc kp ms mi ml mb mf mo my (np / 56) (np % 56) md mu fi sp sq) (tM ci) sz [.ref g, .int x, .int i]) (kQi (dC, dI) vwCl (wM g m1 m2 m3 m4 m5 m6 m7 m8 m9 m10 m11 m12 m13 ci mt tl rc kp ms mi ml mb mf mo my (np / 56) (np % 56) md mu fi sp sq) (tM ci) sz (byM np mu fi md sp sq x i) (wM g m1 m2 m3 m4 m5 m6 m7 m8 m9 m10 m11 m12 m13 ci mt tl rc kp ms mi ml mb mf mo my (np / 56) (np % 56) md mu fi sp sq)) 0 0 (va_A (wM g m1 m2 m3 m4 m5 m6 m7 m8 m9 m10 m11 m12 m13 ci mt tl rc kp ms mi ml mb mf mo my (np / 56) (np % 56) md mu fi sp sq) sz) := by
  refine kM_i (cc := cM_byteOf) (maxL := 4) (by decide) rfl (Nat.le_of_ble_eq_true rfl) ?_
  intro p e s m below meth c A Q ls H locs S hP hK hD hS hA hl hret
  obtain ⟨hx, hb, hml, hown, hts⟩ := id S
  have hin1 : ∀ w ∈ u_ws RX1 TX1 19, w ∈ wsM_byteOf := fun _ h => List.mem_cons_of_mem _ (List.mem_append_right _ h)
  have lkf49 := hts (.fieldLink RX1 49 "BlockTapeModel" "thrown" "I") (by decide +kernel)
  have lkf43 := hts (.fieldLink RX1 43 "BlockTapeModel" "spoilt" "[I") (by decide +kernel)
  have lkf46 := hts (.fieldLink RX1 46 "BlockTapeModel" "spoiltBy" "[I") (by decide +kernel)
  have hl : lv_has ls 4 [(0, .ref g), (1, .int x), (2, .int i)] := hl
  refine lv_aload_n hx hb dM_byteOf_0 rfl (lv_at hl 0 rfl) ?_
  refine lv_iconst (v := nI 0) hx hb dM_byteOf_1 (by decide) ?_
  refine va_put (D := (dC, dI)) (ci := 1) (v := .int (nI 0)) (ty := .int) (C := RX1) (T := TX1) (N := 19) hx hb hts hin1 tyX1 tyX1_ok nmX1 hown hK hP hD hS 0 rfl rfl 0 (by decide) lkf49 (fun _ h9 => h9) rfl (by decide +kernel) rfl rfl (Nat.le_of_ble_eq_true rfl) dM_byteOf_2 (fun H locs hP hD hS => ?_)
  have hP : va_P (dC, dI) vwCl (wM g m1 m2 m3 m4 m5 m6 m7 m8 m9 m10 m11 m12 m13 ci mt tl rc kp ms mi ml mb mf mo my (np / 56) (np % 56) md mu fi sp sq) H := hP
  have hD : va_D A (wM g m1 m2 m3 m4 m5 m6 m7 m8 m9 m10 m11 m12 m13 ci mt tl rc kp ms mi ml mb mf mo my (np / 56) (np % 56) md mu fi sp sq) := hD
  refine lv_aload_n hx hb dM_byteOf_5 rfl (lv_at hl 0 rfl) ?_
  refine lv_iload_n hx hb dM_byteOf_6 rfl (lv_at hl 1 rfl) ?_
  refine kc_vi (WR := []) (As := [.int x]) (rest := []) ⟨hx, hb, hml, hown, hts⟩ (r_isWritten l dC dI g m1 m2 m3 m4 m5 m6 m7 m8 m9 m10 m11 m12 m13 ci mt tl rc kp ms mi ml mb mf mo my np md mu fi sp sq H.size x (by omega)) (cwV 1 hts gM_byteOf_M_isWritten rfl rfl rfl (by decide +kernel) ⟨Nat.le_of_ble_eq_true rfl, Nat.le_of_ble_eq_true rfl⟩) hK hP hD hS hA [0, 1, 2, 3, 4, 5, 6, 7, 8, 9, 10, 11, 12, 13] [] [0] rfl rfl (by decide) (by decide) (by decide) rfl 0 1 rfl rfl rfl rfl hl.1 rfl (Nat.le_of_ble_eq_true rfl) dM_byteOf_7 ⟨Nat.zero_le _, Nat.zero_le _⟩ (fun H locs hP hD hS => ?_)
  have hP : va_P (dC, dI) vwCl (wM g m1 m2 m3 m4 m5 m6 m7 m8 m9 m10 m11 m12 m13 ci mt tl rc kp ms mi ml mb mf mo my (np / 56) (np % 56) md mu fi sp sq) H := hP
  have hD : va_D A (wM g m1 m2 m3 m4 m5 m6 m7 m8 m9 m10 m11 m12 m13 ci mt tl rc kp ms mi ml mb mf mo my (np / 56) (np % 56) md mu fi sp sq) := hD
  refine lv_if_eq (tgt := 23) hx hb dM_byteOf_10 (by decide) (fun c_10 => ?_) (fun c_10 => ?_)
  · have c_10 := (bI_e _).mp c_10
    refine lv_iconst (v := (-1)) hx hb dM_byteOf_23 (by decide) ?_
    refine kv_top (show _ = byM np mu fi md sp sq x i from (byM_f (Or.inl c_10)).symm) ?_
    exact hret _ _ _ _ hP hD hS dM_byteOf_24
  · have c_10 := kmt (bI_e _).mpr c_10
    refine lv_iload_n hx hb dM_byteOf_13 rfl (lv_at hl 2 rfl) ?_
    refine lv_if_lt (tgt := 23) hx hb dM_byteOf_14 (by decide) (fun c_14 => ?_) (fun c_14 => ?_)
    · have c_14 := (kx_lt0).mp c_14
      refine lv_iconst (v := (-1)) hx hb dM_byteOf_23 (by decide) ?_
      refine kv_top (show _ = byM np mu fi md sp sq x i from (byM_f (Or.inr (by simp [inB]; omega))).symm) ?_
      exact hret _ _ _ _ hP hD hS dM_byteOf_24
    · have c_14 := kmt (kx_lt0).mpr c_14
      refine lv_iload_n hx hb dM_byteOf_17 rfl (lv_at hl 2 rfl) ?_
      refine lv_bipush (v := nI 63) hx hb dM_byteOf_18 (by decide) ?_
      refine lv_icmp_le (tgt := 25) hx hb dM_byteOf_20 (by decide) (fun c_20 => ?_) (fun c_20 => ?_)
      · have c_20 := (kx_le (by omega)).mp c_20
        have c_10 := bT c_10
        obtain ⟨j, hj, rfl⟩ := isW_of c_10
        obtain ⟨q, hq, rfl⟩ := kx_of (x := i) (by omega)
        rw [nI_toInt hq] at c_14 c_20
        rw [byM_t (by omega) (by omega) hnp] at hret
        refine lv_iload_n hx hb dM_byteOf_25 rfl (lv_at hl 2 rfl) ?_
        refine lv_iconst (v := nI 3) hx hb dM_byteOf_26 (by decide) ?_
        refine lv_icmp_le (tgt := 56) hx hb dM_byteOf_27 (by decide) (fun c_27 => ?_) (fun c_27 => ?_)
        · have c_27 := (nI_leI (by omega) (by omega)).mp c_27
          refine lv_aload_n hx hb dM_byteOf_56 rfl (lv_at hl 0 rfl) ?_
          refine lv_iload_n hx hb dM_byteOf_57 rfl (lv_at hl 1 rfl) ?_
          refine lv_iload_n hx hb dM_byteOf_58 rfl (lv_at hl 2 rfl) ?_
          refine kc_vi (WR := []) (As := [.int (nI j), .int (nI q)]) (rest := []) ⟨hx, hb, hml, hown, hts⟩ (r_plain l dC dI g m1 m2 m3 m4 m5 m6 m7 m8 m9 m10 m11 m12 m13 ci mt tl rc kp ms mi ml mb mf mo my np md mu fi sp sq H.size j q (by omega) (by omega)) (cwV 2 hts gM_byteOf_M_plain rfl rfl rfl (by decide +kernel) ⟨Nat.le_of_ble_eq_true rfl, Nat.le_of_ble_eq_true rfl⟩) hK hP hD hS hA [0, 1, 2, 3, 4, 5, 6, 7, 8, 9, 10, 11, 12, 13] [] [0] rfl rfl (by decide) (by decide) (by decide) rfl 0 1 rfl rfl rfl rfl hl.1 rfl (Nat.le_of_ble_eq_true rfl) dM_byteOf_59 ⟨Nat.zero_le _, Nat.zero_le _⟩ (fun H locs hP hD hS => ?_)
          have hP : va_P (dC, dI) vwCl (wM g m1 m2 m3 m4 m5 m6 m7 m8 m9 m10 m11 m12 m13 ci mt tl rc kp ms mi ml mb mf mo my (np / 56) (np % 56) md mu fi sp sq) H := hP
          have hD : va_D A (wM g m1 m2 m3 m4 m5 m6 m7 m8 m9 m10 m11 m12 m13 ci mt tl rc kp ms mi ml mb mf mo my (np / 56) (np % 56) md mu fi sp sq) := hD
          refine kv_top (show _ = nI (pmN mu fi md j q) from (by rw [pmN, if_neg (by omega)])) ?_
          refine lv_istore_n (lv' := [(3, .int (nI (pmN mu fi md j q))), (0, .ref g), (1, .int (nI j)), (2, .int (nI q))]) hx hb dM_byteOf_62 rfl hl (by decide) rfl (fun ls hl => ?_)
          refine lv_aload_n hx hb dM_byteOf_63 rfl (lv_at hl 1 rfl) ?_
          refine va_get (D := (dC, dI)) (ci := 1) (v := .ref m12) (C := RX1) (T := TX1) (N := 19) hx hb hts hin1 hown hK hP 0 rfl rfl 17 (by decide) lkf43 (fun _ h9 => h9) rfl dM_byteOf_64 ?_
          refine lv_iload_n hx hb dM_byteOf_67 rfl (lv_at hl 2 rfl) ?_
          refine ka_iald hx hb hK hP 12 0 rfl rfl (k := j) (by omega) (by decide) dM_byteOf_68 ?_
          refine lv_iload_n hx hb dM_byteOf_69 rfl (lv_at hl 3 rfl) ?_
          refine lv_icmp_ne (tgt := 88) hx hb dM_byteOf_70 (by decide) (fun c_70 => ?_) (fun c_70 => ?_)
          · have c_70 := kmt (kx_eq (by omega)).mpr c_70
            refine lv_iload_n hx hb dM_byteOf_88 rfl (lv_at hl 0 rfl) ?_
            refine kv_top (show _ = nI (byN mu fi md sp sq j q) from (by rw [byN, if_neg (fun h9 => c_70 ((kx_eq (by omega)).mp h9))])) ?_
            exact hret _ _ _ _ hP hD hS dM_byteOf_89
          · have c_70 := (kx_eq (by omega)).mp c_70
            refine lv_iload_n hx hb dM_byteOf_73 rfl (lv_at hl 0 rfl) ?_
            refine lv_aload_n hx hb dM_byteOf_74 rfl (lv_at hl 1 rfl) ?_
            refine va_get (D := (dC, dI)) (ci := 1) (v := .ref m13) (C := RX1) (T := TX1) (N := 19) hx hb hts hin1 hown hK hP 0 rfl rfl 18 (by decide) lkf46 (fun _ h9 => h9) rfl dM_byteOf_75 ?_
            refine lv_iload_n hx hb dM_byteOf_78 rfl (lv_at hl 2 rfl) ?_
            refine ka_ialdN hx hb hK hP 13 0 rfl rfl (k := j) (by omega) (by decide) dM_byteOf_79 ?_
            refine lv_iadd hx hb dM_byteOf_80 ?_
            refine kv_top (show _ = nI ((pmN mu fi md j q) + (sq j)) from nI_add _ _) ?_
            refine lv_sipush (v := nI 255) hx hb dM_byteOf_81 (by decide) ?_
            refine lv_iand hx hb dM_byteOf_84 ?_
            refine kv_top (show _ = nI (lb (nI (pmN mu fi md j q + sq j))) from and255 _) ?_
            refine lv_goto (tgt := 89) hx hb dM_byteOf_85 (by decide) ?_
            refine kv_top (show _ = nI (byN mu fi md sp sq j q) from (by rw [byN, if_pos ((kx_eq (by omega)).mpr c_70)])) ?_
            exact hret _ _ _ _ hP hD hS dM_byteOf_89
        · have c_27 := kmt (nI_leI (by omega) (by omega)).mpr c_27
          refine lv_iload_n hx hb dM_byteOf_30 rfl (lv_at hl 2 rfl) ?_
          refine lv_bipush (v := nI 8) hx hb dM_byteOf_31 (by decide) ?_
          refine lv_icmp_ge (tgt := 56) hx hb dM_byteOf_33 (by decide) (fun c_33 => ?_) (fun c_33 => ?_)
          · have c_33 := (nI_leI (by omega) (by omega)).mp c_33
            refine lv_aload_n hx hb dM_byteOf_56 rfl (lv_at hl 0 rfl) ?_
            refine lv_iload_n hx hb dM_byteOf_57 rfl (lv_at hl 1 rfl) ?_
            refine lv_iload_n hx hb dM_byteOf_58 rfl (lv_at hl 2 rfl) ?_
            refine kc_vi (WR := []) (As := [.int (nI j), .int (nI q)]) (rest := []) ⟨hx, hb, hml, hown, hts⟩ (r_plain l dC dI g m1 m2 m3 m4 m5 m6 m7 m8 m9 m10 m11 m12 m13 ci mt tl rc kp ms mi ml mb mf mo my np md mu fi sp sq H.size j q (by omega) (by omega)) (cwV 2 hts gM_byteOf_M_plain rfl rfl rfl (by decide +kernel) ⟨Nat.le_of_ble_eq_true rfl, Nat.le_of_ble_eq_true rfl⟩) hK hP hD hS hA [0, 1, 2, 3, 4, 5, 6, 7, 8, 9, 10, 11, 12, 13] [] [0] rfl rfl (by decide) (by decide) (by decide) rfl 0 1 rfl rfl rfl rfl hl.1 rfl (Nat.le_of_ble_eq_true rfl) dM_byteOf_59 ⟨Nat.zero_le _, Nat.zero_le _⟩ (fun H locs hP hD hS => ?_)
            have hP : va_P (dC, dI) vwCl (wM g m1 m2 m3 m4 m5 m6 m7 m8 m9 m10 m11 m12 m13 ci mt tl rc kp ms mi ml mb mf mo my (np / 56) (np % 56) md mu fi sp sq) H := hP
            have hD : va_D A (wM g m1 m2 m3 m4 m5 m6 m7 m8 m9 m10 m11 m12 m13 ci mt tl rc kp ms mi ml mb mf mo my (np / 56) (np % 56) md mu fi sp sq) := hD
            refine kv_top (show _ = nI (pmN mu fi md j q) from (by rw [pmN, if_neg (by omega)])) ?_
            refine lv_istore_n (lv' := [(3, .int (nI (pmN mu fi md j q))), (0, .ref g), (1, .int (nI j)), (2, .int (nI q))]) hx hb dM_byteOf_62 rfl hl (by decide) rfl (fun ls hl => ?_)
            refine lv_aload_n hx hb dM_byteOf_63 rfl (lv_at hl 1 rfl) ?_
            refine va_get (D := (dC, dI)) (ci := 1) (v := .ref m12) (C := RX1) (T := TX1) (N := 19) hx hb hts hin1 hown hK hP 0 rfl rfl 17 (by decide) lkf43 (fun _ h9 => h9) rfl dM_byteOf_64 ?_
            refine lv_iload_n hx hb dM_byteOf_67 rfl (lv_at hl 2 rfl) ?_
            refine ka_iald hx hb hK hP 12 0 rfl rfl (k := j) (by omega) (by decide) dM_byteOf_68 ?_
            refine lv_iload_n hx hb dM_byteOf_69 rfl (lv_at hl 3 rfl) ?_
            refine lv_icmp_ne (tgt := 88) hx hb dM_byteOf_70 (by decide) (fun c_70 => ?_) (fun c_70 => ?_)
            · have c_70 := kmt (kx_eq (by omega)).mpr c_70
              refine lv_iload_n hx hb dM_byteOf_88 rfl (lv_at hl 0 rfl) ?_
              refine kv_top (show _ = nI (byN mu fi md sp sq j q) from (by rw [byN, if_neg (fun h9 => c_70 ((kx_eq (by omega)).mp h9))])) ?_
              exact hret _ _ _ _ hP hD hS dM_byteOf_89
            · have c_70 := (kx_eq (by omega)).mp c_70
              refine lv_iload_n hx hb dM_byteOf_73 rfl (lv_at hl 0 rfl) ?_
              refine lv_aload_n hx hb dM_byteOf_74 rfl (lv_at hl 1 rfl) ?_
              refine va_get (D := (dC, dI)) (ci := 1) (v := .ref m13) (C := RX1) (T := TX1) (N := 19) hx hb hts hin1 hown hK hP 0 rfl rfl 18 (by decide) lkf46 (fun _ h9 => h9) rfl dM_byteOf_75 ?_
              refine lv_iload_n hx hb dM_byteOf_78 rfl (lv_at hl 2 rfl) ?_
              refine ka_ialdN hx hb hK hP 13 0 rfl rfl (k := j) (by omega) (by decide) dM_byteOf_79 ?_
              refine lv_iadd hx hb dM_byteOf_80 ?_
              refine kv_top (show _ = nI ((pmN mu fi md j q) + (sq j)) from nI_add _ _) ?_
              refine lv_sipush (v := nI 255) hx hb dM_byteOf_81 (by decide) ?_
              refine lv_iand hx hb dM_byteOf_84 ?_
              refine kv_top (show _ = nI (lb (nI (pmN mu fi md j q + sq j))) from and255 _) ?_
              refine lv_goto (tgt := 89) hx hb dM_byteOf_85 (by decide) ?_
              refine kv_top (show _ = nI (byN mu fi md sp sq j q) from (by rw [byN, if_pos ((kx_eq (by omega)).mpr c_70)])) ?_
              exact hret _ _ _ _ hP hD hS dM_byteOf_89
          · have c_33 := kmt (nI_leI (by omega) (by omega)).mpr c_33
            refine lv_aload_n hx hb dM_byteOf_36 rfl (lv_at hl 0 rfl) ?_
            refine lv_iload_n hx hb dM_byteOf_37 rfl (lv_at hl 1 rfl) ?_
            refine kc_vi (WR := []) (As := [.int (nI j)]) (rest := []) ⟨hx, hb, hml, hown, hts⟩ (r_sum l dC dI g m1 m2 m3 m4 m5 m6 m7 m8 m9 m10 m11 m12 m13 ci mt tl rc kp ms mi ml mb mf mo my np md mu fi sp sq H.size j (by omega)) (cwV 1 hts gM_byteOf_M_sum rfl rfl rfl (by decide +kernel) ⟨Nat.le_of_ble_eq_true rfl, Nat.le_of_ble_eq_true rfl⟩) hK hP hD hS hA [0, 1, 2, 3, 4, 5, 6, 7, 8, 9, 10, 11, 12, 13] [] [0] rfl rfl (by decide) (by decide) (by decide) rfl 0 1 rfl rfl rfl rfl hl.1 rfl (Nat.le_of_ble_eq_true rfl) dM_byteOf_38 ⟨Nat.zero_le _, Nat.zero_le _⟩ (fun H locs hP hD hS => ?_)
            have hP : va_P (dC, dI) vwCl (wM g m1 m2 m3 m4 m5 m6 m7 m8 m9 m10 m11 m12 m13 ci mt tl rc kp ms mi ml mb mf mo my (np / 56) (np % 56) md mu fi sp sq) H := hP
            have hD : va_D A (wM g m1 m2 m3 m4 m5 m6 m7 m8 m9 m10 m11 m12 m13 ci mt tl rc kp ms mi ml mb mf mo my (np / 56) (np % 56) md mu fi sp sq) := hD
            refine lv_bipush (v := nI 8) hx hb dM_byteOf_41 (by decide) ?_
            refine lv_bipush (v := nI 7) hx hb dM_byteOf_43 (by decide) ?_
            refine lv_iload_n hx hb dM_byteOf_45 rfl (lv_at hl 2 rfl) ?_
            refine lv_isub hx hb dM_byteOf_46 ?_
            refine kv_top (show _ = nI (7 - q) from pk_sub (by omega)) ?_
            refine lv_imul hx hb dM_byteOf_47 ?_
            refine kv_top (show _ = nI (8 * (7 - q)) from pk_mul _ _) ?_
            refine lv_ishr hx hb dM_byteOf_48 ?_
            refine lv_sipush (v := nI 255) hx hb dM_byteOf_49 (by decide) ?_
            refine lv_iand hx hb dM_byteOf_52 ?_
            refine kv_top (show _ = nI (pmN mu fi md j q) from (by rw [pmN, if_pos (by omega), ← and255])) ?_
            refine lv_goto (tgt := 62) hx hb dM_byteOf_53 (by decide) ?_
            refine lv_istore_n (lv' := [(3, .int (nI (pmN mu fi md j q))), (0, .ref g), (1, .int (nI j)), (2, .int (nI q))]) hx hb dM_byteOf_62 rfl hl (by decide) rfl (fun ls hl => ?_)
            refine lv_aload_n hx hb dM_byteOf_63 rfl (lv_at hl 1 rfl) ?_
            refine va_get (D := (dC, dI)) (ci := 1) (v := .ref m12) (C := RX1) (T := TX1) (N := 19) hx hb hts hin1 hown hK hP 0 rfl rfl 17 (by decide) lkf43 (fun _ h9 => h9) rfl dM_byteOf_64 ?_
            refine lv_iload_n hx hb dM_byteOf_67 rfl (lv_at hl 2 rfl) ?_
            refine ka_iald hx hb hK hP 12 0 rfl rfl (k := j) (by omega) (by decide) dM_byteOf_68 ?_
            refine lv_iload_n hx hb dM_byteOf_69 rfl (lv_at hl 3 rfl) ?_
            refine lv_icmp_ne (tgt := 88) hx hb dM_byteOf_70 (by decide) (fun c_70 => ?_) (fun c_70 => ?_)
            · have c_70 := kmt (kx_eq (by omega)).mpr c_70
              refine lv_iload_n hx hb dM_byteOf_88 rfl (lv_at hl 0 rfl) ?_
              refine kv_top (show _ = nI (byN mu fi md sp sq j q) from (by rw [byN, if_neg (fun h9 => c_70 ((kx_eq (by omega)).mp h9))])) ?_
              exact hret _ _ _ _ hP hD hS dM_byteOf_89
            · have c_70 := (kx_eq (by omega)).mp c_70
              refine lv_iload_n hx hb dM_byteOf_73 rfl (lv_at hl 0 rfl) ?_
              refine lv_aload_n hx hb dM_byteOf_74 rfl (lv_at hl 1 rfl) ?_
              refine va_get (D := (dC, dI)) (ci := 1) (v := .ref m13) (C := RX1) (T := TX1) (N := 19) hx hb hts hin1 hown hK hP 0 rfl rfl 18 (by decide) lkf46 (fun _ h9 => h9) rfl dM_byteOf_75 ?_
              refine lv_iload_n hx hb dM_byteOf_78 rfl (lv_at hl 2 rfl) ?_
              refine ka_ialdN hx hb hK hP 13 0 rfl rfl (k := j) (by omega) (by decide) dM_byteOf_79 ?_
              refine lv_iadd hx hb dM_byteOf_80 ?_
              refine kv_top (show _ = nI ((pmN mu fi md j q) + (sq j)) from nI_add _ _) ?_
              refine lv_sipush (v := nI 255) hx hb dM_byteOf_81 (by decide) ?_
              refine lv_iand hx hb dM_byteOf_84 ?_
              refine kv_top (show _ = nI (lb (nI (pmN mu fi md j q + sq j))) from and255 _) ?_
              refine lv_goto (tgt := 89) hx hb dM_byteOf_85 (by decide) ?_
              refine kv_top (show _ = nI (byN mu fi md sp sq j q) from (by rw [byN, if_pos ((kx_eq (by omega)).mpr c_70)])) ?_
              exact hret _ _ _ _ hP hD hS dM_byteOf_89
      · have c_20 := kmt (kx_le (by omega)).mpr c_20
        refine lv_iconst (v := (-1)) hx hb dM_byteOf_23 (by decide) ?_
        refine kv_top (show _ = byM np mu fi md sp sq x i from (byM_f (Or.inr (by simp [inB]; omega))).symm) ?_
        exact hret _ _ _ _ hP hD hS dM_byteOf_24
set_option maxHeartbeats 4000000 in
set_option maxRecDepth 100000 in
theorem r_spoil (l : Launch) (dC : Nat → ClassId) (dI : Nat → Nat → Nat) (g m1 m2 m3 m4 m5 m6 m7 m8 m9 m10 m11 m12 m13 : Nat) (ci : ClassId) (mt : Nat → Nat) (tl rc kp : Nat) (ms mi ml mb mf mo my : Nat → Nat) (np : Nat) (md mu fi : Nat → Nat) (sp : Nat → Int32) (sq : Nat → Nat) (sz : Nat) (b : Nat) (q : Nat) (v : Nat) (hnp : np ≤ 4480) (hb80 : b < np / 56) (hq : q < 64) (hv : 1 ≤ v ∧ v ≤ 255) (hs0 : (sp b).toInt < 0) : Met l yM_spoil wsM_spoil ({ frames := 1, cells := 0, slots := 0, locals := 21 }) (kPre (dC, dI) vwCl (wM g m1 m2 m3 m4 m5 m6 m7 m8 m9 m10 m11 m12 m13 ci mt tl rc kp ms mi ml mb mf mo my (np / 56) (np % 56) md mu fi sp sq) (tM ci) sz [.ref g, .int (nI b), .int (nI q), .int (nI v)]) (kQi (dC, dI) vwCl (wM g m1 m2 m3 m4 m5 m6 m7 m8 m9 m10 m11 m12 m13 ci mt tl rc kp ms mi ml mb mf mo my (np / 56) (np % 56) md mu fi sp sq) (tM ci) sz (nI 1) (wM g m1 m2 m3 m4 m5 m6 m7 m8 m9 m10 m11 m12 m13 ci mt tl rc kp ms mi ml mb mf mo my (np / 56) (np % 56) md mu fi (upd sp b (nI q)) (updN sq b v))) 0 0 (va_A (wM g m1 m2 m3 m4 m5 m6 m7 m8 m9 m10 m11 m12 m13 ci mt tl rc kp ms mi ml mb mf mo my (np / 56) (np % 56) md mu fi sp sq) sz) := by
  refine kM_z (cc := cM_spoil) (maxL := 4) (by decide) rfl (Nat.le_of_ble_eq_true rfl) (rfl) ?_
  intro p e s m below meth c A Q ls H locs S hP hK hD hS hA hl hret
  obtain ⟨hx, hb, hml, hown, hts⟩ := id S
  have hin1 : ∀ w ∈ u_ws RX1 TX1 19, w ∈ wsM_spoil := fun _ h => List.mem_cons_of_mem _ (List.mem_append_right _ h)
  have lkf49 := hts (.fieldLink RX1 49 "BlockTapeModel" "thrown" "I") (by decide +kernel)
  have lkf43 := hts (.fieldLink RX1 43 "BlockTapeModel" "spoilt" "[I") (by decide +kernel)
  have lkf46 := hts (.fieldLink RX1 46 "BlockTapeModel" "spoiltBy" "[I") (by decide +kernel)
  have hl : lv_has ls 4 [(0, .ref g), (1, .int (nI b)), (2, .int (nI q)), (3, .int (nI v))] := hl
  refine lv_aload_n hx hb dM_spoil_0 rfl (lv_at hl 0 rfl) ?_
  refine lv_iconst (v := nI 0) hx hb dM_spoil_1 (by decide) ?_
  refine va_put (D := (dC, dI)) (ci := 1) (v := .int (nI 0)) (ty := .int) (C := RX1) (T := TX1) (N := 19) hx hb hts hin1 tyX1 tyX1_ok nmX1 hown hK hP hD hS 0 rfl rfl 0 (by decide) lkf49 (fun _ h9 => h9) rfl (by decide +kernel) rfl rfl (Nat.le_of_ble_eq_true rfl) dM_spoil_2 (fun H locs hP hD hS => ?_)
  have hP : va_P (dC, dI) vwCl (wM g m1 m2 m3 m4 m5 m6 m7 m8 m9 m10 m11 m12 m13 ci mt tl rc kp ms mi ml mb mf mo my (np / 56) (np % 56) md mu fi sp sq) H := hP
  have hD : va_D A (wM g m1 m2 m3 m4 m5 m6 m7 m8 m9 m10 m11 m12 m13 ci mt tl rc kp ms mi ml mb mf mo my (np / 56) (np % 56) md mu fi sp sq) := hD
  refine lv_aload_n hx hb dM_spoil_5 rfl (lv_at hl 0 rfl) ?_
  refine lv_iload_n hx hb dM_spoil_6 rfl (lv_at hl 1 rfl) ?_
  refine kc_vi (WR := []) (As := [.int (nI b)]) (rest := []) ⟨hx, hb, hml, hown, hts⟩ (r_isWritten l dC dI g m1 m2 m3 m4 m5 m6 m7 m8 m9 m10 m11 m12 m13 ci mt tl rc kp ms mi ml mb mf mo my np md mu fi sp sq H.size (nI b) (by omega)) (cwV 1 hts gM_spoil_M_isWritten rfl rfl rfl (by decide +kernel) ⟨Nat.le_of_ble_eq_true rfl, Nat.le_of_ble_eq_true rfl⟩) hK hP hD hS hA [0, 1, 2, 3, 4, 5, 6, 7, 8, 9, 10, 11, 12, 13] [] [0] rfl rfl (by decide) (by decide) (by decide) rfl 0 1 rfl rfl rfl rfl hl.1 rfl (Nat.le_of_ble_eq_true rfl) dM_spoil_7 ⟨Nat.zero_le _, Nat.zero_le _⟩ (fun H locs hP hD hS => ?_)
  have hP : va_P (dC, dI) vwCl (wM g m1 m2 m3 m4 m5 m6 m7 m8 m9 m10 m11 m12 m13 ci mt tl rc kp ms mi ml mb mf mo my (np / 56) (np % 56) md mu fi sp sq) H := hP
  have hD : va_D A (wM g m1 m2 m3 m4 m5 m6 m7 m8 m9 m10 m11 m12 m13 ci mt tl rc kp ms mi ml mb mf mo my (np / 56) (np % 56) md mu fi sp sq) := hD
  refine lv_if_eq (tgt := 44) hx hb dM_spoil_10 (by decide) (fun c_10 => ?_) (fun c_10 => ?_)
  · have c_10 := (bI_e _).mp c_10
    exact absurd c_10 (by rw [isW_n (by omega)]; simp; omega)
  · have c_10 := kmt (bI_e _).mpr c_10
    refine lv_iload_n hx hb dM_spoil_13 rfl (lv_at hl 2 rfl) ?_
    refine lv_if_lt (tgt := 44) hx hb dM_spoil_14 (by decide) (fun c_14 => ?_) (fun c_14 => ?_)
    · have c_14 := (kn_lt0 (by omega)).mp c_14
      exfalso; omega
    · have c_14 := kmt (kn_lt0 (by omega)).mpr c_14
      refine lv_iload_n hx hb dM_spoil_17 rfl (lv_at hl 2 rfl) ?_
      refine lv_bipush (v := nI 63) hx hb dM_spoil_18 (by decide) ?_
      refine lv_icmp_gt (tgt := 44) hx hb dM_spoil_20 (by decide) (fun c_20 => ?_) (fun c_20 => ?_)
      · have c_20 := (nI_ltI (by omega) (by omega)).mp c_20
        exfalso; omega
      · have c_20 := kmt (nI_ltI (by omega) (by omega)).mpr c_20
        refine lv_iload_n hx hb dM_spoil_23 rfl (lv_at hl 3 rfl) ?_
        refine lv_iconst (v := nI 1) hx hb dM_spoil_24 (by decide) ?_
        refine lv_icmp_lt (tgt := 44) hx hb dM_spoil_25 (by decide) (fun c_25 => ?_) (fun c_25 => ?_)
        · have c_25 := (nI_ltI (by omega) (by omega)).mp c_25
          exfalso; omega
        · have c_25 := kmt (nI_ltI (by omega) (by omega)).mpr c_25
          refine lv_iload_n hx hb dM_spoil_28 rfl (lv_at hl 3 rfl) ?_
          refine lv_sipush (v := nI 255) hx hb dM_spoil_29 (by decide) ?_
          refine lv_icmp_gt (tgt := 44) hx hb dM_spoil_32 (by decide) (fun c_32 => ?_) (fun c_32 => ?_)
          · have c_32 := (nI_ltI (by omega) (by omega)).mp c_32
            exfalso; omega
          · have c_32 := kmt (nI_ltI (by omega) (by omega)).mpr c_32
            refine lv_aload_n hx hb dM_spoil_35 rfl (lv_at hl 0 rfl) ?_
            refine va_get (D := (dC, dI)) (ci := 1) (v := .ref m12) (C := RX1) (T := TX1) (N := 19) hx hb hts hin1 hown hK hP 0 rfl rfl 17 (by decide) lkf43 (fun _ h9 => h9) rfl dM_spoil_36 ?_
            refine lv_iload_n hx hb dM_spoil_39 rfl (lv_at hl 1 rfl) ?_
            refine ka_iald hx hb hK hP 12 0 rfl rfl (k := b) (by omega) (by decide) dM_spoil_40 ?_
            refine lv_if_lt (tgt := 46) hx hb dM_spoil_41 (by decide) (fun c_41 => ?_) (fun c_41 => ?_)
            · have c_41 := (kx_lt0).mp c_41
              refine lv_aload_n hx hb dM_spoil_46 rfl (lv_at hl 0 rfl) ?_
              refine va_get (D := (dC, dI)) (ci := 1) (v := .ref m12) (C := RX1) (T := TX1) (N := 19) hx hb hts hin1 hown hK hP 0 rfl rfl 17 (by decide) lkf43 (fun _ h9 => h9) rfl dM_spoil_47 ?_
              refine lv_iload_n hx hb dM_spoil_50 rfl (lv_at hl 1 rfl) ?_
              refine lv_iload_n hx hb dM_spoil_51 rfl (lv_at hl 2 rfl) ?_
              refine ka_iast hx hb hK hP hD hS 12 0 rfl rfl (k := b) (x := nI q) (by omega) (by decide) dM_spoil_52 (fun H locs hP hD hS => ?_)
              have hP : va_P (dC, dI) vwCl (wM g m1 m2 m3 m4 m5 m6 m7 m8 m9 m10 m11 m12 m13 ci mt tl rc kp ms mi ml mb mf mo my (np / 56) (np % 56) md mu fi (upd sp b (nI q)) sq) H := hP
              have hD : va_D A (wM g m1 m2 m3 m4 m5 m6 m7 m8 m9 m10 m11 m12 m13 ci mt tl rc kp ms mi ml mb mf mo my (np / 56) (np % 56) md mu fi (upd sp b (nI q)) sq) := hD
              refine lv_aload_n hx hb dM_spoil_53 rfl (lv_at hl 0 rfl) ?_
              refine va_get (D := (dC, dI)) (ci := 1) (v := .ref m13) (C := RX1) (T := TX1) (N := 19) hx hb hts hin1 hown hK hP 0 rfl rfl 18 (by decide) lkf46 (fun _ h9 => h9) rfl dM_spoil_54 ?_
              refine lv_iload_n hx hb dM_spoil_57 rfl (lv_at hl 1 rfl) ?_
              refine lv_iload_n hx hb dM_spoil_58 rfl (lv_at hl 3 rfl) ?_
              refine ka_iastN hx hb hK hP hD hS 13 0 rfl rfl (k := b) (x := v) (by omega) (by decide) dM_spoil_59 (fun H locs hP hD hS => ?_)
              have hP : va_P (dC, dI) vwCl (wM g m1 m2 m3 m4 m5 m6 m7 m8 m9 m10 m11 m12 m13 ci mt tl rc kp ms mi ml mb mf mo my (np / 56) (np % 56) md mu fi (upd sp b (nI q)) (updN sq b v)) H := hP
              have hD : va_D A (wM g m1 m2 m3 m4 m5 m6 m7 m8 m9 m10 m11 m12 m13 ci mt tl rc kp ms mi ml mb mf mo my (np / 56) (np % 56) md mu fi (upd sp b (nI q)) (updN sq b v)) := hD
              refine lv_iconst (v := nI 1) hx hb dM_spoil_60 (by decide) ?_
              exact hret _ _ _ _ hP hD hS dM_spoil_61
            · have c_41 := kmt (kx_lt0).mpr c_41
              exfalso; omega
set_option maxHeartbeats 4000000 in
set_option maxRecDepth 100000 in
theorem r_spoilN (l : Launch) (dC : Nat → ClassId) (dI : Nat → Nat → Nat) (g m1 m2 m3 m4 m5 m6 m7 m8 m9 m10 m11 m12 m13 : Nat) (ci : ClassId) (mt : Nat → Nat) (tl rc kp : Nat) (ms mi ml mb mf mo my : Nat → Nat) (np : Nat) (md mu fi : Nat → Nat) (sp : Nat → Int32) (sq : Nat → Nat) (sz : Nat) (x : Int32) (q : Int32) (v : Int32) (hnp : np ≤ 4480) (hno : isW np x = true → inB q = true → 1 ≤ v.toInt → v.toInt ≤ 255 → ¬ (sp x.toInt.toNat).toInt < 0) : Met l yM_spoil wsM_spoil ({ frames := 1, cells := 0, slots := 0, locals := 21 }) (kPre (dC, dI) vwCl (wM g m1 m2 m3 m4 m5 m6 m7 m8 m9 m10 m11 m12 m13 ci mt tl rc kp ms mi ml mb mf mo my (np / 56) (np % 56) md mu fi sp sq) (tM ci) sz [.ref g, .int x, .int q, .int v]) (kQi (dC, dI) vwCl (wM g m1 m2 m3 m4 m5 m6 m7 m8 m9 m10 m11 m12 m13 ci mt tl rc kp ms mi ml mb mf mo my (np / 56) (np % 56) md mu fi sp sq) (tM ci) sz (nI 0) (wM g m1 m2 m3 m4 m5 m6 m7 m8 m9 m10 m11 m12 m13 ci mt tl rc kp ms mi ml mb mf mo my (np / 56) (np % 56) md mu fi sp sq)) 0 0 (va_A (wM g m1 m2 m3 m4 m5 m6 m7 m8 m9 m10 m11 m12 m13 ci mt tl rc kp ms mi ml mb mf mo my (np / 56) (np % 56) md mu fi sp sq) sz) := by
  refine kM_z (cc := cM_spoil) (maxL := 4) (by decide) rfl (Nat.le_of_ble_eq_true rfl) (rfl) ?_
  intro p e s m below meth c A Q ls H locs S hP hK hD hS hA hl hret
  obtain ⟨hx, hb, hml, hown, hts⟩ := id S
  have hin1 : ∀ w ∈ u_ws RX1 TX1 19, w ∈ wsM_spoil := fun _ h => List.mem_cons_of_mem _ (List.mem_append_right _ h)
  have lkf49 := hts (.fieldLink RX1 49 "BlockTapeModel" "thrown" "I") (by decide +kernel)
  have lkf43 := hts (.fieldLink RX1 43 "BlockTapeModel" "spoilt" "[I") (by decide +kernel)
  have hl : lv_has ls 4 [(0, .ref g), (1, .int x), (2, .int q), (3, .int v)] := hl
  refine lv_aload_n hx hb dM_spoil_0 rfl (lv_at hl 0 rfl) ?_
  refine lv_iconst (v := nI 0) hx hb dM_spoil_1 (by decide) ?_
  refine va_put (D := (dC, dI)) (ci := 1) (v := .int (nI 0)) (ty := .int) (C := RX1) (T := TX1) (N := 19) hx hb hts hin1 tyX1 tyX1_ok nmX1 hown hK hP hD hS 0 rfl rfl 0 (by decide) lkf49 (fun _ h9 => h9) rfl (by decide +kernel) rfl rfl (Nat.le_of_ble_eq_true rfl) dM_spoil_2 (fun H locs hP hD hS => ?_)
  have hP : va_P (dC, dI) vwCl (wM g m1 m2 m3 m4 m5 m6 m7 m8 m9 m10 m11 m12 m13 ci mt tl rc kp ms mi ml mb mf mo my (np / 56) (np % 56) md mu fi sp sq) H := hP
  have hD : va_D A (wM g m1 m2 m3 m4 m5 m6 m7 m8 m9 m10 m11 m12 m13 ci mt tl rc kp ms mi ml mb mf mo my (np / 56) (np % 56) md mu fi sp sq) := hD
  refine lv_aload_n hx hb dM_spoil_5 rfl (lv_at hl 0 rfl) ?_
  refine lv_iload_n hx hb dM_spoil_6 rfl (lv_at hl 1 rfl) ?_
  refine kc_vi (WR := []) (As := [.int x]) (rest := []) ⟨hx, hb, hml, hown, hts⟩ (r_isWritten l dC dI g m1 m2 m3 m4 m5 m6 m7 m8 m9 m10 m11 m12 m13 ci mt tl rc kp ms mi ml mb mf mo my np md mu fi sp sq H.size x (by omega)) (cwV 1 hts gM_spoil_M_isWritten rfl rfl rfl (by decide +kernel) ⟨Nat.le_of_ble_eq_true rfl, Nat.le_of_ble_eq_true rfl⟩) hK hP hD hS hA [0, 1, 2, 3, 4, 5, 6, 7, 8, 9, 10, 11, 12, 13] [] [0] rfl rfl (by decide) (by decide) (by decide) rfl 0 1 rfl rfl rfl rfl hl.1 rfl (Nat.le_of_ble_eq_true rfl) dM_spoil_7 ⟨Nat.zero_le _, Nat.zero_le _⟩ (fun H locs hP hD hS => ?_)
  have hP : va_P (dC, dI) vwCl (wM g m1 m2 m3 m4 m5 m6 m7 m8 m9 m10 m11 m12 m13 ci mt tl rc kp ms mi ml mb mf mo my (np / 56) (np % 56) md mu fi sp sq) H := hP
  have hD : va_D A (wM g m1 m2 m3 m4 m5 m6 m7 m8 m9 m10 m11 m12 m13 ci mt tl rc kp ms mi ml mb mf mo my (np / 56) (np % 56) md mu fi sp sq) := hD
  refine lv_if_eq (tgt := 44) hx hb dM_spoil_10 (by decide) (fun c_10 => ?_) (fun c_10 => ?_)
  · have c_10 := (bI_e _).mp c_10
    refine lv_iconst (v := nI 0) hx hb dM_spoil_44 (by decide) ?_
    exact hret _ _ _ _ hP hD hS dM_spoil_45
  · have c_10 := kmt (bI_e _).mpr c_10
    have c_10 := bT c_10
    obtain ⟨j, hj, rfl⟩ := isW_of c_10
    refine lv_iload_n hx hb dM_spoil_13 rfl (lv_at hl 2 rfl) ?_
    refine lv_if_lt (tgt := 44) hx hb dM_spoil_14 (by decide) (fun c_14 => ?_) (fun c_14 => ?_)
    · have c_14 := (kx_lt0).mp c_14
      refine lv_iconst (v := nI 0) hx hb dM_spoil_44 (by decide) ?_
      exact hret _ _ _ _ hP hD hS dM_spoil_45
    · have c_14 := kmt (kx_lt0).mpr c_14
      refine lv_iload_n hx hb dM_spoil_17 rfl (lv_at hl 2 rfl) ?_
      refine lv_bipush (v := nI 63) hx hb dM_spoil_18 (by decide) ?_
      refine lv_icmp_gt (tgt := 44) hx hb dM_spoil_20 (by decide) (fun c_20 => ?_) (fun c_20 => ?_)
      · have c_20 := (kx_gt (by omega)).mp c_20
        refine lv_iconst (v := nI 0) hx hb dM_spoil_44 (by decide) ?_
        exact hret _ _ _ _ hP hD hS dM_spoil_45
      · have c_20 := kmt (kx_gt (by omega)).mpr c_20
        refine lv_iload_n hx hb dM_spoil_23 rfl (lv_at hl 3 rfl) ?_
        refine lv_iconst (v := nI 1) hx hb dM_spoil_24 (by decide) ?_
        refine lv_icmp_lt (tgt := 44) hx hb dM_spoil_25 (by decide) (fun c_25 => ?_) (fun c_25 => ?_)
        · have c_25 := (kx_lt (by omega)).mp c_25
          refine lv_iconst (v := nI 0) hx hb dM_spoil_44 (by decide) ?_
          exact hret _ _ _ _ hP hD hS dM_spoil_45
        · have c_25 := kmt (kx_lt (by omega)).mpr c_25
          refine lv_iload_n hx hb dM_spoil_28 rfl (lv_at hl 3 rfl) ?_
          refine lv_sipush (v := nI 255) hx hb dM_spoil_29 (by decide) ?_
          refine lv_icmp_gt (tgt := 44) hx hb dM_spoil_32 (by decide) (fun c_32 => ?_) (fun c_32 => ?_)
          · have c_32 := (kx_gt (by omega)).mp c_32
            refine lv_iconst (v := nI 0) hx hb dM_spoil_44 (by decide) ?_
            exact hret _ _ _ _ hP hD hS dM_spoil_45
          · have c_32 := kmt (kx_gt (by omega)).mpr c_32
            refine lv_aload_n hx hb dM_spoil_35 rfl (lv_at hl 0 rfl) ?_
            refine va_get (D := (dC, dI)) (ci := 1) (v := .ref m12) (C := RX1) (T := TX1) (N := 19) hx hb hts hin1 hown hK hP 0 rfl rfl 17 (by decide) lkf43 (fun _ h9 => h9) rfl dM_spoil_36 ?_
            refine lv_iload_n hx hb dM_spoil_39 rfl (lv_at hl 1 rfl) ?_
            refine ka_iald hx hb hK hP 12 0 rfl rfl (k := j) (by omega) (by decide) dM_spoil_40 ?_
            refine lv_if_lt (tgt := 46) hx hb dM_spoil_41 (by decide) (fun c_41 => ?_) (fun c_41 => ?_)
            · have c_41 := (kx_lt0).mp c_41
              exact absurd (by rw [nI_tn (by omega)]; exact c_41) (hno c_10 (by simp [inB]; omega) (by omega) (by omega))
            · have c_41 := kmt (kx_lt0).mpr c_41
              refine lv_iconst (v := nI 0) hx hb dM_spoil_44 (by decide) ?_
              exact hret _ _ _ _ hP hD hS dM_spoil_45
set_option maxHeartbeats 4000000 in
set_option maxRecDepth 100000 in
theorem r_heal (l : Launch) (dC : Nat → ClassId) (dI : Nat → Nat → Nat) (g m1 m2 m3 m4 m5 m6 m7 m8 m9 m10 m11 m12 m13 : Nat) (ci : ClassId) (mt : Nat → Nat) (tl rc kp : Nat) (ms mi ml mb mf mo my : Nat → Nat) (np : Nat) (md mu fi : Nat → Nat) (sp : Nat → Int32) (sq : Nat → Nat) (sz : Nat) (b : Nat) (hnp : np ≤ 4480) (hb80 : b < np / 56) (hs0 : ¬ (sp b).toInt < 0) : Met l yM_heal wsM_heal ({ frames := 1, cells := 0, slots := 0, locals := 21 }) (kPre (dC, dI) vwCl (wM g m1 m2 m3 m4 m5 m6 m7 m8 m9 m10 m11 m12 m13 ci mt tl rc kp ms mi ml mb mf mo my (np / 56) (np % 56) md mu fi sp sq) (tM ci) sz [.ref g, .int (nI b)]) (kQi (dC, dI) vwCl (wM g m1 m2 m3 m4 m5 m6 m7 m8 m9 m10 m11 m12 m13 ci mt tl rc kp ms mi ml mb mf mo my (np / 56) (np % 56) md mu fi sp sq) (tM ci) sz (nI 1) (wM g m1 m2 m3 m4 m5 m6 m7 m8 m9 m10 m11 m12 m13 ci mt tl rc kp ms mi ml mb mf mo my (np / 56) (np % 56) md mu fi (upd sp b (-1)) sq)) 0 0 (va_A (wM g m1 m2 m3 m4 m5 m6 m7 m8 m9 m10 m11 m12 m13 ci mt tl rc kp ms mi ml mb mf mo my (np / 56) (np % 56) md mu fi sp sq) sz) := by
  refine kM_z (cc := cM_heal) (maxL := 2) (by decide) rfl (Nat.le_of_ble_eq_true rfl) (rfl) ?_
  intro p e s m below meth c A Q ls H locs S hP hK hD hS hA hl hret
  obtain ⟨hx, hb, hml, hown, hts⟩ := id S
  have hin1 : ∀ w ∈ u_ws RX1 TX1 19, w ∈ wsM_heal := fun _ h => List.mem_cons_of_mem _ (List.mem_append_right _ h)
  have lkf49 := hts (.fieldLink RX1 49 "BlockTapeModel" "thrown" "I") (by decide +kernel)
  have lkf43 := hts (.fieldLink RX1 43 "BlockTapeModel" "spoilt" "[I") (by decide +kernel)
  have hl : lv_has ls 2 [(0, .ref g), (1, .int (nI b))] := hl
  refine lv_aload_n hx hb dM_heal_0 rfl (lv_at hl 0 rfl) ?_
  refine lv_iconst (v := nI 0) hx hb dM_heal_1 (by decide) ?_
  refine va_put (D := (dC, dI)) (ci := 1) (v := .int (nI 0)) (ty := .int) (C := RX1) (T := TX1) (N := 19) hx hb hts hin1 tyX1 tyX1_ok nmX1 hown hK hP hD hS 0 rfl rfl 0 (by decide) lkf49 (fun _ h9 => h9) rfl (by decide +kernel) rfl rfl (Nat.le_of_ble_eq_true rfl) dM_heal_2 (fun H locs hP hD hS => ?_)
  have hP : va_P (dC, dI) vwCl (wM g m1 m2 m3 m4 m5 m6 m7 m8 m9 m10 m11 m12 m13 ci mt tl rc kp ms mi ml mb mf mo my (np / 56) (np % 56) md mu fi sp sq) H := hP
  have hD : va_D A (wM g m1 m2 m3 m4 m5 m6 m7 m8 m9 m10 m11 m12 m13 ci mt tl rc kp ms mi ml mb mf mo my (np / 56) (np % 56) md mu fi sp sq) := hD
  refine lv_aload_n hx hb dM_heal_5 rfl (lv_at hl 0 rfl) ?_
  refine lv_iload_n hx hb dM_heal_6 rfl (lv_at hl 1 rfl) ?_
  refine kc_vi (WR := []) (As := [.int (nI b)]) (rest := []) ⟨hx, hb, hml, hown, hts⟩ (r_isWritten l dC dI g m1 m2 m3 m4 m5 m6 m7 m8 m9 m10 m11 m12 m13 ci mt tl rc kp ms mi ml mb mf mo my np md mu fi sp sq H.size (nI b) (by omega)) (cwV 1 hts gM_heal_M_isWritten rfl rfl rfl (by decide +kernel) ⟨Nat.le_of_ble_eq_true rfl, Nat.le_of_ble_eq_true rfl⟩) hK hP hD hS hA [0, 1, 2, 3, 4, 5, 6, 7, 8, 9, 10, 11, 12, 13] [] [0] rfl rfl (by decide) (by decide) (by decide) rfl 0 1 rfl rfl rfl rfl hl.1 rfl (Nat.le_of_ble_eq_true rfl) dM_heal_7 ⟨Nat.zero_le _, Nat.zero_le _⟩ (fun H locs hP hD hS => ?_)
  have hP : va_P (dC, dI) vwCl (wM g m1 m2 m3 m4 m5 m6 m7 m8 m9 m10 m11 m12 m13 ci mt tl rc kp ms mi ml mb mf mo my (np / 56) (np % 56) md mu fi sp sq) H := hP
  have hD : va_D A (wM g m1 m2 m3 m4 m5 m6 m7 m8 m9 m10 m11 m12 m13 ci mt tl rc kp ms mi ml mb mf mo my (np / 56) (np % 56) md mu fi sp sq) := hD
  refine lv_if_eq (tgt := 22) hx hb dM_heal_10 (by decide) (fun c_10 => ?_) (fun c_10 => ?_)
  · have c_10 := (bI_e _).mp c_10
    exact absurd c_10 (by rw [isW_n (by omega)]; simp; omega)
  · have c_10 := kmt (bI_e _).mpr c_10
    refine lv_aload_n hx hb dM_heal_13 rfl (lv_at hl 0 rfl) ?_
    refine va_get (D := (dC, dI)) (ci := 1) (v := .ref m12) (C := RX1) (T := TX1) (N := 19) hx hb hts hin1 hown hK hP 0 rfl rfl 17 (by decide) lkf43 (fun _ h9 => h9) rfl dM_heal_14 ?_
    refine lv_iload_n hx hb dM_heal_17 rfl (lv_at hl 1 rfl) ?_
    refine ka_iald hx hb hK hP 12 0 rfl rfl (k := b) (by omega) (by decide) dM_heal_18 ?_
    refine lv_if_ge (tgt := 24) hx hb dM_heal_19 (by decide) (fun c_19 => ?_) (fun c_19 => ?_)
    · have c_19 := (kx_ge0).mp c_19
      refine lv_aload_n hx hb dM_heal_24 rfl (lv_at hl 0 rfl) ?_
      refine va_get (D := (dC, dI)) (ci := 1) (v := .ref m12) (C := RX1) (T := TX1) (N := 19) hx hb hts hin1 hown hK hP 0 rfl rfl 17 (by decide) lkf43 (fun _ h9 => h9) rfl dM_heal_25 ?_
      refine lv_iload_n hx hb dM_heal_28 rfl (lv_at hl 1 rfl) ?_
      refine lv_iconst (v := (-1)) hx hb dM_heal_29 (by decide) ?_
      refine ka_iast hx hb hK hP hD hS 12 0 rfl rfl (k := b) (x := (-1)) (by omega) (by decide) dM_heal_30 (fun H locs hP hD hS => ?_)
      have hP : va_P (dC, dI) vwCl (wM g m1 m2 m3 m4 m5 m6 m7 m8 m9 m10 m11 m12 m13 ci mt tl rc kp ms mi ml mb mf mo my (np / 56) (np % 56) md mu fi (upd sp b ((-1))) sq) H := hP
      have hD : va_D A (wM g m1 m2 m3 m4 m5 m6 m7 m8 m9 m10 m11 m12 m13 ci mt tl rc kp ms mi ml mb mf mo my (np / 56) (np % 56) md mu fi (upd sp b ((-1))) sq) := hD
      refine lv_iconst (v := nI 1) hx hb dM_heal_31 (by decide) ?_
      have hP : va_P (dC, dI) vwCl (wM g m1 m2 m3 m4 m5 m6 m7 m8 m9 m10 m11 m12 m13 ci mt tl rc kp ms mi ml mb mf mo my (np / 56) (np % 56) md mu fi (upd sp b (-1)) sq) H := hP
      have hD : va_D A (wM g m1 m2 m3 m4 m5 m6 m7 m8 m9 m10 m11 m12 m13 ci mt tl rc kp ms mi ml mb mf mo my (np / 56) (np % 56) md mu fi (upd sp b (-1)) sq) := hD
      exact hret _ _ _ _ hP hD hS dM_heal_32
    · have c_19 := kmt (kx_ge0).mpr c_19
      exfalso; omega
set_option maxHeartbeats 4000000 in
set_option maxRecDepth 100000 in
theorem r_healN (l : Launch) (dC : Nat → ClassId) (dI : Nat → Nat → Nat) (g m1 m2 m3 m4 m5 m6 m7 m8 m9 m10 m11 m12 m13 : Nat) (ci : ClassId) (mt : Nat → Nat) (tl rc kp : Nat) (ms mi ml mb mf mo my : Nat → Nat) (np : Nat) (md mu fi : Nat → Nat) (sp : Nat → Int32) (sq : Nat → Nat) (sz : Nat) (x : Int32) (hnp : np ≤ 4480) (hno : isW np x = true → (sp x.toInt.toNat).toInt < 0) : Met l yM_heal wsM_heal ({ frames := 1, cells := 0, slots := 0, locals := 21 }) (kPre (dC, dI) vwCl (wM g m1 m2 m3 m4 m5 m6 m7 m8 m9 m10 m11 m12 m13 ci mt tl rc kp ms mi ml mb mf mo my (np / 56) (np % 56) md mu fi sp sq) (tM ci) sz [.ref g, .int x]) (kQi (dC, dI) vwCl (wM g m1 m2 m3 m4 m5 m6 m7 m8 m9 m10 m11 m12 m13 ci mt tl rc kp ms mi ml mb mf mo my (np / 56) (np % 56) md mu fi sp sq) (tM ci) sz (nI 0) (wM g m1 m2 m3 m4 m5 m6 m7 m8 m9 m10 m11 m12 m13 ci mt tl rc kp ms mi ml mb mf mo my (np / 56) (np % 56) md mu fi sp sq)) 0 0 (va_A (wM g m1 m2 m3 m4 m5 m6 m7 m8 m9 m10 m11 m12 m13 ci mt tl rc kp ms mi ml mb mf mo my (np / 56) (np % 56) md mu fi sp sq) sz) := by
  refine kM_z (cc := cM_heal) (maxL := 2) (by decide) rfl (Nat.le_of_ble_eq_true rfl) (rfl) ?_
  intro p e s m below meth c A Q ls H locs S hP hK hD hS hA hl hret
  obtain ⟨hx, hb, hml, hown, hts⟩ := id S
  have hin1 : ∀ w ∈ u_ws RX1 TX1 19, w ∈ wsM_heal := fun _ h => List.mem_cons_of_mem _ (List.mem_append_right _ h)
  have lkf49 := hts (.fieldLink RX1 49 "BlockTapeModel" "thrown" "I") (by decide +kernel)
  have lkf43 := hts (.fieldLink RX1 43 "BlockTapeModel" "spoilt" "[I") (by decide +kernel)
  have hl : lv_has ls 2 [(0, .ref g), (1, .int x)] := hl
  refine lv_aload_n hx hb dM_heal_0 rfl (lv_at hl 0 rfl) ?_
  refine lv_iconst (v := nI 0) hx hb dM_heal_1 (by decide) ?_
  refine va_put (D := (dC, dI)) (ci := 1) (v := .int (nI 0)) (ty := .int) (C := RX1) (T := TX1) (N := 19) hx hb hts hin1 tyX1 tyX1_ok nmX1 hown hK hP hD hS 0 rfl rfl 0 (by decide) lkf49 (fun _ h9 => h9) rfl (by decide +kernel) rfl rfl (Nat.le_of_ble_eq_true rfl) dM_heal_2 (fun H locs hP hD hS => ?_)
  have hP : va_P (dC, dI) vwCl (wM g m1 m2 m3 m4 m5 m6 m7 m8 m9 m10 m11 m12 m13 ci mt tl rc kp ms mi ml mb mf mo my (np / 56) (np % 56) md mu fi sp sq) H := hP
  have hD : va_D A (wM g m1 m2 m3 m4 m5 m6 m7 m8 m9 m10 m11 m12 m13 ci mt tl rc kp ms mi ml mb mf mo my (np / 56) (np % 56) md mu fi sp sq) := hD
  refine lv_aload_n hx hb dM_heal_5 rfl (lv_at hl 0 rfl) ?_
  refine lv_iload_n hx hb dM_heal_6 rfl (lv_at hl 1 rfl) ?_
  refine kc_vi (WR := []) (As := [.int x]) (rest := []) ⟨hx, hb, hml, hown, hts⟩ (r_isWritten l dC dI g m1 m2 m3 m4 m5 m6 m7 m8 m9 m10 m11 m12 m13 ci mt tl rc kp ms mi ml mb mf mo my np md mu fi sp sq H.size x (by omega)) (cwV 1 hts gM_heal_M_isWritten rfl rfl rfl (by decide +kernel) ⟨Nat.le_of_ble_eq_true rfl, Nat.le_of_ble_eq_true rfl⟩) hK hP hD hS hA [0, 1, 2, 3, 4, 5, 6, 7, 8, 9, 10, 11, 12, 13] [] [0] rfl rfl (by decide) (by decide) (by decide) rfl 0 1 rfl rfl rfl rfl hl.1 rfl (Nat.le_of_ble_eq_true rfl) dM_heal_7 ⟨Nat.zero_le _, Nat.zero_le _⟩ (fun H locs hP hD hS => ?_)
  have hP : va_P (dC, dI) vwCl (wM g m1 m2 m3 m4 m5 m6 m7 m8 m9 m10 m11 m12 m13 ci mt tl rc kp ms mi ml mb mf mo my (np / 56) (np % 56) md mu fi sp sq) H := hP
  have hD : va_D A (wM g m1 m2 m3 m4 m5 m6 m7 m8 m9 m10 m11 m12 m13 ci mt tl rc kp ms mi ml mb mf mo my (np / 56) (np % 56) md mu fi sp sq) := hD
  refine lv_if_eq (tgt := 22) hx hb dM_heal_10 (by decide) (fun c_10 => ?_) (fun c_10 => ?_)
  · have c_10 := (bI_e _).mp c_10
    refine lv_iconst (v := nI 0) hx hb dM_heal_22 (by decide) ?_
    exact hret _ _ _ _ hP hD hS dM_heal_23
  · have c_10 := kmt (bI_e _).mpr c_10
    have c_10 := bT c_10
    obtain ⟨j, hj, rfl⟩ := isW_of c_10
    have hno := hno c_10
    rw [nI_tn (by omega)] at hno
    refine lv_aload_n hx hb dM_heal_13 rfl (lv_at hl 0 rfl) ?_
    refine va_get (D := (dC, dI)) (ci := 1) (v := .ref m12) (C := RX1) (T := TX1) (N := 19) hx hb hts hin1 hown hK hP 0 rfl rfl 17 (by decide) lkf43 (fun _ h9 => h9) rfl dM_heal_14 ?_
    refine lv_iload_n hx hb dM_heal_17 rfl (lv_at hl 1 rfl) ?_
    refine ka_iald hx hb hK hP 12 0 rfl rfl (k := j) (by omega) (by decide) dM_heal_18 ?_
    refine lv_if_ge (tgt := 24) hx hb dM_heal_19 (by decide) (fun c_19 => ?_) (fun c_19 => ?_)
    · have c_19 := (kx_ge0).mp c_19
      exfalso; omega
    · have c_19 := kmt (kx_ge0).mpr c_19
      refine lv_iconst (v := nI 0) hx hb dM_heal_22 (by decide) ?_
      exact hret _ _ _ _ hP hD hS dM_heal_23
end
section
set_option maxHeartbeats 4000000 in
set_option maxRecDepth 100000 in
theorem r_isGood (l : Launch) (dC : Nat → ClassId) (dI : Nat → Nat → Nat) (g m1 m2 m3 m4 m5 m6 m7 m8 m9 m10 m11 m12 m13 : Nat) (ci : ClassId) (mt : Nat → Nat) (tl rc kp : Nat) (ms mi ml mb mf mo my : Nat → Nat) (np : Nat) (md mu fi : Nat → Nat) (sp : Nat → Int32) (sq : Nat → Nat) (sb : Nat → Nat) (sz : Nat) (x : Int32) (hnp : np ≤ 4480) (hsp : ∀ b, b < np / 56 → ((sp b).toInt < 0 ↔ sb b = 0)) : Met l yM_isGood wsM_isGood ({ frames := 1, cells := 0, slots := 0, locals := 21 }) (kPre (dC, dI) vwCl (wM g m1 m2 m3 m4 m5 m6 m7 m8 m9 m10 m11 m12 m13 ci mt tl rc kp ms mi ml mb mf mo my (np / 56) (np % 56) md mu fi sp sq) (tM ci) sz [.ref g, .int x]) (kQi (dC, dI) vwCl (wM g m1 m2 m3 m4 m5 m6 m7 m8 m9 m10 m11 m12 m13 ci mt tl rc kp ms mi ml mb mf mo my (np / 56) (np % 56) md mu fi sp sq) (tM ci) sz (bI (goodX np sb x)) (wM g m1 m2 m3 m4 m5 m6 m7 m8 m9 m10 m11 m12 m13 ci mt tl rc kp ms mi ml mb mf mo my (np / 56) (np % 56) md mu fi sp sq)) 0 0 (va_A (wM g m1 m2 m3 m4 m5 m6 m7 m8 m9 m10 m11 m12 m13 ci mt tl rc kp ms mi ml mb mf mo my (np / 56) (np % 56) md mu fi sp sq) sz) := by
  refine kM_z (cc := cM_isGood) (maxL := 2) (by decide) rfl (Nat.le_of_ble_eq_true rfl) (bI_n _) ?_
  intro p e s m below meth c A Q ls H locs S hP hK hD hS hA hl hret
  obtain ⟨hx, hb, hml, hown, hts⟩ := id S
  have hin1 : ∀ w ∈ u_ws RX1 TX1 19, w ∈ wsM_isGood := fun _ h => List.mem_cons_of_mem _ (List.mem_append_right _ h)
  have lkf43 := hts (.fieldLink RX1 43 "BlockTapeModel" "spoilt" "[I") (by decide +kernel)
  have hl : lv_has ls 2 [(0, .ref g), (1, .int x)] := hl
  refine lv_aload_n hx hb dM_isGood_0 rfl (lv_at hl 0 rfl) ?_
  refine lv_iload_n hx hb dM_isGood_1 rfl (lv_at hl 1 rfl) ?_
  refine kc_vi (WR := []) (As := [.int x]) (rest := []) ⟨hx, hb, hml, hown, hts⟩ (r_isWritten l dC dI g m1 m2 m3 m4 m5 m6 m7 m8 m9 m10 m11 m12 m13 ci mt tl rc kp ms mi ml mb mf mo my np md mu fi sp sq H.size x (by omega)) (cwV 1 hts gM_isGood_M_isWritten rfl rfl rfl (by decide +kernel) ⟨Nat.le_of_ble_eq_true rfl, Nat.le_of_ble_eq_true rfl⟩) hK hP hD hS hA [0, 1, 2, 3, 4, 5, 6, 7, 8, 9, 10, 11, 12, 13] [] [0] rfl rfl (by decide) (by decide) (by decide) rfl 0 1 rfl rfl rfl rfl hl.1 rfl (Nat.le_of_ble_eq_true rfl) dM_isGood_2 ⟨Nat.zero_le _, Nat.zero_le _⟩ (fun H locs hP hD hS => ?_)
  have hP : va_P (dC, dI) vwCl (wM g m1 m2 m3 m4 m5 m6 m7 m8 m9 m10 m11 m12 m13 ci mt tl rc kp ms mi ml mb mf mo my (np / 56) (np % 56) md mu fi sp sq) H := hP
  have hD : va_D A (wM g m1 m2 m3 m4 m5 m6 m7 m8 m9 m10 m11 m12 m13 ci mt tl rc kp ms mi ml mb mf mo my (np / 56) (np % 56) md mu fi sp sq) := hD
  refine lv_if_eq (tgt := 21) hx hb dM_isGood_5 (by decide) (fun c_5 => ?_) (fun c_5 => ?_)
  · have c_5 := (bI_e _).mp c_5
    refine lv_iconst (v := nI 0) hx hb dM_isGood_21 (by decide) ?_
    refine kv_top (show _ = bI (goodX np sb x) from (bI_f (goodX_f c_5))) ?_
    exact hret _ _ _ _ hP hD hS dM_isGood_22
  · have c_5 := kmt (bI_e _).mpr c_5
    have c_5 := bT c_5
    obtain ⟨j, hj, rfl⟩ := isW_of c_5
    have hspj := hsp j hj
    refine lv_aload_n hx hb dM_isGood_8 rfl (lv_at hl 0 rfl) ?_
    refine va_get (D := (dC, dI)) (ci := 1) (v := .ref m12) (C := RX1) (T := TX1) (N := 19) hx hb hts hin1 hown hK hP 0 rfl rfl 17 (by decide) lkf43 (fun _ h9 => h9) rfl dM_isGood_9 ?_
    refine lv_iload_n hx hb dM_isGood_12 rfl (lv_at hl 1 rfl) ?_
    refine ka_iald hx hb hK hP 12 0 rfl rfl (k := j) (by omega) (by decide) dM_isGood_13 ?_
    refine lv_if_ge (tgt := 21) hx hb dM_isGood_14 (by decide) (fun c_14 => ?_) (fun c_14 => ?_)
    · have c_14 := (kx_ge0).mp c_14
      refine lv_iconst (v := nI 0) hx hb dM_isGood_21 (by decide) ?_
      refine kv_top (show _ = bI (goodX np sb (nI j)) from (bI_f (by rw [goodX_n (by omega)]; simp [gd]; omega))) ?_
      exact hret _ _ _ _ hP hD hS dM_isGood_22
    · have c_14 := kmt (kx_ge0).mpr c_14
      refine lv_iconst (v := nI 1) hx hb dM_isGood_17 (by decide) ?_
      refine lv_goto (tgt := 22) hx hb dM_isGood_18 (by decide) ?_
      refine kv_top (show _ = bI (goodX np sb (nI j)) from (bI_t (by rw [goodX_n (by omega)]; simp [gd]; omega))) ?_
      exact hret _ _ _ _ hP hD hS dM_isGood_22
set_option maxHeartbeats 4000000 in
set_option maxRecDepth 100000 in
theorem r_good (l : Launch) (dC : Nat → ClassId) (dI : Nat → Nat → Nat) (g m1 m2 m3 m4 m5 m6 m7 m8 m9 m10 m11 m12 m13 : Nat) (ci : ClassId) (mt : Nat → Nat) (tl rc kp : Nat) (ms mi ml mb mf mo my : Nat → Nat) (np : Nat) (md mu fi : Nat → Nat) (sp : Nat → Int32) (sq : Nat → Nat) (sb : Nat → Nat) (sz : Nat) (x : Int32) (hnp : np ≤ 4480) (hsp : ∀ b, b < np / 56 → ((sp b).toInt < 0 ↔ sb b = 0)) : Met l yM_good wsM_good ({ frames := 2, cells := 0, slots := 0, locals := 42 }) (kPre (dC, dI) vwCl (wM g m1 m2 m3 m4 m5 m6 m7 m8 m9 m10 m11 m12 m13 ci mt tl rc kp ms mi ml mb mf mo my (np / 56) (np % 56) md mu fi sp sq) (tM ci) sz [.ref g, .int x]) (kQi (dC, dI) vwCl (wM g m1 m2 m3 m4 m5 m6 m7 m8 m9 m10 m11 m12 m13 ci mt tl rc kp ms mi ml mb mf mo my (np / 56) (np % 56) md mu fi sp sq) (tM ci) sz (bI (goodX np sb x)) (wM g m1 m2 m3 m4 m5 m6 m7 m8 m9 m10 m11 m12 m13 ci mt tl rc kp ms mi ml mb mf mo my (np / 56) (np % 56) md mu fi sp sq)) 0 0 (va_A (wM g m1 m2 m3 m4 m5 m6 m7 m8 m9 m10 m11 m12 m13 ci mt tl rc kp ms mi ml mb mf mo my (np / 56) (np % 56) md mu fi sp sq) sz) := by
  refine kM_z (cc := cM_good) (maxL := 2) (by decide) rfl (Nat.le_of_ble_eq_true rfl) (bI_n _) ?_
  intro p e s m below meth c A Q ls H locs S hP hK hD hS hA hl hret
  obtain ⟨hx, hb, hml, hown, hts⟩ := id S
  have hin1 : ∀ w ∈ u_ws RX1 TX1 19, w ∈ wsM_good := fun _ h => List.mem_cons_of_mem _ (List.mem_append_right _ h)
  have lkf49 := hts (.fieldLink RX1 49 "BlockTapeModel" "thrown" "I") (by decide +kernel)
  have hl : lv_has ls 2 [(0, .ref g), (1, .int x)] := hl
  refine lv_aload_n hx hb dM_good_0 rfl (lv_at hl 0 rfl) ?_
  refine lv_iconst (v := nI 0) hx hb dM_good_1 (by decide) ?_
  refine va_put (D := (dC, dI)) (ci := 1) (v := .int (nI 0)) (ty := .int) (C := RX1) (T := TX1) (N := 19) hx hb hts hin1 tyX1 tyX1_ok nmX1 hown hK hP hD hS 0 rfl rfl 0 (by decide) lkf49 (fun _ h9 => h9) rfl (by decide +kernel) rfl rfl (Nat.le_of_ble_eq_true rfl) dM_good_2 (fun H locs hP hD hS => ?_)
  have hP : va_P (dC, dI) vwCl (wM g m1 m2 m3 m4 m5 m6 m7 m8 m9 m10 m11 m12 m13 ci mt tl rc kp ms mi ml mb mf mo my (np / 56) (np % 56) md mu fi sp sq) H := hP
  have hD : va_D A (wM g m1 m2 m3 m4 m5 m6 m7 m8 m9 m10 m11 m12 m13 ci mt tl rc kp ms mi ml mb mf mo my (np / 56) (np % 56) md mu fi sp sq) := hD
  refine lv_aload_n hx hb dM_good_5 rfl (lv_at hl 0 rfl) ?_
  refine lv_iload_n hx hb dM_good_6 rfl (lv_at hl 1 rfl) ?_
  refine kc_vi (WR := []) (As := [.int x]) (rest := []) ⟨hx, hb, hml, hown, hts⟩ (r_isGood l dC dI g m1 m2 m3 m4 m5 m6 m7 m8 m9 m10 m11 m12 m13 ci mt tl rc kp ms mi ml mb mf mo my np md mu fi sp sq sb H.size x (by omega) hsp) (cwV 1 hts gM_good_M_isGood rfl rfl rfl (by decide +kernel) ⟨Nat.le_of_ble_eq_true rfl, Nat.le_of_ble_eq_true rfl⟩) hK hP hD hS hA [0, 1, 2, 3, 4, 5, 6, 7, 8, 9, 10, 11, 12, 13] [] [0] rfl rfl (by decide) (by decide) (by decide) rfl 0 1 rfl rfl rfl rfl hl.1 rfl (Nat.le_of_ble_eq_true rfl) dM_good_7 ⟨Nat.zero_le _, Nat.zero_le _⟩ (fun H locs hP hD hS => ?_)
  have hP : va_P (dC, dI) vwCl (wM g m1 m2 m3 m4 m5 m6 m7 m8 m9 m10 m11 m12 m13 ci mt tl rc kp ms mi ml mb mf mo my (np / 56) (np % 56) md mu fi sp sq) H := hP
  have hD : va_D A (wM g m1 m2 m3 m4 m5 m6 m7 m8 m9 m10 m11 m12 m13 ci mt tl rc kp ms mi ml mb mf mo my (np / 56) (np % 56) md mu fi sp sq) := hD
  exact hret _ _ _ _ hP hD hS dM_good_10
set_option maxHeartbeats 4000000 in
set_option maxRecDepth 100000 in
theorem r_isRead (l : Launch) (dC : Nat → ClassId) (dI : Nat → Nat → Nat) (g m1 m2 m3 m4 m5 m6 m7 m8 m9 m10 m11 m12 m13 : Nat) (ci : ClassId) (mt : Nat → Nat) (tl rc kp : Nat) (ms mi ml mb mf mo my : Nat → Nat) (np : Nat) (md mu fi : Nat → Nat) (sp : Nat → Int32) (sq : Nat → Nat) (sb rp rl : Nat → Nat) (sz : Nat) (r : Nat) (hnp : np ≤ 4480) (hsp : ∀ b, b < np / 56 → ((sp b).toInt < 0 ↔ sb b = 0)) (hr : r < 200) (hrow : rp r + rl r ≤ 4480 ∧ 6 ≤ rl r) (hft : mf r = rp r / 56 ∧ mo r = (rp r + rl r - 1) / 56) : Met l yM_isRead wsM_isRead ({ frames := 2, cells := 0, slots := 0, locals := 42 }) (kPre (dC, dI) vwCl (wM g m1 m2 m3 m4 m5 m6 m7 m8 m9 m10 m11 m12 m13 ci mt tl rc kp ms mi ml mb mf mo my (np / 56) (np % 56) md mu fi sp sq) (tM ci) sz [.ref g, .int (nI r)]) (kQi (dC, dI) vwCl (wM g m1 m2 m3 m4 m5 m6 m7 m8 m9 m10 m11 m12 m13 ci mt tl rc kp ms mi ml mb mf mo my (np / 56) (np % 56) md mu fi sp sq) (tM ci) sz (bI (isR np sb rp rl r)) (wM g m1 m2 m3 m4 m5 m6 m7 m8 m9 m10 m11 m12 m13 ci mt tl rc kp ms mi ml mb mf mo my (np / 56) (np % 56) md mu fi sp sq)) 0 0 (va_A (wM g m1 m2 m3 m4 m5 m6 m7 m8 m9 m10 m11 m12 m13 ci mt tl rc kp ms mi ml mb mf mo my (np / 56) (np % 56) md mu fi sp sq) sz) := by
  refine kM_z (cc := cM_isRead) (maxL := 3) (by decide) rfl (Nat.le_of_ble_eq_true rfl) (bI_n _) ?_
  intro p e s m below meth c A Q ls H locs S hP hK hD hS hA hl hret
  obtain ⟨hx, hb, hml, hown, hts⟩ := id S
  have hin1 : ∀ w ∈ u_ws RX1 TX1 19, w ∈ wsM_isRead := fun _ h => List.mem_cons_of_mem _ (List.mem_append_right _ h)
  have lkf25 := hts (.fieldLink RX1 25 "BlockTapeModel" "fromBlock" "[I") (by decide +kernel)
  have lkf28 := hts (.fieldLink RX1 28 "BlockTapeModel" "toBlock" "[I") (by decide +kernel)
  have hl : lv_has ls 3 [(0, .ref g), (1, .int (nI r))] := hl
  refine lv_aload_n hx hb dM_isRead_0 rfl (lv_at hl 0 rfl) ?_
  refine va_get (D := (dC, dI)) (ci := 1) (v := .ref m6) (C := RX1) (T := TX1) (N := 19) hx hb hts hin1 hown hK hP 0 rfl rfl 9 (by decide) lkf25 (fun _ h9 => h9) rfl dM_isRead_1 ?_
  refine lv_iload_n hx hb dM_isRead_4 rfl (lv_at hl 1 rfl) ?_
  refine ka_ialdN hx hb hK hP 6 0 rfl rfl (k := r) (by omega) (by decide) dM_isRead_5 ?_
  refine kv_top (show _ = nI (rp r / 56) from (by rw [hft.1])) ?_
  refine lv_istore_n (lv' := [(2, .int (nI (rp r / 56))), (0, .ref g), (1, .int (nI r))]) hx hb dM_isRead_6 rfl hl (by decide) rfl (fun ls hl => ?_)
  have hloopk : ∀ (n k : Nat), k ≤ (rp r + rl r - 1) / 56 + 1 → (rp r + rl r - 1) / 56 + 1 + 1 ≤ k + n → (allG np sb ((rp r + rl r - 1) / 56 + 1 - k) k = isR np sb rp rl r) → ∀ (H : Heap) (locs : List Loc) (ls : Array Slot), va_P (dC, dI) vwCl (wM g m1 m2 m3 m4 m5 m6 m7 m8 m9 m10 m11 m12 m13 ci mt tl rc kp ms mi ml mb mf mo my (np / 56) (np % 56) md mu fi sp sq) H → va_D A (wM g m1 m2 m3 m4 m5 m6 m7 m8 m9 m10 m11 m12 m13 ci mt tl rc kp ms mi ml mb mf mo my (np / 56) (np % 56) md mu fi sp sq) → va_S A s.heap H locs → lv_has ls 3 [(2, .int (nI k)), (0, .ref g), (1, .int (nI r))] → W p l e ({ frames := 2, cells := 0, slots := 0, locals := 42 }) s m ([.ref g, .int (nI r)] : List Value).toArray below meth c H locs 0 0 Q (F0 m 7 ls []) := by
    intro n
    induction n with
    | zero => intro k h1 h2; exact absurd h2 (by omega)
    | succ n ih =>
      intro k hkA hkB hres H locs ls hP hD hS hl
      refine lv_iload_n hx hb dM_isRead_7 rfl (lv_at hl 0 rfl) ?_
      refine lv_aload_n hx hb dM_isRead_8 rfl (lv_at hl 1 rfl) ?_
      refine va_get (D := (dC, dI)) (ci := 1) (v := .ref m7) (C := RX1) (T := TX1) (N := 19) hx hb hts hin1 hown hK hP 0 rfl rfl 10 (by decide) lkf28 (fun _ h9 => h9) rfl dM_isRead_9 ?_
      refine lv_iload_n hx hb dM_isRead_12 rfl (lv_at hl 2 rfl) ?_
      refine ka_ialdN hx hb hK hP 7 0 rfl rfl (k := r) (by omega) (by decide) dM_isRead_13 ?_
      refine kv_top (show _ = nI ((rp r + rl r - 1) / 56) from (by rw [hft.2])) ?_
      refine lv_icmp_gt (tgt := 33) hx hb dM_isRead_14 (by decide) (fun c_14 => ?_) (fun c_14 => ?_)
      · have c_14 := (nI_ltI (by omega) (by omega)).mp c_14
        refine lv_iconst (v := nI 1) hx hb dM_isRead_33 (by decide) ?_
        refine kv_top (show _ = bI (isR np sb rp rl r) from (bI_t (by rw [← hres, show (rp r + rl r - 1) / 56 + 1 - k = 0 by omega]; rfl))) ?_
        exact hret _ _ _ _ hP hD hS dM_isRead_34
      · have c_14 := kmt (nI_ltI (by omega) (by omega)).mpr c_14
        refine lv_aload_n hx hb dM_isRead_17 rfl (lv_at hl 1 rfl) ?_
        refine lv_iload_n hx hb dM_isRead_18 rfl (lv_at hl 0 rfl) ?_
        refine kc_vi (WR := []) (As := [.int (nI k)]) (rest := []) ⟨hx, hb, hml, hown, hts⟩ (r_isGood l dC dI g m1 m2 m3 m4 m5 m6 m7 m8 m9 m10 m11 m12 m13 ci mt tl rc kp ms mi ml mb mf mo my np md mu fi sp sq sb H.size (nI k) (by omega) hsp) (cwV 1 hts gM_isRead_M_isGood rfl rfl rfl (by decide +kernel) ⟨Nat.le_of_ble_eq_true rfl, Nat.le_of_ble_eq_true rfl⟩) hK hP hD hS hA [0, 1, 2, 3, 4, 5, 6, 7, 8, 9, 10, 11, 12, 13] [] [0] rfl rfl (by decide) (by decide) (by decide) rfl 0 1 rfl rfl rfl rfl hl.1 rfl (Nat.le_of_ble_eq_true rfl) dM_isRead_19 ⟨Nat.zero_le _, Nat.zero_le _⟩ (fun H locs hP hD hS => ?_)
        have hP : va_P (dC, dI) vwCl (wM g m1 m2 m3 m4 m5 m6 m7 m8 m9 m10 m11 m12 m13 ci mt tl rc kp ms mi ml mb mf mo my (np / 56) (np % 56) md mu fi sp sq) H := hP
        have hD : va_D A (wM g m1 m2 m3 m4 m5 m6 m7 m8 m9 m10 m11 m12 m13 ci mt tl rc kp ms mi ml mb mf mo my (np / 56) (np % 56) md mu fi sp sq) := hD
        refine kv_top (show _ = bI (gd np sb k) from by rw [goodX_n (by omega)]) ?_
        refine lv_if_ne (tgt := 27) hx hb dM_isRead_22 (by decide) (fun c_22 => ?_) (fun c_22 => ?_)
        · have c_22 := kmt (bI_e _).mpr c_22
          have c_22 := bT c_22
          refine lv_iinc (v := nI (k + 1)) (lv' := [(2, .int (nI (k + 1))), (0, .ref g), (1, .int (nI r))]) hx hb dM_isRead_27 hl (k := 0) rfl (ki_inc _) (by decide) rfl (fun ls hl => ?_)
          refine lv_goto (tgt := 7) hx hb dM_isRead_30 (by decide) ?_
          have hP : va_P (dC, dI) vwCl (wM g m1 m2 m3 m4 m5 m6 m7 m8 m9 m10 m11 m12 m13 ci mt tl rc kp ms mi ml mb mf mo my (np / 56) (np % 56) md mu fi sp sq) H := hP
          have hD : va_D A (wM g m1 m2 m3 m4 m5 m6 m7 m8 m9 m10 m11 m12 m13 ci mt tl rc kp ms mi ml mb mf mo my (np / 56) (np % 56) md mu fi sp sq) := hD
          exact ih (k + 1) (by omega) (by omega) (by rw [← hres, allG_step (T := (rp r + rl r - 1) / 56 + 1) (k := k) (by omega), c_22]; rfl) _ _ _ hP hD hS (lv_sub hl [0, 1, 2] rfl)
        · have c_22 := (bI_e _).mp c_22
          refine lv_iconst (v := nI 0) hx hb dM_isRead_25 (by decide) ?_
          refine kv_top (show _ = bI (isR np sb rp rl r) from (bI_f (by rw [← hres, allG_step (T := (rp r + rl r - 1) / 56 + 1) (k := k) (by omega), c_22]; rfl))) ?_
          exact hret _ _ _ _ hP hD hS dM_isRead_26
  have hP : va_P (dC, dI) vwCl (wM g m1 m2 m3 m4 m5 m6 m7 m8 m9 m10 m11 m12 m13 ci mt tl rc kp ms mi ml mb mf mo my (np / 56) (np % 56) md mu fi sp sq) H := hP
  have hD : va_D A (wM g m1 m2 m3 m4 m5 m6 m7 m8 m9 m10 m11 m12 m13 ci mt tl rc kp ms mi ml mb mf mo my (np / 56) (np % 56) md mu fi sp sq) := hD
  exact hloopk (((rp r + rl r - 1) / 56 + 1) + 1) (rp r / 56) (by omega) (by omega) (rfl) _ _ _ hP hD hS (lv_sub hl [0, 1, 2] rfl)
set_option maxHeartbeats 4000000 in
set_option maxRecDepth 100000 in
theorem r_verify (l : Launch) (dC : Nat → ClassId) (dI : Nat → Nat → Nat) (g m1 m2 m3 m4 m5 m6 m7 m8 m9 m10 m11 m12 m13 : Nat) (ci : ClassId) (mt : Nat → Nat) (tl rc kp : Nat) (ms mi ml mb mf mo my : Nat → Nat) (np : Nat) (md mu fi : Nat → Nat) (sp : Nat → Int32) (sq : Nat → Nat) (sb : Nat → Nat) (sz : Nat) (x : Int32) (hnp : np ≤ 4480) (hsp : ∀ b, b < np / 56 → ((sp b).toInt < 0 ↔ sb b = 0)) : Met l yM_verify wsM_verify ({ frames := 2, cells := 0, slots := 0, locals := 42 }) (kPre (dC, dI) vwCl (wM g m1 m2 m3 m4 m5 m6 m7 m8 m9 m10 m11 m12 m13 ci mt tl rc kp ms mi ml mb mf mo my (np / 56) (np % 56) md mu fi sp sq) (tM ci) sz [.ref g, .int x]) (kQi (dC, dI) vwCl (wM g m1 m2 m3 m4 m5 m6 m7 m8 m9 m10 m11 m12 m13 ci mt tl rc kp ms mi ml mb mf mo my (np / 56) (np % 56) md mu fi sp sq) (tM ci) sz (vfX np sb x) (wM g m1 m2 m3 m4 m5 m6 m7 m8 m9 m10 m11 m12 m13 ci mt tl rc kp ms mi ml mb mf mo my (np / 56) (np % 56) md mu fi sp sq)) 0 0 (va_A (wM g m1 m2 m3 m4 m5 m6 m7 m8 m9 m10 m11 m12 m13 ci mt tl rc kp ms mi ml mb mf mo my (np / 56) (np % 56) md mu fi sp sq) sz) := by
  refine kM_i (cc := cM_verify) (maxL := 3) (by decide) rfl (Nat.le_of_ble_eq_true rfl) ?_
  intro p e s m below meth c A Q ls H locs S hP hK hD hS hA hl hret
  obtain ⟨hx, hb, hml, hown, hts⟩ := id S
  have hin1 : ∀ w ∈ u_ws RX1 TX1 19, w ∈ wsM_verify := fun _ h => List.mem_cons_of_mem _ (List.mem_append_right _ h)
  have lkf49 := hts (.fieldLink RX1 49 "BlockTapeModel" "thrown" "I") (by decide +kernel)
  have lkf56 := hts (.fieldLink RX1 56 "BlockTapeModel" "written" "I") (by decide +kernel)
  have hl : lv_has ls 3 [(0, .ref g), (1, .int x)] := hl
  have hxm := kx_max x
  refine lv_aload_n hx hb dM_verify_0 rfl (lv_at hl 0 rfl) ?_
  refine lv_iconst (v := nI 0) hx hb dM_verify_1 (by decide) ?_
  refine va_put (D := (dC, dI)) (ci := 1) (v := .int (nI 0)) (ty := .int) (C := RX1) (T := TX1) (N := 19) hx hb hts hin1 tyX1 tyX1_ok nmX1 hown hK hP hD hS 0 rfl rfl 0 (by decide) lkf49 (fun _ h9 => h9) rfl (by decide +kernel) rfl rfl (Nat.le_of_ble_eq_true rfl) dM_verify_2 (fun H locs hP hD hS => ?_)
  have hP : va_P (dC, dI) vwCl (wM g m1 m2 m3 m4 m5 m6 m7 m8 m9 m10 m11 m12 m13 ci mt tl rc kp ms mi ml mb mf mo my (np / 56) (np % 56) md mu fi sp sq) H := hP
  have hD : va_D A (wM g m1 m2 m3 m4 m5 m6 m7 m8 m9 m10 m11 m12 m13 ci mt tl rc kp ms mi ml mb mf mo my (np / 56) (np % 56) md mu fi sp sq) := hD
  refine lv_iload_n hx hb dM_verify_5 rfl (lv_at hl 1 rfl) ?_
  refine lv_if_ge (tgt := 13) hx hb dM_verify_6 (by decide) (fun c_6 => ?_) (fun c_6 => ?_)
  · have c_6 := (kx_ge0).mp c_6
    refine lv_iload_n hx hb dM_verify_13 rfl (lv_at hl 1 rfl) ?_
    refine kv_top (show _ = nI x.toInt.toNat from (vpos (by omega))) ?_
    refine lv_istore_n (lv' := [(2, .int (nI x.toInt.toNat)), (0, .ref g), (1, .int x)]) hx hb dM_verify_14 rfl hl (by decide) rfl (fun ls hl => ?_)
    have hloopk : ∀ (n k : Nat), k ≤ 2147483647 → 2147483647 + 1 ≤ k + n → (vfR np sb (np / 56 - k) k = vfX np sb x) → ∀ (H : Heap) (locs : List Loc) (ls : Array Slot), va_P (dC, dI) vwCl (wM g m1 m2 m3 m4 m5 m6 m7 m8 m9 m10 m11 m12 m13 ci mt tl rc kp ms mi ml mb mf mo my (np / 56) (np % 56) md mu fi sp sq) H → va_D A (wM g m1 m2 m3 m4 m5 m6 m7 m8 m9 m10 m11 m12 m13 ci mt tl rc kp ms mi ml mb mf mo my (np / 56) (np % 56) md mu fi sp sq) → va_S A s.heap H locs → lv_has ls 3 [(2, .int (nI k)), (0, .ref g)] → W p l e ({ frames := 2, cells := 0, slots := 0, locals := 42 }) s m ([.ref g, .int x] : List Value).toArray below meth c H locs 0 0 Q (F0 m 15 ls []) := by
      intro n
      induction n with
      | zero => intro k h1 h2; exact absurd h2 (by omega)
      | succ n ih =>
        intro k hkA hkB hres H locs ls hP hD hS hl
        refine lv_iload_n hx hb dM_verify_15 rfl (lv_at hl 0 rfl) ?_
        refine lv_aload_n hx hb dM_verify_16 rfl (lv_at hl 1 rfl) ?_
        refine va_get (D := (dC, dI)) (ci := 1) (v := .int (nI (np / 56))) (C := RX1) (T := TX1) (N := 19) hx hb hts hin1 hown hK hP 0 rfl rfl 12 (by decide) lkf56 (fun _ h9 => h9) rfl dM_verify_17 ?_
        refine lv_icmp_ge (tgt := 39) hx hb dM_verify_20 (by decide) (fun c_20 => ?_) (fun c_20 => ?_)
        · have c_20 := (nI_leI (by omega) (by omega)).mp c_20
          refine lv_iconst (v := (-1)) hx hb dM_verify_39 (by decide) ?_
          refine kv_top (show _ = vfX np sb x from (by rw [← hres, show np / 56 - k = 0 by omega]; rfl)) ?_
          exact hret _ _ _ _ hP hD hS dM_verify_40
        · have c_20 := kmt (nI_leI (by omega) (by omega)).mpr c_20
          refine lv_aload_n hx hb dM_verify_23 rfl (lv_at hl 1 rfl) ?_
          refine lv_iload_n hx hb dM_verify_24 rfl (lv_at hl 0 rfl) ?_
          refine kc_vi (WR := []) (As := [.int (nI k)]) (rest := []) ⟨hx, hb, hml, hown, hts⟩ (r_isGood l dC dI g m1 m2 m3 m4 m5 m6 m7 m8 m9 m10 m11 m12 m13 ci mt tl rc kp ms mi ml mb mf mo my np md mu fi sp sq sb H.size (nI k) (by omega) hsp) (cwV 1 hts gM_verify_M_isGood rfl rfl rfl (by decide +kernel) ⟨Nat.le_of_ble_eq_true rfl, Nat.le_of_ble_eq_true rfl⟩) hK hP hD hS hA [0, 1, 2, 3, 4, 5, 6, 7, 8, 9, 10, 11, 12, 13] [] [0] rfl rfl (by decide) (by decide) (by decide) rfl 0 1 rfl rfl rfl rfl hl.1 rfl (Nat.le_of_ble_eq_true rfl) dM_verify_25 ⟨Nat.zero_le _, Nat.zero_le _⟩ (fun H locs hP hD hS => ?_)
          have hP : va_P (dC, dI) vwCl (wM g m1 m2 m3 m4 m5 m6 m7 m8 m9 m10 m11 m12 m13 ci mt tl rc kp ms mi ml mb mf mo my (np / 56) (np % 56) md mu fi sp sq) H := hP
          have hD : va_D A (wM g m1 m2 m3 m4 m5 m6 m7 m8 m9 m10 m11 m12 m13 ci mt tl rc kp ms mi ml mb mf mo my (np / 56) (np % 56) md mu fi sp sq) := hD
          refine kv_top (show _ = bI (gd np sb k) from by rw [goodX_n (by omega)]) ?_
          refine lv_if_ne (tgt := 33) hx hb dM_verify_28 (by decide) (fun c_28 => ?_) (fun c_28 => ?_)
          · have c_28 := kmt (bI_e _).mpr c_28
            have c_28 := bT c_28
            refine lv_iinc (v := nI (k + 1)) (lv' := [(2, .int (nI (k + 1))), (0, .ref g)]) hx hb dM_verify_33 hl (k := 0) rfl (ki_inc _) (by decide) rfl (fun ls hl => ?_)
            refine lv_goto (tgt := 15) hx hb dM_verify_36 (by decide) ?_
            have hP : va_P (dC, dI) vwCl (wM g m1 m2 m3 m4 m5 m6 m7 m8 m9 m10 m11 m12 m13 ci mt tl rc kp ms mi ml mb mf mo my (np / 56) (np % 56) md mu fi sp sq) H := hP
            have hD : va_D A (wM g m1 m2 m3 m4 m5 m6 m7 m8 m9 m10 m11 m12 m13 ci mt tl rc kp ms mi ml mb mf mo my (np / 56) (np % 56) md mu fi sp sq) := hD
            exact ih (k + 1) (by omega) (by omega) (by rw [← hres, vfR_step (T := np / 56) (k := k) (by omega), if_pos c_28]) _ _ _ hP hD hS (lv_sub hl [0, 1] rfl)
          · have c_28 := (bI_e _).mp c_28
            refine lv_iload_n hx hb dM_verify_31 rfl (lv_at hl 0 rfl) ?_
            refine kv_top (show _ = vfX np sb x from (by rw [← hres, vfR_step (T := np / 56) (k := k) (by omega), if_neg (by rw [c_28]; decide)])) ?_
            exact hret _ _ _ _ hP hD hS dM_verify_32
    have hP : va_P (dC, dI) vwCl (wM g m1 m2 m3 m4 m5 m6 m7 m8 m9 m10 m11 m12 m13 ci mt tl rc kp ms mi ml mb mf mo my (np / 56) (np % 56) md mu fi sp sq) H := hP
    have hD : va_D A (wM g m1 m2 m3 m4 m5 m6 m7 m8 m9 m10 m11 m12 m13 ci mt tl rc kp ms mi ml mb mf mo my (np / 56) (np % 56) md mu fi sp sq) := hD
    exact hloopk (2147483647 + 1) x.toInt.toNat (by omega) (by omega) (rfl) _ _ _ hP hD hS (lv_sub hl [0, 1] rfl)
  · have c_6 := kmt (kx_ge0).mpr c_6
    refine lv_iconst (v := nI 0) hx hb dM_verify_9 (by decide) ?_
    refine lv_goto (tgt := 14) hx hb dM_verify_10 (by decide) ?_
    refine kv_top (show _ = nI x.toInt.toNat from (by rw [show x.toInt.toNat = 0 by omega])) ?_
    refine lv_istore_n (lv' := [(2, .int (nI x.toInt.toNat)), (0, .ref g), (1, .int x)]) hx hb dM_verify_14 rfl hl (by decide) rfl (fun ls hl => ?_)
    have hloopk : ∀ (n k : Nat), k ≤ 2147483647 → 2147483647 + 1 ≤ k + n → (vfR np sb (np / 56 - k) k = vfX np sb x) → ∀ (H : Heap) (locs : List Loc) (ls : Array Slot), va_P (dC, dI) vwCl (wM g m1 m2 m3 m4 m5 m6 m7 m8 m9 m10 m11 m12 m13 ci mt tl rc kp ms mi ml mb mf mo my (np / 56) (np % 56) md mu fi sp sq) H → va_D A (wM g m1 m2 m3 m4 m5 m6 m7 m8 m9 m10 m11 m12 m13 ci mt tl rc kp ms mi ml mb mf mo my (np / 56) (np % 56) md mu fi sp sq) → va_S A s.heap H locs → lv_has ls 3 [(2, .int (nI k)), (0, .ref g)] → W p l e ({ frames := 2, cells := 0, slots := 0, locals := 42 }) s m ([.ref g, .int x] : List Value).toArray below meth c H locs 0 0 Q (F0 m 15 ls []) := by
      intro n
      induction n with
      | zero => intro k h1 h2; exact absurd h2 (by omega)
      | succ n ih =>
        intro k hkA hkB hres H locs ls hP hD hS hl
        refine lv_iload_n hx hb dM_verify_15 rfl (lv_at hl 0 rfl) ?_
        refine lv_aload_n hx hb dM_verify_16 rfl (lv_at hl 1 rfl) ?_
        refine va_get (D := (dC, dI)) (ci := 1) (v := .int (nI (np / 56))) (C := RX1) (T := TX1) (N := 19) hx hb hts hin1 hown hK hP 0 rfl rfl 12 (by decide) lkf56 (fun _ h9 => h9) rfl dM_verify_17 ?_
        refine lv_icmp_ge (tgt := 39) hx hb dM_verify_20 (by decide) (fun c_20 => ?_) (fun c_20 => ?_)
        · have c_20 := (nI_leI (by omega) (by omega)).mp c_20
          refine lv_iconst (v := (-1)) hx hb dM_verify_39 (by decide) ?_
          refine kv_top (show _ = vfX np sb x from (by rw [← hres, show np / 56 - k = 0 by omega]; rfl)) ?_
          exact hret _ _ _ _ hP hD hS dM_verify_40
        · have c_20 := kmt (nI_leI (by omega) (by omega)).mpr c_20
          refine lv_aload_n hx hb dM_verify_23 rfl (lv_at hl 1 rfl) ?_
          refine lv_iload_n hx hb dM_verify_24 rfl (lv_at hl 0 rfl) ?_
          refine kc_vi (WR := []) (As := [.int (nI k)]) (rest := []) ⟨hx, hb, hml, hown, hts⟩ (r_isGood l dC dI g m1 m2 m3 m4 m5 m6 m7 m8 m9 m10 m11 m12 m13 ci mt tl rc kp ms mi ml mb mf mo my np md mu fi sp sq sb H.size (nI k) (by omega) hsp) (cwV 1 hts gM_verify_M_isGood rfl rfl rfl (by decide +kernel) ⟨Nat.le_of_ble_eq_true rfl, Nat.le_of_ble_eq_true rfl⟩) hK hP hD hS hA [0, 1, 2, 3, 4, 5, 6, 7, 8, 9, 10, 11, 12, 13] [] [0] rfl rfl (by decide) (by decide) (by decide) rfl 0 1 rfl rfl rfl rfl hl.1 rfl (Nat.le_of_ble_eq_true rfl) dM_verify_25 ⟨Nat.zero_le _, Nat.zero_le _⟩ (fun H locs hP hD hS => ?_)
          have hP : va_P (dC, dI) vwCl (wM g m1 m2 m3 m4 m5 m6 m7 m8 m9 m10 m11 m12 m13 ci mt tl rc kp ms mi ml mb mf mo my (np / 56) (np % 56) md mu fi sp sq) H := hP
          have hD : va_D A (wM g m1 m2 m3 m4 m5 m6 m7 m8 m9 m10 m11 m12 m13 ci mt tl rc kp ms mi ml mb mf mo my (np / 56) (np % 56) md mu fi sp sq) := hD
          refine kv_top (show _ = bI (gd np sb k) from by rw [goodX_n (by omega)]) ?_
          refine lv_if_ne (tgt := 33) hx hb dM_verify_28 (by decide) (fun c_28 => ?_) (fun c_28 => ?_)
          · have c_28 := kmt (bI_e _).mpr c_28
            have c_28 := bT c_28
            refine lv_iinc (v := nI (k + 1)) (lv' := [(2, .int (nI (k + 1))), (0, .ref g)]) hx hb dM_verify_33 hl (k := 0) rfl (ki_inc _) (by decide) rfl (fun ls hl => ?_)
            refine lv_goto (tgt := 15) hx hb dM_verify_36 (by decide) ?_
            have hP : va_P (dC, dI) vwCl (wM g m1 m2 m3 m4 m5 m6 m7 m8 m9 m10 m11 m12 m13 ci mt tl rc kp ms mi ml mb mf mo my (np / 56) (np % 56) md mu fi sp sq) H := hP
            have hD : va_D A (wM g m1 m2 m3 m4 m5 m6 m7 m8 m9 m10 m11 m12 m13 ci mt tl rc kp ms mi ml mb mf mo my (np / 56) (np % 56) md mu fi sp sq) := hD
            exact ih (k + 1) (by omega) (by omega) (by rw [← hres, vfR_step (T := np / 56) (k := k) (by omega), if_pos c_28]) _ _ _ hP hD hS (lv_sub hl [0, 1] rfl)
          · have c_28 := (bI_e _).mp c_28
            refine lv_iload_n hx hb dM_verify_31 rfl (lv_at hl 0 rfl) ?_
            refine kv_top (show _ = vfX np sb x from (by rw [← hres, vfR_step (T := np / 56) (k := k) (by omega), if_neg (by rw [c_28]; decide)])) ?_
            exact hret _ _ _ _ hP hD hS dM_verify_32
    have hP : va_P (dC, dI) vwCl (wM g m1 m2 m3 m4 m5 m6 m7 m8 m9 m10 m11 m12 m13 ci mt tl rc kp ms mi ml mb mf mo my (np / 56) (np % 56) md mu fi sp sq) H := hP
    have hD : va_D A (wM g m1 m2 m3 m4 m5 m6 m7 m8 m9 m10 m11 m12 m13 ci mt tl rc kp ms mi ml mb mf mo my (np / 56) (np % 56) md mu fi sp sq) := hD
    exact hloopk (2147483647 + 1) x.toInt.toNat (by omega) (by omega) (rfl) _ _ _ hP hD hS (lv_sub hl [0, 1] rfl)
set_option maxHeartbeats 4000000 in
set_option maxRecDepth 100000 in
theorem r_count (l : Launch) (dC : Nat → ClassId) (dI : Nat → Nat → Nat) (g m1 m2 m3 m4 m5 m6 m7 m8 m9 m10 m11 m12 m13 : Nat) (ci : ClassId) (mt : Nat → Nat) (tl rc kp : Nat) (ms mi ml mb mf mo my : Nat → Nat) (np : Nat) (md mu fi : Nat → Nat) (sp : Nat → Int32) (sq : Nat → Nat) (sb rp rl : Nat → Nat) (sz : Nat) (x : Int32) (hnp : np ≤ 4480) (hsp : ∀ b, b < np / 56 → ((sp b).toInt < 0 ↔ sb b = 0)) (hrc : rc ≤ 200) (hrow : ∀ k, k < rc → rp k + rl k ≤ 4480 ∧ 6 ≤ rl k) (hft : ∀ k, k < rc → mf k = rp k / 56 ∧ mo k = (rp k + rl k - 1) / 56) (htl : tl ≤ 300) : Met l yM_count wsM_count ({ frames := 3, cells := 0, slots := 0, locals := 64 }) (kPre (dC, dI) vwCl (wM g m1 m2 m3 m4 m5 m6 m7 m8 m9 m10 m11 m12 m13 ci mt tl rc kp ms mi ml mb mf mo my (np / 56) (np % 56) md mu fi sp sq) (tM ci) sz [.ref g, .int x]) (kQi (dC, dI) vwCl (wM g m1 m2 m3 m4 m5 m6 m7 m8 m9 m10 m11 m12 m13 ci mt tl rc kp ms mi ml mb mf mo my (np / 56) (np % 56) md mu fi sp sq) (tM ci) sz (cntX tl np rc rp rl sb x) (wM g m1 m2 m3 m4 m5 m6 m7 m8 m9 m10 m11 m12 m13 ci mt tl rc kp ms mi ml mb mf mo my (np / 56) (np % 56) md mu fi sp sq)) 0 0 (va_A (wM g m1 m2 m3 m4 m5 m6 m7 m8 m9 m10 m11 m12 m13 ci mt tl rc kp ms mi ml mb mf mo my (np / 56) (np % 56) md mu fi sp sq) sz) := by
  refine kM_i (cc := cM_count) (maxL := 4) (by decide) rfl (Nat.le_of_ble_eq_true rfl) ?_
  intro p e s m below meth c A Q ls H locs S hP hK hD hS hA hl hret
  obtain ⟨hx, hb, hml, hown, hts⟩ := id S
  have hin1 : ∀ w ∈ u_ws RX1 TX1 19, w ∈ wsM_count := fun _ h => List.mem_cons_of_mem _ (List.mem_append_right _ h)
  have lkf49 := hts (.fieldLink RX1 49 "BlockTapeModel" "thrown" "I") (by decide +kernel)
  have lkf53 := hts (.fieldLink RX1 53 "BlockTapeModel" "taped" "I") (by decide +kernel)
  have lkf66 := hts (.fieldLink RX1 66 "BlockTapeModel" "records" "I") (by decide +kernel)
  have lkf56 := hts (.fieldLink RX1 56 "BlockTapeModel" "written" "I") (by decide +kernel)
  have lkf59 := hts (.fieldLink RX1 59 "BlockTapeModel" "used" "I") (by decide +kernel)
  have hl : lv_has ls 4 [(0, .ref g), (1, .int x)] := hl
  refine lv_aload_n hx hb dM_count_0 rfl (lv_at hl 0 rfl) ?_
  refine lv_iconst (v := nI 0) hx hb dM_count_1 (by decide) ?_
  refine va_put (D := (dC, dI)) (ci := 1) (v := .int (nI 0)) (ty := .int) (C := RX1) (T := TX1) (N := 19) hx hb hts hin1 tyX1 tyX1_ok nmX1 hown hK hP hD hS 0 rfl rfl 0 (by decide) lkf49 (fun _ h9 => h9) rfl (by decide +kernel) rfl rfl (Nat.le_of_ble_eq_true rfl) dM_count_2 (fun H locs hP hD hS => ?_)
  have hP : va_P (dC, dI) vwCl (wM g m1 m2 m3 m4 m5 m6 m7 m8 m9 m10 m11 m12 m13 ci mt tl rc kp ms mi ml mb mf mo my (np / 56) (np % 56) md mu fi sp sq) H := hP
  have hD : va_D A (wM g m1 m2 m3 m4 m5 m6 m7 m8 m9 m10 m11 m12 m13 ci mt tl rc kp ms mi ml mb mf mo my (np / 56) (np % 56) md mu fi sp sq) := hD
  refine lv_iconst (v := nI 0) hx hb dM_count_5 (by decide) ?_
  refine lv_istore_n (lv' := [(2, .int (nI 0)), (0, .ref g), (1, .int x)]) hx hb dM_count_6 rfl hl (by decide) rfl (fun ls hl => ?_)
  refine lv_iload_n hx hb dM_count_7 rfl (lv_at hl 2 rfl) ?_
  rcases kx_sw x 7 with hsw | ⟨j, hj, rfl⟩
  · refine lv_tableOut (tgt := 145) hx hb dM_count_8 (by omega) (by decide) ?_
    refine lv_iconst (v := (-1)) hx hb dM_count_145 (by decide) ?_
    refine kv_top (show _ = cntX tl np rc rp rl sb x from (cntX_out hsw).symm) ?_
    exact hret _ _ _ _ hP hD hS dM_count_146
  · have hj7 : j = 0 ∨ j = 1 ∨ j = 2 ∨ j = 3 ∨ j = 4 ∨ j = 5 ∨ j = 6 := by omega
    rcases hj7 with rfl | rfl | rfl | rfl | rfl | rfl | rfl
    · refine lv_tableIn (tgt := 52) (off := 44) hx hb dM_count_8 (by decide) (by decide) (by decide) (by decide) ?_
      refine lv_aload_n hx hb dM_count_52 rfl (lv_at hl 1 rfl) ?_
      refine va_get (D := (dC, dI)) (ci := 1) (v := .int (nI tl)) (C := RX1) (T := TX1) (N := 19) hx hb hts hin1 hown hK hP 0 rfl rfl 2 (by decide) lkf53 (fun _ h9 => h9) rfl dM_count_53 ?_
      refine kv_top (show _ = cntX tl np rc rp rl sb (nI 0) from rfl) ?_
      exact hret _ _ _ _ hP hD hS dM_count_56
    · refine lv_tableIn (tgt := 57) (off := 49) hx hb dM_count_8 (by decide) (by decide) (by decide) (by decide) ?_
      refine lv_aload_n hx hb dM_count_57 rfl (lv_at hl 1 rfl) ?_
      refine va_get (D := (dC, dI)) (ci := 1) (v := .int (nI rc)) (C := RX1) (T := TX1) (N := 19) hx hb hts hin1 hown hK hP 0 rfl rfl 3 (by decide) lkf66 (fun _ h9 => h9) rfl dM_count_58 ?_
      refine kv_top (show _ = cntX tl np rc rp rl sb (nI 1) from rfl) ?_
      exact hret _ _ _ _ hP hD hS dM_count_61
    · refine lv_tableIn (tgt := 62) (off := 54) hx hb dM_count_8 (by decide) (by decide) (by decide) (by decide) ?_
      refine lv_aload_n hx hb dM_count_62 rfl (lv_at hl 1 rfl) ?_
      refine va_get (D := (dC, dI)) (ci := 1) (v := .int (nI (np / 56))) (C := RX1) (T := TX1) (N := 19) hx hb hts hin1 hown hK hP 0 rfl rfl 12 (by decide) lkf56 (fun _ h9 => h9) rfl dM_count_63 ?_
      refine kv_top (show _ = cntX tl np rc rp rl sb (nI 2) from rfl) ?_
      exact hret _ _ _ _ hP hD hS dM_count_66
    · refine lv_tableIn (tgt := 67) (off := 59) hx hb dM_count_8 (by decide) (by decide) (by decide) (by decide) ?_
      refine lv_aload_n hx hb dM_count_67 rfl (lv_at hl 1 rfl) ?_
      refine va_get (D := (dC, dI)) (ci := 1) (v := .int (nI (np % 56))) (C := RX1) (T := TX1) (N := 19) hx hb hts hin1 hown hK hP 0 rfl rfl 13 (by decide) lkf59 (fun _ h9 => h9) rfl dM_count_68 ?_
      refine kv_top (show _ = cntX tl np rc rp rl sb (nI 3) from rfl) ?_
      exact hret _ _ _ _ hP hD hS dM_count_71
    · refine lv_tableIn (tgt := 72) (off := 64) hx hb dM_count_8 (by decide) (by decide) (by decide) (by decide) ?_
      refine lv_iconst (v := nI 0) hx hb dM_count_72 (by decide) ?_
      refine lv_istore_n (lv' := [(3, .int (nI 0)), (2, .int (nI 0)), (0, .ref g), (1, .int (nI 4))]) hx hb dM_count_73 rfl hl (by decide) rfl (fun ls hl => ?_)
      have hloopk : ∀ (n k : Nat), k ≤ rc → rc + 1 ≤ k + n → ∀ (H : Heap) (locs : List Loc) (ls : Array Slot), va_P (dC, dI) vwCl (wM g m1 m2 m3 m4 m5 m6 m7 m8 m9 m10 m11 m12 m13 ci mt tl rc kp ms mi ml mb mf mo my (np / 56) (np % 56) md mu fi sp sq) H → va_D A (wM g m1 m2 m3 m4 m5 m6 m7 m8 m9 m10 m11 m12 m13 ci mt tl rc kp ms mi ml mb mf mo my (np / 56) (np % 56) md mu fi sp sq) → va_S A s.heap H locs → lv_has ls 4 [(3, .int (nI k)), (2, .int (nI (cntB (isR np sb rp rl) k))), (0, .ref g)] → W p l e ({ frames := 3, cells := 0, slots := 0, locals := 64 }) s m ([.ref g, .int (nI 4)] : List Value).toArray below meth c H locs 0 0 Q (F0 m 74 ls []) := by
        intro n
        induction n with
        | zero => intro k h1 h2; exact absurd h2 (by omega)
        | succ n ih =>
          intro k hkA hkB H locs ls hP hD hS hl
          refine lv_iload_n hx hb dM_count_74 rfl (lv_at hl 0 rfl) ?_
          refine lv_aload_n hx hb dM_count_75 rfl (lv_at hl 2 rfl) ?_
          refine va_get (D := (dC, dI)) (ci := 1) (v := .int (nI rc)) (C := RX1) (T := TX1) (N := 19) hx hb hts hin1 hown hK hP 0 rfl rfl 3 (by decide) lkf66 (fun _ h9 => h9) rfl dM_count_76 ?_
          refine lv_icmp_ge (tgt := 104) hx hb dM_count_79 (by decide) (fun c_79 => ?_) (fun c_79 => ?_)
          · have c_79 := (nI_leI (by omega) (by omega)).mp c_79
            refine lv_iload_n hx hb dM_count_104 rfl (lv_at hl 1 rfl) ?_
            refine kv_top (show _ = cntX tl np rc rp rl sb (nI 4) from (by rw [show k = rc by omega]; rfl)) ?_
            exact hret _ _ _ _ hP hD hS dM_count_105
          · have c_79 := kmt (nI_leI (by omega) (by omega)).mpr c_79
            refine lv_iload_n hx hb dM_count_82 rfl (lv_at hl 1 rfl) ?_
            refine lv_aload_n hx hb dM_count_83 rfl (lv_at hl 2 rfl) ?_
            refine lv_iload_n hx hb dM_count_84 rfl (lv_at hl 0 rfl) ?_
            refine kc_vi (WR := []) (As := [.int (nI k)]) (rest := [.int (nI (cntB (isR np sb rp rl) k))]) ⟨hx, hb, hml, hown, hts⟩ (r_isRead l dC dI g m1 m2 m3 m4 m5 m6 m7 m8 m9 m10 m11 m12 m13 ci mt tl rc kp ms mi ml mb mf mo my np md mu fi sp sq sb rp rl H.size k (by omega) hsp (by omega) (hrow _ (by omega)) (hft _ (by omega))) (cwV 1 hts gM_count_M_isRead rfl rfl rfl (by decide +kernel) ⟨Nat.le_of_ble_eq_true rfl, Nat.le_of_ble_eq_true rfl⟩) hK hP hD hS hA [0, 1, 2, 3, 4, 5, 6, 7, 8, 9, 10, 11, 12, 13] [] [0] rfl rfl (by decide) (by decide) (by decide) rfl 0 1 rfl rfl rfl rfl hl.1 rfl (Nat.le_of_ble_eq_true rfl) dM_count_85 ⟨Nat.zero_le _, Nat.zero_le _⟩ (fun H locs hP hD hS => ?_)
            have hP : va_P (dC, dI) vwCl (wM g m1 m2 m3 m4 m5 m6 m7 m8 m9 m10 m11 m12 m13 ci mt tl rc kp ms mi ml mb mf mo my (np / 56) (np % 56) md mu fi sp sq) H := hP
            have hD : va_D A (wM g m1 m2 m3 m4 m5 m6 m7 m8 m9 m10 m11 m12 m13 ci mt tl rc kp ms mi ml mb mf mo my (np / 56) (np % 56) md mu fi sp sq) := hD
            refine lv_if_eq (tgt := 95) hx hb dM_count_88 (by decide) (fun c_88 => ?_) (fun c_88 => ?_)
            · have c_88 := (bI_e _).mp c_88
              refine lv_iconst (v := nI 0) hx hb dM_count_95 (by decide) ?_
              refine lv_iadd hx hb dM_count_96 ?_
              refine kv_top (show _ = nI ((cntB (isR np sb rp rl) k) + 0) from nI_add _ _) ?_
              refine kv_top (show _ = nI (cntB (isR np sb rp rl) (k + 1)) from (by rw [Nat.add_zero, cntB, if_neg (by rw [c_88]; decide)])) ?_
              refine lv_istore_n (lv' := [(2, .int (nI (cntB (isR np sb rp rl) (k + 1)))), (3, .int (nI k)), (0, .ref g)]) hx hb dM_count_97 rfl hl (by decide) rfl (fun ls hl => ?_)
              refine lv_iinc (v := nI (k + 1)) (lv' := [(3, .int (nI (k + 1))), (2, .int (nI (cntB (isR np sb rp rl) (k + 1)))), (0, .ref g)]) hx hb dM_count_98 hl (k := 1) rfl (ki_inc _) (by decide) rfl (fun ls hl => ?_)
              refine lv_goto (tgt := 74) hx hb dM_count_101 (by decide) ?_
              have hP : va_P (dC, dI) vwCl (wM g m1 m2 m3 m4 m5 m6 m7 m8 m9 m10 m11 m12 m13 ci mt tl rc kp ms mi ml mb mf mo my (np / 56) (np % 56) md mu fi sp sq) H := hP
              have hD : va_D A (wM g m1 m2 m3 m4 m5 m6 m7 m8 m9 m10 m11 m12 m13 ci mt tl rc kp ms mi ml mb mf mo my (np / 56) (np % 56) md mu fi sp sq) := hD
              exact ih (k + 1) (by omega) (by omega) _ _ _ hP hD hS (lv_sub hl [0, 1, 2] rfl)
            · have c_88 := kmt (bI_e _).mpr c_88
              have c_88 := bT c_88
              refine lv_iconst (v := nI 1) hx hb dM_count_91 (by decide) ?_
              refine lv_goto (tgt := 96) hx hb dM_count_92 (by decide) ?_
              refine lv_iadd hx hb dM_count_96 ?_
              refine kv_top (show _ = nI ((cntB (isR np sb rp rl) k) + 1) from nI_add _ _) ?_
              refine kv_top (show _ = nI (cntB (isR np sb rp rl) (k + 1)) from (by rw [cntB, if_pos (c_88)])) ?_
              refine lv_istore_n (lv' := [(2, .int (nI (cntB (isR np sb rp rl) (k + 1)))), (3, .int (nI k)), (0, .ref g)]) hx hb dM_count_97 rfl hl (by decide) rfl (fun ls hl => ?_)
              refine lv_iinc (v := nI (k + 1)) (lv' := [(3, .int (nI (k + 1))), (2, .int (nI (cntB (isR np sb rp rl) (k + 1)))), (0, .ref g)]) hx hb dM_count_98 hl (k := 1) rfl (ki_inc _) (by decide) rfl (fun ls hl => ?_)
              refine lv_goto (tgt := 74) hx hb dM_count_101 (by decide) ?_
              have hP : va_P (dC, dI) vwCl (wM g m1 m2 m3 m4 m5 m6 m7 m8 m9 m10 m11 m12 m13 ci mt tl rc kp ms mi ml mb mf mo my (np / 56) (np % 56) md mu fi sp sq) H := hP
              have hD : va_D A (wM g m1 m2 m3 m4 m5 m6 m7 m8 m9 m10 m11 m12 m13 ci mt tl rc kp ms mi ml mb mf mo my (np / 56) (np % 56) md mu fi sp sq) := hD
              exact ih (k + 1) (by omega) (by omega) _ _ _ hP hD hS (lv_sub hl [0, 1, 2] rfl)
      have hP : va_P (dC, dI) vwCl (wM g m1 m2 m3 m4 m5 m6 m7 m8 m9 m10 m11 m12 m13 ci mt tl rc kp ms mi ml mb mf mo my (np / 56) (np % 56) md mu fi sp sq) H := hP
      have hD : va_D A (wM g m1 m2 m3 m4 m5 m6 m7 m8 m9 m10 m11 m12 m13 ci mt tl rc kp ms mi ml mb mf mo my (np / 56) (np % 56) md mu fi sp sq) := hD
      exact hloopk (rc + 1) 0 (by omega) (by omega) _ _ _ hP hD hS (lv_sub hl [0, 1, 2] rfl)
    · refine lv_tableIn (tgt := 106) (off := 98) hx hb dM_count_8 (by decide) (by decide) (by decide) (by decide) ?_
      refine lv_iconst (v := nI 0) hx hb dM_count_106 (by decide) ?_
      refine lv_istore_n (lv' := [(3, .int (nI 0)), (2, .int (nI 0)), (0, .ref g), (1, .int (nI 5))]) hx hb dM_count_107 rfl hl (by decide) rfl (fun ls hl => ?_)
      have hloopk : ∀ (n k : Nat), k ≤ np / 56 → np / 56 + 1 ≤ k + n → ∀ (H : Heap) (locs : List Loc) (ls : Array Slot), va_P (dC, dI) vwCl (wM g m1 m2 m3 m4 m5 m6 m7 m8 m9 m10 m11 m12 m13 ci mt tl rc kp ms mi ml mb mf mo my (np / 56) (np % 56) md mu fi sp sq) H → va_D A (wM g m1 m2 m3 m4 m5 m6 m7 m8 m9 m10 m11 m12 m13 ci mt tl rc kp ms mi ml mb mf mo my (np / 56) (np % 56) md mu fi sp sq) → va_S A s.heap H locs → lv_has ls 4 [(3, .int (nI k)), (2, .int (nI (cntB (nG np sb) k))), (0, .ref g)] → W p l e ({ frames := 3, cells := 0, slots := 0, locals := 64 }) s m ([.ref g, .int (nI 5)] : List Value).toArray below meth c H locs 0 0 Q (F0 m 108 ls []) := by
        intro n
        induction n with
        | zero => intro k h1 h2; exact absurd h2 (by omega)
        | succ n ih =>
          intro k hkA hkB H locs ls hP hD hS hl
          refine lv_iload_n hx hb dM_count_108 rfl (lv_at hl 0 rfl) ?_
          refine lv_aload_n hx hb dM_count_109 rfl (lv_at hl 2 rfl) ?_
          refine va_get (D := (dC, dI)) (ci := 1) (v := .int (nI (np / 56))) (C := RX1) (T := TX1) (N := 19) hx hb hts hin1 hown hK hP 0 rfl rfl 12 (by decide) lkf56 (fun _ h9 => h9) rfl dM_count_110 ?_
          refine lv_icmp_ge (tgt := 138) hx hb dM_count_113 (by decide) (fun c_113 => ?_) (fun c_113 => ?_)
          · have c_113 := (nI_leI (by omega) (by omega)).mp c_113
            refine lv_iload_n hx hb dM_count_138 rfl (lv_at hl 1 rfl) ?_
            refine kv_top (show _ = cntX tl np rc rp rl sb (nI 5) from (by rw [show k = np / 56 by omega]; rfl)) ?_
            exact hret _ _ _ _ hP hD hS dM_count_139
          · have c_113 := kmt (nI_leI (by omega) (by omega)).mpr c_113
            refine lv_iload_n hx hb dM_count_116 rfl (lv_at hl 1 rfl) ?_
            refine lv_aload_n hx hb dM_count_117 rfl (lv_at hl 2 rfl) ?_
            refine lv_iload_n hx hb dM_count_118 rfl (lv_at hl 0 rfl) ?_
            refine kc_vi (WR := []) (As := [.int (nI k)]) (rest := [.int (nI (cntB (nG np sb) k))]) ⟨hx, hb, hml, hown, hts⟩ (r_isGood l dC dI g m1 m2 m3 m4 m5 m6 m7 m8 m9 m10 m11 m12 m13 ci mt tl rc kp ms mi ml mb mf mo my np md mu fi sp sq sb H.size (nI k) (by omega) hsp) (cwV 1 hts gM_count_M_isGood rfl rfl rfl (by decide +kernel) ⟨Nat.le_of_ble_eq_true rfl, Nat.le_of_ble_eq_true rfl⟩) hK hP hD hS hA [0, 1, 2, 3, 4, 5, 6, 7, 8, 9, 10, 11, 12, 13] [] [0] rfl rfl (by decide) (by decide) (by decide) rfl 0 1 rfl rfl rfl rfl hl.1 rfl (Nat.le_of_ble_eq_true rfl) dM_count_119 ⟨Nat.zero_le _, Nat.zero_le _⟩ (fun H locs hP hD hS => ?_)
            have hP : va_P (dC, dI) vwCl (wM g m1 m2 m3 m4 m5 m6 m7 m8 m9 m10 m11 m12 m13 ci mt tl rc kp ms mi ml mb mf mo my (np / 56) (np % 56) md mu fi sp sq) H := hP
            have hD : va_D A (wM g m1 m2 m3 m4 m5 m6 m7 m8 m9 m10 m11 m12 m13 ci mt tl rc kp ms mi ml mb mf mo my (np / 56) (np % 56) md mu fi sp sq) := hD
            refine kv_top (show _ = bI (gd np sb k) from by rw [goodX_n (by omega)]) ?_
            refine lv_if_eq (tgt := 129) hx hb dM_count_122 (by decide) (fun c_122 => ?_) (fun c_122 => ?_)
            · have c_122 := (bI_e _).mp c_122
              refine lv_iconst (v := nI 1) hx hb dM_count_129 (by decide) ?_
              refine lv_iadd hx hb dM_count_130 ?_
              refine kv_top (show _ = nI ((cntB (nG np sb) k) + 1) from nI_add _ _) ?_
              refine kv_top (show _ = nI (cntB (nG np sb) (k + 1)) from (by rw [cntB, if_pos (by simp [nG, c_122])])) ?_
              refine lv_istore_n (lv' := [(2, .int (nI (cntB (nG np sb) (k + 1)))), (3, .int (nI k)), (0, .ref g)]) hx hb dM_count_131 rfl hl (by decide) rfl (fun ls hl => ?_)
              refine lv_iinc (v := nI (k + 1)) (lv' := [(3, .int (nI (k + 1))), (2, .int (nI (cntB (nG np sb) (k + 1)))), (0, .ref g)]) hx hb dM_count_132 hl (k := 1) rfl (ki_inc _) (by decide) rfl (fun ls hl => ?_)
              refine lv_goto (tgt := 108) hx hb dM_count_135 (by decide) ?_
              have hP : va_P (dC, dI) vwCl (wM g m1 m2 m3 m4 m5 m6 m7 m8 m9 m10 m11 m12 m13 ci mt tl rc kp ms mi ml mb mf mo my (np / 56) (np % 56) md mu fi sp sq) H := hP
              have hD : va_D A (wM g m1 m2 m3 m4 m5 m6 m7 m8 m9 m10 m11 m12 m13 ci mt tl rc kp ms mi ml mb mf mo my (np / 56) (np % 56) md mu fi sp sq) := hD
              exact ih (k + 1) (by omega) (by omega) _ _ _ hP hD hS (lv_sub hl [0, 1, 2] rfl)
            · have c_122 := kmt (bI_e _).mpr c_122
              have c_122 := bT c_122
              refine lv_iconst (v := nI 0) hx hb dM_count_125 (by decide) ?_
              refine lv_goto (tgt := 130) hx hb dM_count_126 (by decide) ?_
              refine lv_iadd hx hb dM_count_130 ?_
              refine kv_top (show _ = nI ((cntB (nG np sb) k) + 0) from nI_add _ _) ?_
              refine kv_top (show _ = nI (cntB (nG np sb) (k + 1)) from (by rw [Nat.add_zero, cntB, if_neg (by simp [nG, c_122])])) ?_
              refine lv_istore_n (lv' := [(2, .int (nI (cntB (nG np sb) (k + 1)))), (3, .int (nI k)), (0, .ref g)]) hx hb dM_count_131 rfl hl (by decide) rfl (fun ls hl => ?_)
              refine lv_iinc (v := nI (k + 1)) (lv' := [(3, .int (nI (k + 1))), (2, .int (nI (cntB (nG np sb) (k + 1)))), (0, .ref g)]) hx hb dM_count_132 hl (k := 1) rfl (ki_inc _) (by decide) rfl (fun ls hl => ?_)
              refine lv_goto (tgt := 108) hx hb dM_count_135 (by decide) ?_
              have hP : va_P (dC, dI) vwCl (wM g m1 m2 m3 m4 m5 m6 m7 m8 m9 m10 m11 m12 m13 ci mt tl rc kp ms mi ml mb mf mo my (np / 56) (np % 56) md mu fi sp sq) H := hP
              have hD : va_D A (wM g m1 m2 m3 m4 m5 m6 m7 m8 m9 m10 m11 m12 m13 ci mt tl rc kp ms mi ml mb mf mo my (np / 56) (np % 56) md mu fi sp sq) := hD
              exact ih (k + 1) (by omega) (by omega) _ _ _ hP hD hS (lv_sub hl [0, 1, 2] rfl)
      have hP : va_P (dC, dI) vwCl (wM g m1 m2 m3 m4 m5 m6 m7 m8 m9 m10 m11 m12 m13 ci mt tl rc kp ms mi ml mb mf mo my (np / 56) (np % 56) md mu fi sp sq) H := hP
      have hD : va_D A (wM g m1 m2 m3 m4 m5 m6 m7 m8 m9 m10 m11 m12 m13 ci mt tl rc kp ms mi ml mb mf mo my (np / 56) (np % 56) md mu fi sp sq) := hD
      exact hloopk ((np / 56) + 1) 0 (by omega) (by omega) _ _ _ hP hD hS (lv_sub hl [0, 1, 2] rfl)
    · refine lv_tableIn (tgt := 140) (off := 132) hx hb dM_count_8 (by decide) (by decide) (by decide) (by decide) ?_
      refine lv_aload_n hx hb dM_count_140 rfl (lv_at hl 1 rfl) ?_
      refine kc_vi (WR := []) (As := []) (rest := []) ⟨hx, hb, hml, hown, hts⟩ (r_room l dC dI g m1 m2 m3 m4 m5 m6 m7 m8 m9 m10 m11 m12 m13 ci mt tl rc kp ms mi ml mb mf mo my np md mu fi sp sq H.size (by omega)) (cwV 0 hts gM_count_M_room rfl rfl rfl (by decide +kernel) ⟨Nat.le_of_ble_eq_true rfl, Nat.le_of_ble_eq_true rfl⟩) hK hP hD hS hA [0, 1, 2, 3, 4, 5, 6, 7, 8, 9, 10, 11, 12, 13] [] [0] rfl rfl (by decide) (by decide) (by decide) rfl 0 1 rfl rfl rfl rfl hl.1 rfl (Nat.le_of_ble_eq_true rfl) dM_count_141 ⟨Nat.zero_le _, Nat.zero_le _⟩ (fun H locs hP hD hS => ?_)
      have hP : va_P (dC, dI) vwCl (wM g m1 m2 m3 m4 m5 m6 m7 m8 m9 m10 m11 m12 m13 ci mt tl rc kp ms mi ml mb mf mo my (np / 56) (np % 56) md mu fi sp sq) H := hP
      have hD : va_D A (wM g m1 m2 m3 m4 m5 m6 m7 m8 m9 m10 m11 m12 m13 ci mt tl rc kp ms mi ml mb mf mo my (np / 56) (np % 56) md mu fi sp sq) := hD
      refine kv_top (show _ = cntX tl np rc rp rl sb (nI 6) from rfl) ?_
      exact hret _ _ _ _ hP hD hS dM_count_144
set_option maxHeartbeats 4000000 in
set_option maxRecDepth 100000 in
theorem r_readN (l : Launch) (dC : Nat → ClassId) (dI : Nat → Nat → Nat) (g m1 m2 m3 m4 m5 m6 m7 m8 m9 m10 m11 m12 m13 : Nat) (ci : ClassId) (mt : Nat → Nat) (tl rc kp : Nat) (ms mi ml mb mf mo my : Nat → Nat) (np : Nat) (md mu fi : Nat → Nat) (sp : Nat → Int32) (sq : Nat → Nat) (sb rp rl : Nat → Nat) (sz : Nat) (j : Nat) (x : Int32) (hnp : np ≤ 4480) (hsp : ∀ b, b < np / 56 → ((sp b).toInt < 0 ↔ sb b = 0)) (hrc : rc ≤ 200) (hrow : ∀ k, k < rc → rp k + rl k ≤ 4480 ∧ 6 ≤ rl k) (hft : ∀ k, k < rc → mf k = rp k / 56 ∧ mo k = (rp k + rl k - 1) / 56) (hj : j < 2 ^ 31) (hN : rOf (isR np sb rp rl) (nI j) rc 0 0 = -1) : Met l yM_read wsM_read ({ frames := 3, cells := 0, slots := 0, locals := 64 }) (kPre (dC, dI) vwCl (wM g m1 m2 m3 m4 m5 m6 m7 m8 m9 m10 m11 m12 m13 ci mt tl rc kp ms mi ml mb mf mo my (np / 56) (np % 56) md mu fi sp sq) (tM ci) sz [.ref g, .int (nI j), .int x]) (kQi (dC, dI) vwCl (wM g m1 m2 m3 m4 m5 m6 m7 m8 m9 m10 m11 m12 m13 ci mt tl rc kp ms mi ml mb mf mo my (np / 56) (np % 56) md mu fi sp sq) (tM ci) sz ((-1)) (wM g m1 m2 m3 m4 m5 m6 m7 m8 m9 m10 m11 m12 m13 ci mt tl rc kp ms mi ml mb mf mo my (np / 56) (np % 56) md mu fi sp sq)) 0 0 (va_A (wM g m1 m2 m3 m4 m5 m6 m7 m8 m9 m10 m11 m12 m13 ci mt tl rc kp ms mi ml mb mf mo my (np / 56) (np % 56) md mu fi sp sq) sz) := by
  refine kM_i (cc := cM_read) (maxL := 5) (by decide) rfl (Nat.le_of_ble_eq_true rfl) ?_
  intro p e s m below meth c A Q ls H locs S hP hK hD hS hA hl hret
  obtain ⟨hx, hb, hml, hown, hts⟩ := id S
  have hin1 : ∀ w ∈ u_ws RX1 TX1 19, w ∈ wsM_read := fun _ h => List.mem_cons_of_mem _ (List.mem_append_right _ h)
  have lkf49 := hts (.fieldLink RX1 49 "BlockTapeModel" "thrown" "I") (by decide +kernel)
  have lkf66 := hts (.fieldLink RX1 66 "BlockTapeModel" "records" "I") (by decide +kernel)
  have hl : lv_has ls 5 [(0, .ref g), (1, .int (nI j)), (2, .int x)] := hl
  have hcb := cntB_le (isR np sb rp rl)
  refine lv_aload_n hx hb dM_read_0 rfl (lv_at hl 0 rfl) ?_
  refine lv_iconst (v := nI 0) hx hb dM_read_1 (by decide) ?_
  refine va_put (D := (dC, dI)) (ci := 1) (v := .int (nI 0)) (ty := .int) (C := RX1) (T := TX1) (N := 19) hx hb hts hin1 tyX1 tyX1_ok nmX1 hown hK hP hD hS 0 rfl rfl 0 (by decide) lkf49 (fun _ h9 => h9) rfl (by decide +kernel) rfl rfl (Nat.le_of_ble_eq_true rfl) dM_read_2 (fun H locs hP hD hS => ?_)
  have hP : va_P (dC, dI) vwCl (wM g m1 m2 m3 m4 m5 m6 m7 m8 m9 m10 m11 m12 m13 ci mt tl rc kp ms mi ml mb mf mo my (np / 56) (np % 56) md mu fi sp sq) H := hP
  have hD : va_D A (wM g m1 m2 m3 m4 m5 m6 m7 m8 m9 m10 m11 m12 m13 ci mt tl rc kp ms mi ml mb mf mo my (np / 56) (np % 56) md mu fi sp sq) := hD
  refine lv_iload_n hx hb dM_read_5 rfl (lv_at hl 1 rfl) ?_
  refine lv_istore_n (lv' := [(3, .int (nI j)), (0, .ref g), (1, .int (nI j)), (2, .int x)]) hx hb dM_read_6 rfl hl (by decide) rfl (fun ls hl => ?_)
  refine lv_iconst (v := nI 0) hx hb dM_read_7 (by decide) ?_
  refine lv_istore (lv' := [(4, .int (nI 0)), (3, .int (nI j)), (0, .ref g), (1, .int (nI j)), (2, .int x)]) hx hb dM_read_8 hl (by decide) rfl (fun ls hl => ?_)
  have hloopk : ∀ (n k : Nat), k ≤ rc → rc + 1 ≤ k + n → (rOf (isR np sb rp rl) (nI j) (rc - k) k (cntB (isR np sb rp rl) k) = rOf (isR np sb rp rl) (nI j) rc 0 0) → (cntB (isR np sb rp rl) k ≤ j) → ∀ (H : Heap) (locs : List Loc) (ls : Array Slot), va_P (dC, dI) vwCl (wM g m1 m2 m3 m4 m5 m6 m7 m8 m9 m10 m11 m12 m13 ci mt tl rc kp ms mi ml mb mf mo my (np / 56) (np % 56) md mu fi sp sq) H → va_D A (wM g m1 m2 m3 m4 m5 m6 m7 m8 m9 m10 m11 m12 m13 ci mt tl rc kp ms mi ml mb mf mo my (np / 56) (np % 56) md mu fi sp sq) → va_S A s.heap H locs → lv_has ls 5 [(4, .int (nI k)), (3, .int (nI (j - cntB (isR np sb rp rl) k))), (0, .ref g), (2, .int x)] → W p l e ({ frames := 3, cells := 0, slots := 0, locals := 64 }) s m ([.ref g, .int (nI j), .int x] : List Value).toArray below meth c H locs 0 0 Q (F0 m 10 ls []) := by
    intro n
    induction n with
    | zero => intro k h1 h2; exact absurd h2 (by omega)
    | succ n ih =>
      intro k hkA hkB hres hcj H locs ls hP hD hS hl
      refine lv_iload hx hb dM_read_10 (lv_at hl 0 rfl) ?_
      refine lv_aload_n hx hb dM_read_12 rfl (lv_at hl 2 rfl) ?_
      refine va_get (D := (dC, dI)) (ci := 1) (v := .int (nI rc)) (C := RX1) (T := TX1) (N := 19) hx hb hts hin1 hown hK hP 0 rfl rfl 3 (by decide) lkf66 (fun _ h9 => h9) rfl dM_read_13 ?_
      refine lv_icmp_ge (tgt := 153) hx hb dM_read_16 (by decide) (fun c_16 => ?_) (fun c_16 => ?_)
      · have c_16 := (nI_leI (by omega) (by omega)).mp c_16
        refine lv_iconst (v := (-1)) hx hb dM_read_153 (by decide) ?_
        exact hret _ _ _ _ hP hD hS dM_read_154
      · have c_16 := kmt (nI_leI (by omega) (by omega)).mpr c_16
        refine lv_iload_n hx hb dM_read_19 rfl (lv_at hl 1 rfl) ?_
        refine lv_if_lt (tgt := 153) hx hb dM_read_20 (by decide) (fun c_20 => ?_) (fun c_20 => ?_)
        · have c_20 := (kn_lt0 (by omega)).mp c_20
          exfalso; omega
        · have c_20 := kmt (kn_lt0 (by omega)).mpr c_20
          refine lv_aload_n hx hb dM_read_23 rfl (lv_at hl 2 rfl) ?_
          refine lv_iload hx hb dM_read_24 (lv_at hl 0 rfl) ?_
          refine kc_vi (WR := []) (As := [.int (nI k)]) (rest := []) ⟨hx, hb, hml, hown, hts⟩ (r_isRead l dC dI g m1 m2 m3 m4 m5 m6 m7 m8 m9 m10 m11 m12 m13 ci mt tl rc kp ms mi ml mb mf mo my np md mu fi sp sq sb rp rl H.size k (by omega) hsp (by omega) (hrow _ (by omega)) (hft _ (by omega))) (cwV 1 hts gM_read_M_isRead rfl rfl rfl (by decide +kernel) ⟨Nat.le_of_ble_eq_true rfl, Nat.le_of_ble_eq_true rfl⟩) hK hP hD hS hA [0, 1, 2, 3, 4, 5, 6, 7, 8, 9, 10, 11, 12, 13] [] [0] rfl rfl (by decide) (by decide) (by decide) rfl 0 1 rfl rfl rfl rfl hl.1 rfl (Nat.le_of_ble_eq_true rfl) dM_read_26 ⟨Nat.zero_le _, Nat.zero_le _⟩ (fun H locs hP hD hS => ?_)
          have hP : va_P (dC, dI) vwCl (wM g m1 m2 m3 m4 m5 m6 m7 m8 m9 m10 m11 m12 m13 ci mt tl rc kp ms mi ml mb mf mo my (np / 56) (np % 56) md mu fi sp sq) H := hP
          have hD : va_D A (wM g m1 m2 m3 m4 m5 m6 m7 m8 m9 m10 m11 m12 m13 ci mt tl rc kp ms mi ml mb mf mo my (np / 56) (np % 56) md mu fi sp sq) := hD
          refine lv_if_ne (tgt := 35) hx hb dM_read_29 (by decide) (fun c_29 => ?_) (fun c_29 => ?_)
          · have c_29 := kmt (bI_e _).mpr c_29
            have c_29 := bT c_29
            rw [rOf_step (by omega), if_pos c_29] at hres
            have hcs : cntB (isR np sb rp rl) (k + 1) = cntB (isR np sb rp rl) k + 1 := by rw [cntB, if_pos c_29]
            by_cases hjk : cntB (isR np sb rp rl) k = j
            · rw [if_pos (by rw [hjk])] at hres
              refine lv_iinc (v := -1) (lv' := [(3, .int ((-1))), (4, .int (nI k)), (0, .ref g), (2, .int x)]) hx hb dM_read_35 hl (k := 1) rfl (by rw [show j - cntB (isR np sb rp rl) k = 0 by omega]; rfl) (by decide) rfl (fun ls hl => ?_)
              exact absurd (hres.trans hN) (nI_nm1 (by omega))
            · rw [if_neg (fun h9 => hjk ((nI_eq (by omega) (by omega)).mp h9)), ← hcs] at hres
              refine lv_iinc (v := nI (j - cntB (isR np sb rp rl) (k + 1))) (lv' := [(3, .int (nI (j - cntB (isR np sb rp rl) (k + 1)))), (4, .int (nI k)), (0, .ref g), (2, .int x)]) hx hb dM_read_35 hl (k := 1) rfl (by rw [hcs, show j - cntB (isR np sb rp rl) k = (j - (cntB (isR np sb rp rl) k + 1)) + 1 by omega]; exact pk_m1 _) (by decide) rfl (fun ls hl => ?_)
              have hcj : cntB (isR np sb rp rl) (k + 1) ≤ j := by omega
              refine lv_iload_n hx hb dM_read_38 rfl (lv_at hl 0 rfl) ?_
              refine lv_if_lt (tgt := 45) hx hb dM_read_39 (by decide) (fun c_39 => ?_) (fun c_39 => ?_)
              · have c_39 := (kn_lt0 (by omega)).mp c_39
                exfalso; omega
              · have c_39 := kmt (kn_lt0 (by omega)).mpr c_39
                refine lv_goto (tgt := 147) hx hb dM_read_42 (by decide) ?_
                refine lv_iinc (v := nI (k + 1)) (lv' := [(4, .int (nI (k + 1))), (3, .int (nI (j - cntB (isR np sb rp rl) (k + 1)))), (0, .ref g), (2, .int x)]) hx hb dM_read_147 hl (k := 1) rfl (ki_inc _) (by decide) rfl (fun ls hl => ?_)
                refine lv_goto (tgt := 10) hx hb dM_read_150 (by decide) ?_
                have hP : va_P (dC, dI) vwCl (wM g m1 m2 m3 m4 m5 m6 m7 m8 m9 m10 m11 m12 m13 ci mt tl rc kp ms mi ml mb mf mo my (np / 56) (np % 56) md mu fi sp sq) H := hP
                have hD : va_D A (wM g m1 m2 m3 m4 m5 m6 m7 m8 m9 m10 m11 m12 m13 ci mt tl rc kp ms mi ml mb mf mo my (np / 56) (np % 56) md mu fi sp sq) := hD
                exact ih (k + 1) (by omega) (by omega) (hres) (hcj) _ _ _ hP hD hS (lv_sub hl [0, 1, 2, 3] rfl)
          · have c_29 := (bI_e _).mp c_29
            rw [rOf_step (by omega), if_neg (by rw [c_29]; decide)] at hres
            rw [show cntB (isR np sb rp rl) k = cntB (isR np sb rp rl) (k + 1) from (by rw [cntB, if_neg (by rw [c_29]; decide)])] at hl hres hcj
            refine lv_goto (tgt := 147) hx hb dM_read_32 (by decide) ?_
            refine lv_iinc (v := nI (k + 1)) (lv' := [(4, .int (nI (k + 1))), (3, .int (nI (j - cntB (isR np sb rp rl) (k + 1)))), (0, .ref g), (2, .int x)]) hx hb dM_read_147 hl (k := 0) rfl (ki_inc _) (by decide) rfl (fun ls hl => ?_)
            refine lv_goto (tgt := 10) hx hb dM_read_150 (by decide) ?_
            have hP : va_P (dC, dI) vwCl (wM g m1 m2 m3 m4 m5 m6 m7 m8 m9 m10 m11 m12 m13 ci mt tl rc kp ms mi ml mb mf mo my (np / 56) (np % 56) md mu fi sp sq) H := hP
            have hD : va_D A (wM g m1 m2 m3 m4 m5 m6 m7 m8 m9 m10 m11 m12 m13 ci mt tl rc kp ms mi ml mb mf mo my (np / 56) (np % 56) md mu fi sp sq) := hD
            exact ih (k + 1) (by omega) (by omega) (hres) (hcj) _ _ _ hP hD hS (lv_sub hl [0, 1, 2, 3] rfl)
  have hP : va_P (dC, dI) vwCl (wM g m1 m2 m3 m4 m5 m6 m7 m8 m9 m10 m11 m12 m13 ci mt tl rc kp ms mi ml mb mf mo my (np / 56) (np % 56) md mu fi sp sq) H := hP
  have hD : va_D A (wM g m1 m2 m3 m4 m5 m6 m7 m8 m9 m10 m11 m12 m13 ci mt tl rc kp ms mi ml mb mf mo my (np / 56) (np % 56) md mu fi sp sq) := hD
  exact hloopk (rc + 1) 0 (by omega) (by omega) (rfl) (Nat.zero_le _) _ _ _ hP hD hS (lv_sub hl [0, 1, 2, 4] rfl)
set_option maxHeartbeats 4000000 in
set_option maxRecDepth 100000 in
theorem r_read (l : Launch) (dC : Nat → ClassId) (dI : Nat → Nat → Nat) (g m1 m2 m3 m4 m5 m6 m7 m8 m9 m10 m11 m12 m13 : Nat) (ci : ClassId) (mt : Nat → Nat) (tl rc kp : Nat) (ms mi ml mb mf mo my : Nat → Nat) (np : Nat) (md mu fi : Nat → Nat) (sp : Nat → Int32) (sq : Nat → Nat) (sb rp rl : Nat → Nat) (sz : Nat) (j : Nat) (x : Int32) (hnp : np ≤ 4480) (hsp : ∀ b, b < np / 56 → ((sp b).toInt < 0 ↔ sb b = 0)) (hrc : rc ≤ 200) (hrow : ∀ k, k < rc → rp k + rl k ≤ 4480 ∧ 6 ≤ rl k) (hft : ∀ k, k < rc → mf k = rp k / 56 ∧ mo k = (rp k + rl k - 1) / 56) (hj : j < 2 ^ 31) (r : Nat) (hr : r < rc) (hN : rOf (isR np sb rp rl) (nI j) rc 0 0 = nI r) (hmr : mb r + ml r ≤ 4480 ∧ ml r ≤ 300) : Met l yM_read wsM_read ({ frames := 3, cells := 0, slots := 0, locals := 64 }) (kPre (dC, dI) vwCl (wM g m1 m2 m3 m4 m5 m6 m7 m8 m9 m10 m11 m12 m13 ci mt tl rc kp ms mi ml mb mf mo my (np / 56) (np % 56) md mu fi sp sq) (tM ci) sz [.ref g, .int (nI j), .int x]) (kQi (dC, dI) vwCl (wM g m1 m2 m3 m4 m5 m6 m7 m8 m9 m10 m11 m12 m13 ci mt tl rc kp ms mi ml mb mf mo my (np / 56) (np % 56) md mu fi sp sq) (tM ci) sz (rdM ms mi ml mf mb my r x) (wM g m1 m2 m3 m4 m5 m6 m7 m8 m9 m10 m11 m12 m13 ci mt tl rc kp ms mi ml mb mf mo my (np / 56) (np % 56) md mu fi sp sq)) 0 0 (va_A (wM g m1 m2 m3 m4 m5 m6 m7 m8 m9 m10 m11 m12 m13 ci mt tl rc kp ms mi ml mb mf mo my (np / 56) (np % 56) md mu fi sp sq) sz) := by
  refine kM_i (cc := cM_read) (maxL := 5) (by decide) rfl (Nat.le_of_ble_eq_true rfl) ?_
  intro p e s m below meth c A Q ls H locs S hP hK hD hS hA hl hret
  obtain ⟨hx, hb, hml, hown, hts⟩ := id S
  have hin1 : ∀ w ∈ u_ws RX1 TX1 19, w ∈ wsM_read := fun _ h => List.mem_cons_of_mem _ (List.mem_append_right _ h)
  have lkf49 := hts (.fieldLink RX1 49 "BlockTapeModel" "thrown" "I") (by decide +kernel)
  have lkf66 := hts (.fieldLink RX1 66 "BlockTapeModel" "records" "I") (by decide +kernel)
  have lkf19 := hts (.fieldLink RX1 19 "BlockTapeModel" "length" "[I") (by decide +kernel)
  have lkf31 := hts (.fieldLink RX1 31 "BlockTapeModel" "bytes" "[I") (by decide +kernel)
  have lkf22 := hts (.fieldLink RX1 22 "BlockTapeModel" "begin" "[I") (by decide +kernel)
  have lkf13 := hts (.fieldLink RX1 13 "BlockTapeModel" "stream" "[I") (by decide +kernel)
  have lkf16 := hts (.fieldLink RX1 16 "BlockTapeModel" "index" "[I") (by decide +kernel)
  have lkf25 := hts (.fieldLink RX1 25 "BlockTapeModel" "fromBlock" "[I") (by decide +kernel)
  have hl : lv_has ls 5 [(0, .ref g), (1, .int (nI j)), (2, .int x)] := hl
  have hrw := hmr
  have hcb := cntB_le (isR np sb rp rl)
  refine lv_aload_n hx hb dM_read_0 rfl (lv_at hl 0 rfl) ?_
  refine lv_iconst (v := nI 0) hx hb dM_read_1 (by decide) ?_
  refine va_put (D := (dC, dI)) (ci := 1) (v := .int (nI 0)) (ty := .int) (C := RX1) (T := TX1) (N := 19) hx hb hts hin1 tyX1 tyX1_ok nmX1 hown hK hP hD hS 0 rfl rfl 0 (by decide) lkf49 (fun _ h9 => h9) rfl (by decide +kernel) rfl rfl (Nat.le_of_ble_eq_true rfl) dM_read_2 (fun H locs hP hD hS => ?_)
  have hP : va_P (dC, dI) vwCl (wM g m1 m2 m3 m4 m5 m6 m7 m8 m9 m10 m11 m12 m13 ci mt tl rc kp ms mi ml mb mf mo my (np / 56) (np % 56) md mu fi sp sq) H := hP
  have hD : va_D A (wM g m1 m2 m3 m4 m5 m6 m7 m8 m9 m10 m11 m12 m13 ci mt tl rc kp ms mi ml mb mf mo my (np / 56) (np % 56) md mu fi sp sq) := hD
  refine lv_iload_n hx hb dM_read_5 rfl (lv_at hl 1 rfl) ?_
  refine lv_istore_n (lv' := [(3, .int (nI j)), (0, .ref g), (1, .int (nI j)), (2, .int x)]) hx hb dM_read_6 rfl hl (by decide) rfl (fun ls hl => ?_)
  refine lv_iconst (v := nI 0) hx hb dM_read_7 (by decide) ?_
  refine lv_istore (lv' := [(4, .int (nI 0)), (3, .int (nI j)), (0, .ref g), (1, .int (nI j)), (2, .int x)]) hx hb dM_read_8 hl (by decide) rfl (fun ls hl => ?_)
  have hloopk : ∀ (n k : Nat), k ≤ rc → rc + 1 ≤ k + n → (rOf (isR np sb rp rl) (nI j) (rc - k) k (cntB (isR np sb rp rl) k) = rOf (isR np sb rp rl) (nI j) rc 0 0) → (cntB (isR np sb rp rl) k ≤ j) → ∀ (H : Heap) (locs : List Loc) (ls : Array Slot), va_P (dC, dI) vwCl (wM g m1 m2 m3 m4 m5 m6 m7 m8 m9 m10 m11 m12 m13 ci mt tl rc kp ms mi ml mb mf mo my (np / 56) (np % 56) md mu fi sp sq) H → va_D A (wM g m1 m2 m3 m4 m5 m6 m7 m8 m9 m10 m11 m12 m13 ci mt tl rc kp ms mi ml mb mf mo my (np / 56) (np % 56) md mu fi sp sq) → va_S A s.heap H locs → lv_has ls 5 [(4, .int (nI k)), (3, .int (nI (j - cntB (isR np sb rp rl) k))), (0, .ref g), (2, .int x)] → W p l e ({ frames := 3, cells := 0, slots := 0, locals := 64 }) s m ([.ref g, .int (nI j), .int x] : List Value).toArray below meth c H locs 0 0 Q (F0 m 10 ls []) := by
    intro n
    induction n with
    | zero => intro k h1 h2; exact absurd h2 (by omega)
    | succ n ih =>
      intro k hkA hkB hres hcj H locs ls hP hD hS hl
      refine lv_iload hx hb dM_read_10 (lv_at hl 0 rfl) ?_
      refine lv_aload_n hx hb dM_read_12 rfl (lv_at hl 2 rfl) ?_
      refine va_get (D := (dC, dI)) (ci := 1) (v := .int (nI rc)) (C := RX1) (T := TX1) (N := 19) hx hb hts hin1 hown hK hP 0 rfl rfl 3 (by decide) lkf66 (fun _ h9 => h9) rfl dM_read_13 ?_
      refine lv_icmp_ge (tgt := 153) hx hb dM_read_16 (by decide) (fun c_16 => ?_) (fun c_16 => ?_)
      · have c_16 := (nI_leI (by omega) (by omega)).mp c_16
        refine lv_iconst (v := (-1)) hx hb dM_read_153 (by decide) ?_
        refine kv_top (show _ = rdM ms mi ml mf mb my r x from (by rw [show rc - k = 0 by omega] at hres; exact absurd (hres.trans hN).symm (nI_nm1 (by omega)))) ?_
        exact hret _ _ _ _ hP hD hS dM_read_154
      · have c_16 := kmt (nI_leI (by omega) (by omega)).mpr c_16
        refine lv_iload_n hx hb dM_read_19 rfl (lv_at hl 1 rfl) ?_
        refine lv_if_lt (tgt := 153) hx hb dM_read_20 (by decide) (fun c_20 => ?_) (fun c_20 => ?_)
        · have c_20 := (kn_lt0 (by omega)).mp c_20
          exfalso; omega
        · have c_20 := kmt (kn_lt0 (by omega)).mpr c_20
          refine lv_aload_n hx hb dM_read_23 rfl (lv_at hl 2 rfl) ?_
          refine lv_iload hx hb dM_read_24 (lv_at hl 0 rfl) ?_
          refine kc_vi (WR := []) (As := [.int (nI k)]) (rest := []) ⟨hx, hb, hml, hown, hts⟩ (r_isRead l dC dI g m1 m2 m3 m4 m5 m6 m7 m8 m9 m10 m11 m12 m13 ci mt tl rc kp ms mi ml mb mf mo my np md mu fi sp sq sb rp rl H.size k (by omega) hsp (by omega) (hrow _ (by omega)) (hft _ (by omega))) (cwV 1 hts gM_read_M_isRead rfl rfl rfl (by decide +kernel) ⟨Nat.le_of_ble_eq_true rfl, Nat.le_of_ble_eq_true rfl⟩) hK hP hD hS hA [0, 1, 2, 3, 4, 5, 6, 7, 8, 9, 10, 11, 12, 13] [] [0] rfl rfl (by decide) (by decide) (by decide) rfl 0 1 rfl rfl rfl rfl hl.1 rfl (Nat.le_of_ble_eq_true rfl) dM_read_26 ⟨Nat.zero_le _, Nat.zero_le _⟩ (fun H locs hP hD hS => ?_)
          have hP : va_P (dC, dI) vwCl (wM g m1 m2 m3 m4 m5 m6 m7 m8 m9 m10 m11 m12 m13 ci mt tl rc kp ms mi ml mb mf mo my (np / 56) (np % 56) md mu fi sp sq) H := hP
          have hD : va_D A (wM g m1 m2 m3 m4 m5 m6 m7 m8 m9 m10 m11 m12 m13 ci mt tl rc kp ms mi ml mb mf mo my (np / 56) (np % 56) md mu fi sp sq) := hD
          refine lv_if_ne (tgt := 35) hx hb dM_read_29 (by decide) (fun c_29 => ?_) (fun c_29 => ?_)
          · have c_29 := kmt (bI_e _).mpr c_29
            have c_29 := bT c_29
            rw [rOf_step (by omega), if_pos c_29] at hres
            have hcs : cntB (isR np sb rp rl) (k + 1) = cntB (isR np sb rp rl) k + 1 := by rw [cntB, if_pos c_29]
            by_cases hjk : cntB (isR np sb rp rl) k = j
            · rw [if_pos (by rw [hjk])] at hres
              refine lv_iinc (v := -1) (lv' := [(3, .int ((-1))), (4, .int (nI k)), (0, .ref g), (2, .int x)]) hx hb dM_read_35 hl (k := 1) rfl (by rw [show j - cntB (isR np sb rp rl) k = 0 by omega]; rfl) (by decide) rfl (fun ls hl => ?_)
              have hkr : k = r := (nI_eq (by omega) (by omega)).mp (hres.trans hN)
              subst hkr
              have hmr := hrw
              refine lv_iload_n hx hb dM_read_38 rfl (lv_at hl 0 rfl) ?_
              refine lv_if_lt (tgt := 45) hx hb dM_read_39 (by decide) (fun c_39 => ?_) (fun c_39 => ?_)
              · refine lv_iload_n hx hb dM_read_45 rfl (lv_at hl 3 rfl) ?_
                rcases kx_sw x 4 with hsw | ⟨q, hq, rfl⟩
                · refine lv_tableOut (tgt := 108) hx hb dM_read_46 (by omega) (by decide) ?_
                  refine lv_iload_n hx hb dM_read_108 rfl (lv_at hl 3 rfl) ?_
                  refine lv_iconst (v := nI 3) hx hb dM_read_109 (by decide) ?_
                  refine lv_icmp_le (tgt := 145) hx hb dM_read_110 (by decide) (fun c_110 => ?_) (fun c_110 => ?_)
                  · have c_110 := (kx_le (by omega)).mp c_110
                    refine lv_iconst (v := (-1)) hx hb dM_read_145 (by decide) ?_
                    refine kv_top (show _ = rdM ms mi ml mf mb my k x from (rdM_no (by omega) (by omega)).symm) ?_
                    exact hret _ _ _ _ hP hD hS dM_read_146
                  · have c_110 := kmt (kx_le (by omega)).mpr c_110
                    obtain ⟨q, hq, rfl⟩ := kx_of (x := x) (by omega)
                    rw [nI_toInt hq] at hsw c_110
                    rw [rdM_q (by omega)] at hret
                    refine lv_iload_n hx hb dM_read_113 rfl (lv_at hl 3 rfl) ?_
                    refine lv_iconst (v := nI 4) hx hb dM_read_114 (by decide) ?_
                    refine lv_isub hx hb dM_read_115 ?_
                    refine kv_top (show _ = nI (q - 4) from pk_sub (by omega)) ?_
                    refine lv_aload_n hx hb dM_read_116 rfl (lv_at hl 2 rfl) ?_
                    refine va_get (D := (dC, dI)) (ci := 1) (v := .ref m4) (C := RX1) (T := TX1) (N := 19) hx hb hts hin1 hown hK hP 0 rfl rfl 7 (by decide) lkf19 (fun _ h9 => h9) rfl dM_read_117 ?_
                    refine lv_iload hx hb dM_read_120 (lv_at hl 1 rfl) ?_
                    refine ka_ialdN hx hb hK hP 4 0 rfl rfl (k := k) (by omega) (by decide) dM_read_122 ?_
                    refine lv_icmp_ge (tgt := 145) hx hb dM_read_123 (by decide) (fun c_123 => ?_) (fun c_123 => ?_)
                    · have c_123 := (nI_leI (by omega) (by omega)).mp c_123
                      refine lv_iconst (v := (-1)) hx hb dM_read_145 (by decide) ?_
                      refine kv_top (show _ = if q - 4 < ml k then nI (my (mb k + (q - 4))) else -1 from (by rw [if_neg (by omega)])) ?_
                      exact hret _ _ _ _ hP hD hS dM_read_146
                    · have c_123 := kmt (nI_leI (by omega) (by omega)).mpr c_123
                      refine lv_aload_n hx hb dM_read_126 rfl (lv_at hl 2 rfl) ?_
                      refine va_get (D := (dC, dI)) (ci := 1) (v := .ref m8) (C := RX1) (T := TX1) (N := 19) hx hb hts hin1 hown hK hP 0 rfl rfl 11 (by decide) lkf31 (fun _ h9 => h9) rfl dM_read_127 ?_
                      refine lv_aload_n hx hb dM_read_130 rfl (lv_at hl 2 rfl) ?_
                      refine va_get (D := (dC, dI)) (ci := 1) (v := .ref m5) (C := RX1) (T := TX1) (N := 19) hx hb hts hin1 hown hK hP 0 rfl rfl 8 (by decide) lkf22 (fun _ h9 => h9) rfl dM_read_131 ?_
                      refine lv_iload hx hb dM_read_134 (lv_at hl 1 rfl) ?_
                      refine ka_ialdN hx hb hK hP 5 0 rfl rfl (k := k) (by omega) (by decide) dM_read_136 ?_
                      refine lv_iload_n hx hb dM_read_137 rfl (lv_at hl 3 rfl) ?_
                      refine lv_iadd hx hb dM_read_138 ?_
                      refine kv_top (show _ = nI ((mb k) + q) from nI_add _ _) ?_
                      refine lv_iconst (v := nI 4) hx hb dM_read_139 (by decide) ?_
                      refine lv_isub hx hb dM_read_140 ?_
                      refine kv_top (show _ = nI (((mb k) + q) - 4) from pk_sub (by omega)) ?_
                      refine ka_ialdN hx hb hK hP 8 0 rfl rfl (k := ((mb k) + q) - 4) (by omega) (by decide) dM_read_141 ?_
                      refine lv_goto (tgt := 146) hx hb dM_read_142 (by decide) ?_
                      refine kv_top (show _ = if q - 4 < ml k then nI (my (mb k + (q - 4))) else -1 from (by rw [if_pos (by omega), show mb k + q - 4 = mb k + (q - 4) by omega])) ?_
                      exact hret _ _ _ _ hP hD hS dM_read_146
                · have hj7 : q = 0 ∨ q = 1 ∨ q = 2 ∨ q = 3 := by omega
                  rcases hj7 with rfl | rfl | rfl | rfl
                  · refine lv_tableIn (tgt := 76) (off := 30) hx hb dM_read_46 (by decide) (by decide) (by decide) (by decide) ?_
                    refine lv_aload_n hx hb dM_read_76 rfl (lv_at hl 2 rfl) ?_
                    refine va_get (D := (dC, dI)) (ci := 1) (v := .ref m2) (C := RX1) (T := TX1) (N := 19) hx hb hts hin1 hown hK hP 0 rfl rfl 5 (by decide) lkf13 (fun _ h9 => h9) rfl dM_read_77 ?_
                    refine lv_iload hx hb dM_read_80 (lv_at hl 1 rfl) ?_
                    refine ka_ialdN hx hb hK hP 2 0 rfl rfl (k := k) (by omega) (by decide) dM_read_82 ?_
                    refine kv_top (show _ = rdM ms mi ml mf mb my k (nI 0) from rfl) ?_
                    exact hret _ _ _ _ hP hD hS dM_read_83
                  · refine lv_tableIn (tgt := 84) (off := 38) hx hb dM_read_46 (by decide) (by decide) (by decide) (by decide) ?_
                    refine lv_aload_n hx hb dM_read_84 rfl (lv_at hl 2 rfl) ?_
                    refine va_get (D := (dC, dI)) (ci := 1) (v := .ref m3) (C := RX1) (T := TX1) (N := 19) hx hb hts hin1 hown hK hP 0 rfl rfl 6 (by decide) lkf16 (fun _ h9 => h9) rfl dM_read_85 ?_
                    refine lv_iload hx hb dM_read_88 (lv_at hl 1 rfl) ?_
                    refine ka_ialdN hx hb hK hP 3 0 rfl rfl (k := k) (by omega) (by decide) dM_read_90 ?_
                    refine kv_top (show _ = rdM ms mi ml mf mb my k (nI 1) from rfl) ?_
                    exact hret _ _ _ _ hP hD hS dM_read_91
                  · refine lv_tableIn (tgt := 92) (off := 46) hx hb dM_read_46 (by decide) (by decide) (by decide) (by decide) ?_
                    refine lv_aload_n hx hb dM_read_92 rfl (lv_at hl 2 rfl) ?_
                    refine va_get (D := (dC, dI)) (ci := 1) (v := .ref m4) (C := RX1) (T := TX1) (N := 19) hx hb hts hin1 hown hK hP 0 rfl rfl 7 (by decide) lkf19 (fun _ h9 => h9) rfl dM_read_93 ?_
                    refine lv_iload hx hb dM_read_96 (lv_at hl 1 rfl) ?_
                    refine ka_ialdN hx hb hK hP 4 0 rfl rfl (k := k) (by omega) (by decide) dM_read_98 ?_
                    refine kv_top (show _ = rdM ms mi ml mf mb my k (nI 2) from rfl) ?_
                    exact hret _ _ _ _ hP hD hS dM_read_99
                  · refine lv_tableIn (tgt := 100) (off := 54) hx hb dM_read_46 (by decide) (by decide) (by decide) (by decide) ?_
                    refine lv_aload_n hx hb dM_read_100 rfl (lv_at hl 2 rfl) ?_
                    refine va_get (D := (dC, dI)) (ci := 1) (v := .ref m6) (C := RX1) (T := TX1) (N := 19) hx hb hts hin1 hown hK hP 0 rfl rfl 9 (by decide) lkf25 (fun _ h9 => h9) rfl dM_read_101 ?_
                    refine lv_iload hx hb dM_read_104 (lv_at hl 1 rfl) ?_
                    refine ka_ialdN hx hb hK hP 6 0 rfl rfl (k := k) (by omega) (by decide) dM_read_106 ?_
                    refine kv_top (show _ = rdM ms mi ml mf mb my k (nI 3) from rfl) ?_
                    exact hret _ _ _ _ hP hD hS dM_read_107
              · exact absurd (by decide) c_39
            · rw [if_neg (fun h9 => hjk ((nI_eq (by omega) (by omega)).mp h9)), ← hcs] at hres
              refine lv_iinc (v := nI (j - cntB (isR np sb rp rl) (k + 1))) (lv' := [(3, .int (nI (j - cntB (isR np sb rp rl) (k + 1)))), (4, .int (nI k)), (0, .ref g), (2, .int x)]) hx hb dM_read_35 hl (k := 1) rfl (by rw [hcs, show j - cntB (isR np sb rp rl) k = (j - (cntB (isR np sb rp rl) k + 1)) + 1 by omega]; exact pk_m1 _) (by decide) rfl (fun ls hl => ?_)
              have hcj : cntB (isR np sb rp rl) (k + 1) ≤ j := by omega
              refine lv_iload_n hx hb dM_read_38 rfl (lv_at hl 0 rfl) ?_
              refine lv_if_lt (tgt := 45) hx hb dM_read_39 (by decide) (fun c_39 => ?_) (fun c_39 => ?_)
              · have c_39 := (kn_lt0 (by omega)).mp c_39
                exfalso; omega
              · have c_39 := kmt (kn_lt0 (by omega)).mpr c_39
                refine lv_goto (tgt := 147) hx hb dM_read_42 (by decide) ?_
                refine lv_iinc (v := nI (k + 1)) (lv' := [(4, .int (nI (k + 1))), (3, .int (nI (j - cntB (isR np sb rp rl) (k + 1)))), (0, .ref g), (2, .int x)]) hx hb dM_read_147 hl (k := 1) rfl (ki_inc _) (by decide) rfl (fun ls hl => ?_)
                refine lv_goto (tgt := 10) hx hb dM_read_150 (by decide) ?_
                have hP : va_P (dC, dI) vwCl (wM g m1 m2 m3 m4 m5 m6 m7 m8 m9 m10 m11 m12 m13 ci mt tl rc kp ms mi ml mb mf mo my (np / 56) (np % 56) md mu fi sp sq) H := hP
                have hD : va_D A (wM g m1 m2 m3 m4 m5 m6 m7 m8 m9 m10 m11 m12 m13 ci mt tl rc kp ms mi ml mb mf mo my (np / 56) (np % 56) md mu fi sp sq) := hD
                exact ih (k + 1) (by omega) (by omega) (hres) (hcj) _ _ _ hP hD hS (lv_sub hl [0, 1, 2, 3] rfl)
          · have c_29 := (bI_e _).mp c_29
            rw [rOf_step (by omega), if_neg (by rw [c_29]; decide)] at hres
            rw [show cntB (isR np sb rp rl) k = cntB (isR np sb rp rl) (k + 1) from (by rw [cntB, if_neg (by rw [c_29]; decide)])] at hl hres hcj
            refine lv_goto (tgt := 147) hx hb dM_read_32 (by decide) ?_
            refine lv_iinc (v := nI (k + 1)) (lv' := [(4, .int (nI (k + 1))), (3, .int (nI (j - cntB (isR np sb rp rl) (k + 1)))), (0, .ref g), (2, .int x)]) hx hb dM_read_147 hl (k := 0) rfl (ki_inc _) (by decide) rfl (fun ls hl => ?_)
            refine lv_goto (tgt := 10) hx hb dM_read_150 (by decide) ?_
            have hP : va_P (dC, dI) vwCl (wM g m1 m2 m3 m4 m5 m6 m7 m8 m9 m10 m11 m12 m13 ci mt tl rc kp ms mi ml mb mf mo my (np / 56) (np % 56) md mu fi sp sq) H := hP
            have hD : va_D A (wM g m1 m2 m3 m4 m5 m6 m7 m8 m9 m10 m11 m12 m13 ci mt tl rc kp ms mi ml mb mf mo my (np / 56) (np % 56) md mu fi sp sq) := hD
            exact ih (k + 1) (by omega) (by omega) (hres) (hcj) _ _ _ hP hD hS (lv_sub hl [0, 1, 2, 3] rfl)
  have hP : va_P (dC, dI) vwCl (wM g m1 m2 m3 m4 m5 m6 m7 m8 m9 m10 m11 m12 m13 ci mt tl rc kp ms mi ml mb mf mo my (np / 56) (np % 56) md mu fi sp sq) H := hP
  have hD : va_D A (wM g m1 m2 m3 m4 m5 m6 m7 m8 m9 m10 m11 m12 m13 ci mt tl rc kp ms mi ml mb mf mo my (np / 56) (np % 56) md mu fi sp sq) := hD
  exact hloopk (rc + 1) 0 (by omega) (by omega) (rfl) (Nat.zero_le _) _ _ _ hP hD hS (lv_sub hl [0, 1, 2, 4] rfl)
set_option maxHeartbeats 4000000 in
set_option maxRecDepth 100000 in
theorem r_readL (l : Launch) (dC : Nat → ClassId) (dI : Nat → Nat → Nat) (g m1 m2 m3 m4 m5 m6 m7 m8 m9 m10 m11 m12 m13 : Nat) (ci : ClassId) (mt : Nat → Nat) (tl rc kp : Nat) (ms mi ml mb mf mo my : Nat → Nat) (np : Nat) (md mu fi : Nat → Nat) (sp : Nat → Int32) (sq : Nat → Nat) (sz : Nat) (i : Int32) (x : Int32) (hrc : rc ≤ 200) (hi : i.toInt < 0) : Met l yM_read wsM_read ({ frames := 3, cells := 0, slots := 0, locals := 64 }) (kPre (dC, dI) vwCl (wM g m1 m2 m3 m4 m5 m6 m7 m8 m9 m10 m11 m12 m13 ci mt tl rc kp ms mi ml mb mf mo my (np / 56) (np % 56) md mu fi sp sq) (tM ci) sz [.ref g, .int i, .int x]) (kQi (dC, dI) vwCl (wM g m1 m2 m3 m4 m5 m6 m7 m8 m9 m10 m11 m12 m13 ci mt tl rc kp ms mi ml mb mf mo my (np / 56) (np % 56) md mu fi sp sq) (tM ci) sz ((-1)) (wM g m1 m2 m3 m4 m5 m6 m7 m8 m9 m10 m11 m12 m13 ci mt tl rc kp ms mi ml mb mf mo my (np / 56) (np % 56) md mu fi sp sq)) 0 0 (va_A (wM g m1 m2 m3 m4 m5 m6 m7 m8 m9 m10 m11 m12 m13 ci mt tl rc kp ms mi ml mb mf mo my (np / 56) (np % 56) md mu fi sp sq) sz) := by
  refine kM_i (cc := cM_read) (maxL := 5) (by decide) rfl (Nat.le_of_ble_eq_true rfl) ?_
  intro p e s m below meth c A Q ls H locs S hP hK hD hS hA hl hret
  obtain ⟨hx, hb, hml, hown, hts⟩ := id S
  have hin1 : ∀ w ∈ u_ws RX1 TX1 19, w ∈ wsM_read := fun _ h => List.mem_cons_of_mem _ (List.mem_append_right _ h)
  have lkf49 := hts (.fieldLink RX1 49 "BlockTapeModel" "thrown" "I") (by decide +kernel)
  have lkf66 := hts (.fieldLink RX1 66 "BlockTapeModel" "records" "I") (by decide +kernel)
  have hl : lv_has ls 5 [(0, .ref g), (1, .int i), (2, .int x)] := hl
  refine lv_aload_n hx hb dM_read_0 rfl (lv_at hl 0 rfl) ?_
  refine lv_iconst (v := nI 0) hx hb dM_read_1 (by decide) ?_
  refine va_put (D := (dC, dI)) (ci := 1) (v := .int (nI 0)) (ty := .int) (C := RX1) (T := TX1) (N := 19) hx hb hts hin1 tyX1 tyX1_ok nmX1 hown hK hP hD hS 0 rfl rfl 0 (by decide) lkf49 (fun _ h9 => h9) rfl (by decide +kernel) rfl rfl (Nat.le_of_ble_eq_true rfl) dM_read_2 (fun H locs hP hD hS => ?_)
  have hP : va_P (dC, dI) vwCl (wM g m1 m2 m3 m4 m5 m6 m7 m8 m9 m10 m11 m12 m13 ci mt tl rc kp ms mi ml mb mf mo my (np / 56) (np % 56) md mu fi sp sq) H := hP
  have hD : va_D A (wM g m1 m2 m3 m4 m5 m6 m7 m8 m9 m10 m11 m12 m13 ci mt tl rc kp ms mi ml mb mf mo my (np / 56) (np % 56) md mu fi sp sq) := hD
  refine lv_iload_n hx hb dM_read_5 rfl (lv_at hl 1 rfl) ?_
  refine lv_istore_n (lv' := [(3, .int i), (0, .ref g), (1, .int i), (2, .int x)]) hx hb dM_read_6 rfl hl (by decide) rfl (fun ls hl => ?_)
  refine lv_iconst (v := nI 0) hx hb dM_read_7 (by decide) ?_
  refine lv_istore (lv' := [(4, .int (nI 0)), (3, .int i), (0, .ref g), (1, .int i), (2, .int x)]) hx hb dM_read_8 hl (by decide) rfl (fun ls hl => ?_)
  have hloopk : ∀ (n k : Nat), k ≤ 0 → 0 + 1 ≤ k + n → ∀ (H : Heap) (locs : List Loc) (ls : Array Slot), va_P (dC, dI) vwCl (wM g m1 m2 m3 m4 m5 m6 m7 m8 m9 m10 m11 m12 m13 ci mt tl rc kp ms mi ml mb mf mo my (np / 56) (np % 56) md mu fi sp sq) H → va_D A (wM g m1 m2 m3 m4 m5 m6 m7 m8 m9 m10 m11 m12 m13 ci mt tl rc kp ms mi ml mb mf mo my (np / 56) (np % 56) md mu fi sp sq) → va_S A s.heap H locs → lv_has ls 5 [(4, .int (nI k)), (3, .int i), (0, .ref g), (2, .int x)] → W p l e ({ frames := 3, cells := 0, slots := 0, locals := 64 }) s m ([.ref g, .int i, .int x] : List Value).toArray below meth c H locs 0 0 Q (F0 m 10 ls []) := by
    intro n
    induction n with
    | zero => intro k h1 h2; exact absurd h2 (by omega)
    | succ n ih =>
      intro k hkA hkB H locs ls hP hD hS hl
      refine lv_iload hx hb dM_read_10 (lv_at hl 0 rfl) ?_
      refine lv_aload_n hx hb dM_read_12 rfl (lv_at hl 2 rfl) ?_
      refine va_get (D := (dC, dI)) (ci := 1) (v := .int (nI rc)) (C := RX1) (T := TX1) (N := 19) hx hb hts hin1 hown hK hP 0 rfl rfl 3 (by decide) lkf66 (fun _ h9 => h9) rfl dM_read_13 ?_
      refine lv_icmp_ge (tgt := 153) hx hb dM_read_16 (by decide) (fun c_16 => ?_) (fun c_16 => ?_)
      · have c_16 := (nI_leI (by omega) (by omega)).mp c_16
        refine lv_iconst (v := (-1)) hx hb dM_read_153 (by decide) ?_
        exact hret _ _ _ _ hP hD hS dM_read_154
      · have c_16 := kmt (nI_leI (by omega) (by omega)).mpr c_16
        refine lv_iload_n hx hb dM_read_19 rfl (lv_at hl 1 rfl) ?_
        refine lv_if_lt (tgt := 153) hx hb dM_read_20 (by decide) (fun c_20 => ?_) (fun c_20 => ?_)
        · have c_20 := (kx_lt0).mp c_20
          refine lv_iconst (v := (-1)) hx hb dM_read_153 (by decide) ?_
          exact hret _ _ _ _ hP hD hS dM_read_154
        · have c_20 := kmt (kx_lt0).mpr c_20
          exfalso; omega
  have hP : va_P (dC, dI) vwCl (wM g m1 m2 m3 m4 m5 m6 m7 m8 m9 m10 m11 m12 m13 ci mt tl rc kp ms mi ml mb mf mo my (np / 56) (np % 56) md mu fi sp sq) H := hP
  have hD : va_D A (wM g m1 m2 m3 m4 m5 m6 m7 m8 m9 m10 m11 m12 m13 ci mt tl rc kp ms mi ml mb mf mo my (np / 56) (np % 56) md mu fi sp sq) := hD
  exact hloopk (0 + 1) 0 (by omega) (by omega) _ _ _ hP hD hS (lv_sub hl [0, 1, 2, 4] rfl)
end
section
abbrev MIx : Type := Nat × Nat × Nat × Nat × Nat × Nat × Nat × Nat × Nat × Nat × Nat × Nat × Nat × ClassId
set_option maxHeartbeats 4000000 in
set_option maxRecDepth 100000 in
theorem r_init (l : Launch) (dC : Nat → ClassId) (dI : Nat → Nat → Nat) (g : Nat) (sz : Nat) : Met l yM_init wsM_init ({ frames := 1, cells := 13, slots := 10780, locals := 12 }) (kPre (dC, dI) vwCl ([(g, .inr (1, [.int 0, .null, .int 0, .int 0, .int 0, .null, .null, .null, .null, .null, .null, .null, .int 0, .int 0, .null, .null, .null, .null, .null]))]) [] sz [.ref g]) (kQc (dC, dI) vwCl ([(g, .inr (1, [.int 0, .null, .int 0, .int 0, .int 0, .null, .null, .null, .null, .null, .null, .null, .int 0, .int 0, .null, .null, .null, .null, .null]))]) sz (fun u : MIx => wM g u.1 u.2.1 u.2.2.1 u.2.2.2.1 u.2.2.2.2.1 u.2.2.2.2.2.1 u.2.2.2.2.2.2.1 u.2.2.2.2.2.2.2.1 u.2.2.2.2.2.2.2.2.1 u.2.2.2.2.2.2.2.2.2.1 u.2.2.2.2.2.2.2.2.2.2.1 u.2.2.2.2.2.2.2.2.2.2.2.1 u.2.2.2.2.2.2.2.2.2.2.2.2.1 u.2.2.2.2.2.2.2.2.2.2.2.2.2 (fun _ => 0) 0 0 0 (fun _ => 0) (fun _ => 0) (fun _ => 0) (fun _ => 0) (fun _ => 0) (fun _ => 0) (fun _ => 0) 0 0 (fun _ => 0) (fun _ => 0) (fun _ => 0) (fun _ => 0) (fun _ => 0)) (fun u => tM u.2.2.2.2.2.2.2.2.2.2.2.2.2)) 13 10780 (va_A ([(g, .inr (1, [.int 0, .null, .int 0, .int 0, .int 0, .null, .null, .null, .null, .null, .null, .null, .int 0, .int 0, .null, .null, .null, .null, .null]))]) sz) := by
  refine kM_c (cc := cM_init) (maxL := 1) (by decide) rfl rfl (Nat.le_of_ble_eq_true rfl) ?_
  intro p e s m below meth c A Q ls H locs S hin hP hK hD hS hA hl hret
  obtain ⟨hx, hb, hml, hown, hts⟩ := id S
  have hin1 : ∀ w ∈ u_ws RX1 TX1 19, w ∈ wsM_init := fun _ h => List.mem_cons_of_mem _ (List.mem_append_right _ h)
  have lkf7 := hts (.fieldLink RX1 7 "BlockTapeModel" "tape" "[I") (by decide +kernel)
  have lkf13 := hts (.fieldLink RX1 13 "BlockTapeModel" "stream" "[I") (by decide +kernel)
  have lkf16 := hts (.fieldLink RX1 16 "BlockTapeModel" "index" "[I") (by decide +kernel)
  have lkf19 := hts (.fieldLink RX1 19 "BlockTapeModel" "length" "[I") (by decide +kernel)
  have lkf22 := hts (.fieldLink RX1 22 "BlockTapeModel" "begin" "[I") (by decide +kernel)
  have lkf25 := hts (.fieldLink RX1 25 "BlockTapeModel" "fromBlock" "[I") (by decide +kernel)
  have lkf28 := hts (.fieldLink RX1 28 "BlockTapeModel" "toBlock" "[I") (by decide +kernel)
  have lkf31 := hts (.fieldLink RX1 31 "BlockTapeModel" "bytes" "[I") (by decide +kernel)
  have lkf34 := hts (.fieldLink RX1 34 "BlockTapeModel" "data" "[I") (by decide +kernel)
  have lkf37 := hts (.fieldLink RX1 37 "BlockTapeModel" "uses" "[I") (by decide +kernel)
  have lkf40 := hts (.fieldLink RX1 40 "BlockTapeModel" "first" "[I") (by decide +kernel)
  have lkf43 := hts (.fieldLink RX1 43 "BlockTapeModel" "spoilt" "[I") (by decide +kernel)
  have lkf46 := hts (.fieldLink RX1 46 "BlockTapeModel" "spoiltBy" "[I") (by decide +kernel)
  have hl : lv_has ls 1 [(0, .ref g)] := hl
  refine lv_aload_n hx hb dM_init_0 rfl (lv_at hl 0 rfl) ?_
  refine W.objInit hx hb hown (hts (.methodLink RX1 1 objectInit) (by decide +kernel)) (hts (.instanceMethod objectInit) (by decide +kernel)) (hts _ (List.mem_of_getElem? (i := 17) rfl)) rfl (by rw [hml]; exact hl.1) rfl dM_init_1 (Nat.le_of_ble_eq_true rfl) (Nat.le_of_ble_eq_true rfl) ?_
  refine W.eq (g2 := F0 m 4 ls []) rfl ?_
  refine lv_aload_n hx hb dM_init_4 rfl (lv_at hl 0 rfl) ?_
  refine lv_sipush (v := nI 300) hx hb dM_init_5 (by decide) ?_
  refine va_newa (atype := .int) (ty := .int) (N' := 300) (a0 := (300, .inl (fun _ => 0))) (n := nI 300) hx hb (hts (.arrayClass .int) (by decide +kernel)) rfl hK hP hD hS hA (fun _ => rfl) (nI_pos (by decide)) (nI_clamp (by decide)) (Nat.le_of_ble_eq_true rfl) (Nat.le_of_ble_eq_true rfl) (Nat.le_of_ble_eq_true rfl) dM_init_8 (fun m1 c1 H hK hP hD hS => ?_)
  refine W.widen (k := 1) (n := 300) (Nat.le_of_ble_eq_true rfl) (Nat.le_of_ble_eq_true rfl) ?_
  have hP : va_P (dC, dI) vwCl ([(g, .inr (1, [.int 0, .null, .int 0, .int 0, .int 0, .null, .null, .null, .null, .null, .null, .null, .int 0, .int 0, .null, .null, .null, .null, .null])), (m1, .inl (c1, 300, .inl (fun _ => 0)))]) H := hP
  have hD : va_D A ([(g, .inr (1, [.int 0, .null, .int 0, .int 0, .int 0, .null, .null, .null, .null, .null, .null, .null, .int 0, .int 0, .null, .null, .null, .null, .null])), (m1, .inl (c1, 300, .inl (fun _ => 0)))]) := hD
  refine va_putF (D := (dC, dI)) (ci := 1) (v := .ref m1) (ty := .array .int) (C := RX1) (T := TX1) (N := 19) hx hb hts hin1 tyX1 tyX1_ok nmX1 hown hK hP hD hS 0 rfl rfl 1 (by decide) lkf7 (fun _ h9 => h9) rfl hin rfl (by decide +kernel) rfl rfl (Nat.le_of_ble_eq_true rfl) dM_init_10 (fun H locs hP hD hS => ?_)
  have hP : va_P (dC, dI) vwCl ([(g, .inr (1, [.int 0, .ref m1, .int 0, .int 0, .int 0, .null, .null, .null, .null, .null, .null, .null, .int 0, .int 0, .null, .null, .null, .null, .null])), (m1, .inl (c1, 300, .inl (fun _ => 0)))]) H := hP
  have hD : va_D A ([(g, .inr (1, [.int 0, .ref m1, .int 0, .int 0, .int 0, .null, .null, .null, .null, .null, .null, .null, .int 0, .int 0, .null, .null, .null, .null, .null])), (m1, .inl (c1, 300, .inl (fun _ => 0)))]) := hD
  refine lv_aload_n hx hb dM_init_13 rfl (lv_at hl 0 rfl) ?_
  refine lv_sipush (v := nI 200) hx hb dM_init_14 (by decide) ?_
  refine va_newa (atype := .int) (ty := .int) (N' := 200) (a0 := (200, .inl (fun _ => 0))) (n := nI 200) hx hb (hts (.arrayClass .int) (by decide +kernel)) rfl hK hP hD hS hA (fun _ => rfl) (nI_pos (by decide)) (nI_clamp (by decide)) (Nat.le_of_ble_eq_true rfl) (Nat.le_of_ble_eq_true rfl) (Nat.le_of_ble_eq_true rfl) dM_init_17 (fun m2 c2 H hK hP hD hS => ?_)
  refine W.widen (k := 2) (n := 500) (Nat.le_of_ble_eq_true rfl) (Nat.le_of_ble_eq_true rfl) ?_
  have hP : va_P (dC, dI) vwCl ([(g, .inr (1, [.int 0, .ref m1, .int 0, .int 0, .int 0, .null, .null, .null, .null, .null, .null, .null, .int 0, .int 0, .null, .null, .null, .null, .null])), (m1, .inl (c1, 300, .inl (fun _ => 0))), (m2, .inl (c2, 200, .inl (fun _ => 0)))]) H := hP
  have hD : va_D A ([(g, .inr (1, [.int 0, .ref m1, .int 0, .int 0, .int 0, .null, .null, .null, .null, .null, .null, .null, .int 0, .int 0, .null, .null, .null, .null, .null])), (m1, .inl (c1, 300, .inl (fun _ => 0))), (m2, .inl (c2, 200, .inl (fun _ => 0)))]) := hD
  refine va_putF (D := (dC, dI)) (ci := 1) (v := .ref m2) (ty := .array .int) (C := RX1) (T := TX1) (N := 19) hx hb hts hin1 tyX1 tyX1_ok nmX1 hown hK hP hD hS 0 rfl rfl 5 (by decide) lkf13 (fun _ h9 => h9) rfl hin rfl (by decide +kernel) rfl rfl (Nat.le_of_ble_eq_true rfl) dM_init_19 (fun H locs hP hD hS => ?_)
  have hP : va_P (dC, dI) vwCl ([(g, .inr (1, [.int 0, .ref m1, .int 0, .int 0, .int 0, .ref m2, .null, .null, .null, .null, .null, .null, .int 0, .int 0, .null, .null, .null, .null, .null])), (m1, .inl (c1, 300, .inl (fun _ => 0))), (m2, .inl (c2, 200, .inl (fun _ => 0)))]) H := hP
  have hD : va_D A ([(g, .inr (1, [.int 0, .ref m1, .int 0, .int 0, .int 0, .ref m2, .null, .null, .null, .null, .null, .null, .int 0, .int 0, .null, .null, .null, .null, .null])), (m1, .inl (c1, 300, .inl (fun _ => 0))), (m2, .inl (c2, 200, .inl (fun _ => 0)))]) := hD
  refine lv_aload_n hx hb dM_init_22 rfl (lv_at hl 0 rfl) ?_
  refine lv_sipush (v := nI 200) hx hb dM_init_23 (by decide) ?_
  refine va_newa (atype := .int) (ty := .int) (N' := 200) (a0 := (200, .inl (fun _ => 0))) (n := nI 200) hx hb (hts (.arrayClass .int) (by decide +kernel)) rfl hK hP hD hS hA (fun _ => rfl) (nI_pos (by decide)) (nI_clamp (by decide)) (Nat.le_of_ble_eq_true rfl) (Nat.le_of_ble_eq_true rfl) (Nat.le_of_ble_eq_true rfl) dM_init_26 (fun m3 c3 H hK hP hD hS => ?_)
  refine W.widen (k := 3) (n := 700) (Nat.le_of_ble_eq_true rfl) (Nat.le_of_ble_eq_true rfl) ?_
  have hP : va_P (dC, dI) vwCl ([(g, .inr (1, [.int 0, .ref m1, .int 0, .int 0, .int 0, .ref m2, .null, .null, .null, .null, .null, .null, .int 0, .int 0, .null, .null, .null, .null, .null])), (m1, .inl (c1, 300, .inl (fun _ => 0))), (m2, .inl (c2, 200, .inl (fun _ => 0))), (m3, .inl (c3, 200, .inl (fun _ => 0)))]) H := hP
  have hD : va_D A ([(g, .inr (1, [.int 0, .ref m1, .int 0, .int 0, .int 0, .ref m2, .null, .null, .null, .null, .null, .null, .int 0, .int 0, .null, .null, .null, .null, .null])), (m1, .inl (c1, 300, .inl (fun _ => 0))), (m2, .inl (c2, 200, .inl (fun _ => 0))), (m3, .inl (c3, 200, .inl (fun _ => 0)))]) := hD
  refine va_putF (D := (dC, dI)) (ci := 1) (v := .ref m3) (ty := .array .int) (C := RX1) (T := TX1) (N := 19) hx hb hts hin1 tyX1 tyX1_ok nmX1 hown hK hP hD hS 0 rfl rfl 6 (by decide) lkf16 (fun _ h9 => h9) rfl hin rfl (by decide +kernel) rfl rfl (Nat.le_of_ble_eq_true rfl) dM_init_28 (fun H locs hP hD hS => ?_)
  have hP : va_P (dC, dI) vwCl ([(g, .inr (1, [.int 0, .ref m1, .int 0, .int 0, .int 0, .ref m2, .ref m3, .null, .null, .null, .null, .null, .int 0, .int 0, .null, .null, .null, .null, .null])), (m1, .inl (c1, 300, .inl (fun _ => 0))), (m2, .inl (c2, 200, .inl (fun _ => 0))), (m3, .inl (c3, 200, .inl (fun _ => 0)))]) H := hP
  have hD : va_D A ([(g, .inr (1, [.int 0, .ref m1, .int 0, .int 0, .int 0, .ref m2, .ref m3, .null, .null, .null, .null, .null, .int 0, .int 0, .null, .null, .null, .null, .null])), (m1, .inl (c1, 300, .inl (fun _ => 0))), (m2, .inl (c2, 200, .inl (fun _ => 0))), (m3, .inl (c3, 200, .inl (fun _ => 0)))]) := hD
  refine lv_aload_n hx hb dM_init_31 rfl (lv_at hl 0 rfl) ?_
  refine lv_sipush (v := nI 200) hx hb dM_init_32 (by decide) ?_
  refine va_newa (atype := .int) (ty := .int) (N' := 200) (a0 := (200, .inl (fun _ => 0))) (n := nI 200) hx hb (hts (.arrayClass .int) (by decide +kernel)) rfl hK hP hD hS hA (fun _ => rfl) (nI_pos (by decide)) (nI_clamp (by decide)) (Nat.le_of_ble_eq_true rfl) (Nat.le_of_ble_eq_true rfl) (Nat.le_of_ble_eq_true rfl) dM_init_35 (fun m4 c4 H hK hP hD hS => ?_)
  refine W.widen (k := 4) (n := 900) (Nat.le_of_ble_eq_true rfl) (Nat.le_of_ble_eq_true rfl) ?_
  have hP : va_P (dC, dI) vwCl ([(g, .inr (1, [.int 0, .ref m1, .int 0, .int 0, .int 0, .ref m2, .ref m3, .null, .null, .null, .null, .null, .int 0, .int 0, .null, .null, .null, .null, .null])), (m1, .inl (c1, 300, .inl (fun _ => 0))), (m2, .inl (c2, 200, .inl (fun _ => 0))), (m3, .inl (c3, 200, .inl (fun _ => 0))), (m4, .inl (c4, 200, .inl (fun _ => 0)))]) H := hP
  have hD : va_D A ([(g, .inr (1, [.int 0, .ref m1, .int 0, .int 0, .int 0, .ref m2, .ref m3, .null, .null, .null, .null, .null, .int 0, .int 0, .null, .null, .null, .null, .null])), (m1, .inl (c1, 300, .inl (fun _ => 0))), (m2, .inl (c2, 200, .inl (fun _ => 0))), (m3, .inl (c3, 200, .inl (fun _ => 0))), (m4, .inl (c4, 200, .inl (fun _ => 0)))]) := hD
  refine va_putF (D := (dC, dI)) (ci := 1) (v := .ref m4) (ty := .array .int) (C := RX1) (T := TX1) (N := 19) hx hb hts hin1 tyX1 tyX1_ok nmX1 hown hK hP hD hS 0 rfl rfl 7 (by decide) lkf19 (fun _ h9 => h9) rfl hin rfl (by decide +kernel) rfl rfl (Nat.le_of_ble_eq_true rfl) dM_init_37 (fun H locs hP hD hS => ?_)
  have hP : va_P (dC, dI) vwCl ([(g, .inr (1, [.int 0, .ref m1, .int 0, .int 0, .int 0, .ref m2, .ref m3, .ref m4, .null, .null, .null, .null, .int 0, .int 0, .null, .null, .null, .null, .null])), (m1, .inl (c1, 300, .inl (fun _ => 0))), (m2, .inl (c2, 200, .inl (fun _ => 0))), (m3, .inl (c3, 200, .inl (fun _ => 0))), (m4, .inl (c4, 200, .inl (fun _ => 0)))]) H := hP
  have hD : va_D A ([(g, .inr (1, [.int 0, .ref m1, .int 0, .int 0, .int 0, .ref m2, .ref m3, .ref m4, .null, .null, .null, .null, .int 0, .int 0, .null, .null, .null, .null, .null])), (m1, .inl (c1, 300, .inl (fun _ => 0))), (m2, .inl (c2, 200, .inl (fun _ => 0))), (m3, .inl (c3, 200, .inl (fun _ => 0))), (m4, .inl (c4, 200, .inl (fun _ => 0)))]) := hD
  refine lv_aload_n hx hb dM_init_40 rfl (lv_at hl 0 rfl) ?_
  refine lv_sipush (v := nI 200) hx hb dM_init_41 (by decide) ?_
  refine va_newa (atype := .int) (ty := .int) (N' := 200) (a0 := (200, .inl (fun _ => 0))) (n := nI 200) hx hb (hts (.arrayClass .int) (by decide +kernel)) rfl hK hP hD hS hA (fun _ => rfl) (nI_pos (by decide)) (nI_clamp (by decide)) (Nat.le_of_ble_eq_true rfl) (Nat.le_of_ble_eq_true rfl) (Nat.le_of_ble_eq_true rfl) dM_init_44 (fun m5 c5 H hK hP hD hS => ?_)
  refine W.widen (k := 5) (n := 1100) (Nat.le_of_ble_eq_true rfl) (Nat.le_of_ble_eq_true rfl) ?_
  have hP : va_P (dC, dI) vwCl ([(g, .inr (1, [.int 0, .ref m1, .int 0, .int 0, .int 0, .ref m2, .ref m3, .ref m4, .null, .null, .null, .null, .int 0, .int 0, .null, .null, .null, .null, .null])), (m1, .inl (c1, 300, .inl (fun _ => 0))), (m2, .inl (c2, 200, .inl (fun _ => 0))), (m3, .inl (c3, 200, .inl (fun _ => 0))), (m4, .inl (c4, 200, .inl (fun _ => 0))), (m5, .inl (c5, 200, .inl (fun _ => 0)))]) H := hP
  have hD : va_D A ([(g, .inr (1, [.int 0, .ref m1, .int 0, .int 0, .int 0, .ref m2, .ref m3, .ref m4, .null, .null, .null, .null, .int 0, .int 0, .null, .null, .null, .null, .null])), (m1, .inl (c1, 300, .inl (fun _ => 0))), (m2, .inl (c2, 200, .inl (fun _ => 0))), (m3, .inl (c3, 200, .inl (fun _ => 0))), (m4, .inl (c4, 200, .inl (fun _ => 0))), (m5, .inl (c5, 200, .inl (fun _ => 0)))]) := hD
  refine va_putF (D := (dC, dI)) (ci := 1) (v := .ref m5) (ty := .array .int) (C := RX1) (T := TX1) (N := 19) hx hb hts hin1 tyX1 tyX1_ok nmX1 hown hK hP hD hS 0 rfl rfl 8 (by decide) lkf22 (fun _ h9 => h9) rfl hin rfl (by decide +kernel) rfl rfl (Nat.le_of_ble_eq_true rfl) dM_init_46 (fun H locs hP hD hS => ?_)
  have hP : va_P (dC, dI) vwCl ([(g, .inr (1, [.int 0, .ref m1, .int 0, .int 0, .int 0, .ref m2, .ref m3, .ref m4, .ref m5, .null, .null, .null, .int 0, .int 0, .null, .null, .null, .null, .null])), (m1, .inl (c1, 300, .inl (fun _ => 0))), (m2, .inl (c2, 200, .inl (fun _ => 0))), (m3, .inl (c3, 200, .inl (fun _ => 0))), (m4, .inl (c4, 200, .inl (fun _ => 0))), (m5, .inl (c5, 200, .inl (fun _ => 0)))]) H := hP
  have hD : va_D A ([(g, .inr (1, [.int 0, .ref m1, .int 0, .int 0, .int 0, .ref m2, .ref m3, .ref m4, .ref m5, .null, .null, .null, .int 0, .int 0, .null, .null, .null, .null, .null])), (m1, .inl (c1, 300, .inl (fun _ => 0))), (m2, .inl (c2, 200, .inl (fun _ => 0))), (m3, .inl (c3, 200, .inl (fun _ => 0))), (m4, .inl (c4, 200, .inl (fun _ => 0))), (m5, .inl (c5, 200, .inl (fun _ => 0)))]) := hD
  refine lv_aload_n hx hb dM_init_49 rfl (lv_at hl 0 rfl) ?_
  refine lv_sipush (v := nI 200) hx hb dM_init_50 (by decide) ?_
  refine va_newa (atype := .int) (ty := .int) (N' := 200) (a0 := (200, .inl (fun _ => 0))) (n := nI 200) hx hb (hts (.arrayClass .int) (by decide +kernel)) rfl hK hP hD hS hA (fun _ => rfl) (nI_pos (by decide)) (nI_clamp (by decide)) (Nat.le_of_ble_eq_true rfl) (Nat.le_of_ble_eq_true rfl) (Nat.le_of_ble_eq_true rfl) dM_init_53 (fun m6 c6 H hK hP hD hS => ?_)
  refine W.widen (k := 6) (n := 1300) (Nat.le_of_ble_eq_true rfl) (Nat.le_of_ble_eq_true rfl) ?_
  have hP : va_P (dC, dI) vwCl ([(g, .inr (1, [.int 0, .ref m1, .int 0, .int 0, .int 0, .ref m2, .ref m3, .ref m4, .ref m5, .null, .null, .null, .int 0, .int 0, .null, .null, .null, .null, .null])), (m1, .inl (c1, 300, .inl (fun _ => 0))), (m2, .inl (c2, 200, .inl (fun _ => 0))), (m3, .inl (c3, 200, .inl (fun _ => 0))), (m4, .inl (c4, 200, .inl (fun _ => 0))), (m5, .inl (c5, 200, .inl (fun _ => 0))), (m6, .inl (c6, 200, .inl (fun _ => 0)))]) H := hP
  have hD : va_D A ([(g, .inr (1, [.int 0, .ref m1, .int 0, .int 0, .int 0, .ref m2, .ref m3, .ref m4, .ref m5, .null, .null, .null, .int 0, .int 0, .null, .null, .null, .null, .null])), (m1, .inl (c1, 300, .inl (fun _ => 0))), (m2, .inl (c2, 200, .inl (fun _ => 0))), (m3, .inl (c3, 200, .inl (fun _ => 0))), (m4, .inl (c4, 200, .inl (fun _ => 0))), (m5, .inl (c5, 200, .inl (fun _ => 0))), (m6, .inl (c6, 200, .inl (fun _ => 0)))]) := hD
  refine va_putF (D := (dC, dI)) (ci := 1) (v := .ref m6) (ty := .array .int) (C := RX1) (T := TX1) (N := 19) hx hb hts hin1 tyX1 tyX1_ok nmX1 hown hK hP hD hS 0 rfl rfl 9 (by decide) lkf25 (fun _ h9 => h9) rfl hin rfl (by decide +kernel) rfl rfl (Nat.le_of_ble_eq_true rfl) dM_init_55 (fun H locs hP hD hS => ?_)
  have hP : va_P (dC, dI) vwCl ([(g, .inr (1, [.int 0, .ref m1, .int 0, .int 0, .int 0, .ref m2, .ref m3, .ref m4, .ref m5, .ref m6, .null, .null, .int 0, .int 0, .null, .null, .null, .null, .null])), (m1, .inl (c1, 300, .inl (fun _ => 0))), (m2, .inl (c2, 200, .inl (fun _ => 0))), (m3, .inl (c3, 200, .inl (fun _ => 0))), (m4, .inl (c4, 200, .inl (fun _ => 0))), (m5, .inl (c5, 200, .inl (fun _ => 0))), (m6, .inl (c6, 200, .inl (fun _ => 0)))]) H := hP
  have hD : va_D A ([(g, .inr (1, [.int 0, .ref m1, .int 0, .int 0, .int 0, .ref m2, .ref m3, .ref m4, .ref m5, .ref m6, .null, .null, .int 0, .int 0, .null, .null, .null, .null, .null])), (m1, .inl (c1, 300, .inl (fun _ => 0))), (m2, .inl (c2, 200, .inl (fun _ => 0))), (m3, .inl (c3, 200, .inl (fun _ => 0))), (m4, .inl (c4, 200, .inl (fun _ => 0))), (m5, .inl (c5, 200, .inl (fun _ => 0))), (m6, .inl (c6, 200, .inl (fun _ => 0)))]) := hD
  refine lv_aload_n hx hb dM_init_58 rfl (lv_at hl 0 rfl) ?_
  refine lv_sipush (v := nI 200) hx hb dM_init_59 (by decide) ?_
  refine va_newa (atype := .int) (ty := .int) (N' := 200) (a0 := (200, .inl (fun _ => 0))) (n := nI 200) hx hb (hts (.arrayClass .int) (by decide +kernel)) rfl hK hP hD hS hA (fun _ => rfl) (nI_pos (by decide)) (nI_clamp (by decide)) (Nat.le_of_ble_eq_true rfl) (Nat.le_of_ble_eq_true rfl) (Nat.le_of_ble_eq_true rfl) dM_init_62 (fun m7 c7 H hK hP hD hS => ?_)
  refine W.widen (k := 7) (n := 1500) (Nat.le_of_ble_eq_true rfl) (Nat.le_of_ble_eq_true rfl) ?_
  have hP : va_P (dC, dI) vwCl ([(g, .inr (1, [.int 0, .ref m1, .int 0, .int 0, .int 0, .ref m2, .ref m3, .ref m4, .ref m5, .ref m6, .null, .null, .int 0, .int 0, .null, .null, .null, .null, .null])), (m1, .inl (c1, 300, .inl (fun _ => 0))), (m2, .inl (c2, 200, .inl (fun _ => 0))), (m3, .inl (c3, 200, .inl (fun _ => 0))), (m4, .inl (c4, 200, .inl (fun _ => 0))), (m5, .inl (c5, 200, .inl (fun _ => 0))), (m6, .inl (c6, 200, .inl (fun _ => 0))), (m7, .inl (c7, 200, .inl (fun _ => 0)))]) H := hP
  have hD : va_D A ([(g, .inr (1, [.int 0, .ref m1, .int 0, .int 0, .int 0, .ref m2, .ref m3, .ref m4, .ref m5, .ref m6, .null, .null, .int 0, .int 0, .null, .null, .null, .null, .null])), (m1, .inl (c1, 300, .inl (fun _ => 0))), (m2, .inl (c2, 200, .inl (fun _ => 0))), (m3, .inl (c3, 200, .inl (fun _ => 0))), (m4, .inl (c4, 200, .inl (fun _ => 0))), (m5, .inl (c5, 200, .inl (fun _ => 0))), (m6, .inl (c6, 200, .inl (fun _ => 0))), (m7, .inl (c7, 200, .inl (fun _ => 0)))]) := hD
  refine va_putF (D := (dC, dI)) (ci := 1) (v := .ref m7) (ty := .array .int) (C := RX1) (T := TX1) (N := 19) hx hb hts hin1 tyX1 tyX1_ok nmX1 hown hK hP hD hS 0 rfl rfl 10 (by decide) lkf28 (fun _ h9 => h9) rfl hin rfl (by decide +kernel) rfl rfl (Nat.le_of_ble_eq_true rfl) dM_init_64 (fun H locs hP hD hS => ?_)
  have hP : va_P (dC, dI) vwCl ([(g, .inr (1, [.int 0, .ref m1, .int 0, .int 0, .int 0, .ref m2, .ref m3, .ref m4, .ref m5, .ref m6, .ref m7, .null, .int 0, .int 0, .null, .null, .null, .null, .null])), (m1, .inl (c1, 300, .inl (fun _ => 0))), (m2, .inl (c2, 200, .inl (fun _ => 0))), (m3, .inl (c3, 200, .inl (fun _ => 0))), (m4, .inl (c4, 200, .inl (fun _ => 0))), (m5, .inl (c5, 200, .inl (fun _ => 0))), (m6, .inl (c6, 200, .inl (fun _ => 0))), (m7, .inl (c7, 200, .inl (fun _ => 0)))]) H := hP
  have hD : va_D A ([(g, .inr (1, [.int 0, .ref m1, .int 0, .int 0, .int 0, .ref m2, .ref m3, .ref m4, .ref m5, .ref m6, .ref m7, .null, .int 0, .int 0, .null, .null, .null, .null, .null])), (m1, .inl (c1, 300, .inl (fun _ => 0))), (m2, .inl (c2, 200, .inl (fun _ => 0))), (m3, .inl (c3, 200, .inl (fun _ => 0))), (m4, .inl (c4, 200, .inl (fun _ => 0))), (m5, .inl (c5, 200, .inl (fun _ => 0))), (m6, .inl (c6, 200, .inl (fun _ => 0))), (m7, .inl (c7, 200, .inl (fun _ => 0)))]) := hD
  refine lv_aload_n hx hb dM_init_67 rfl (lv_at hl 0 rfl) ?_
  refine lv_sipush (v := nI 4480) hx hb dM_init_68 (by decide) ?_
  refine va_newa (atype := .int) (ty := .int) (N' := 4480) (a0 := (4480, .inl (fun _ => 0))) (n := nI 4480) hx hb (hts (.arrayClass .int) (by decide +kernel)) rfl hK hP hD hS hA (fun _ => rfl) (nI_pos (by decide)) (nI_clamp (by decide)) (Nat.le_of_ble_eq_true rfl) (Nat.le_of_ble_eq_true rfl) (Nat.le_of_ble_eq_true rfl) dM_init_71 (fun m8 c8 H hK hP hD hS => ?_)
  refine W.widen (k := 8) (n := 5980) (Nat.le_of_ble_eq_true rfl) (Nat.le_of_ble_eq_true rfl) ?_
  have hP : va_P (dC, dI) vwCl ([(g, .inr (1, [.int 0, .ref m1, .int 0, .int 0, .int 0, .ref m2, .ref m3, .ref m4, .ref m5, .ref m6, .ref m7, .null, .int 0, .int 0, .null, .null, .null, .null, .null])), (m1, .inl (c1, 300, .inl (fun _ => 0))), (m2, .inl (c2, 200, .inl (fun _ => 0))), (m3, .inl (c3, 200, .inl (fun _ => 0))), (m4, .inl (c4, 200, .inl (fun _ => 0))), (m5, .inl (c5, 200, .inl (fun _ => 0))), (m6, .inl (c6, 200, .inl (fun _ => 0))), (m7, .inl (c7, 200, .inl (fun _ => 0))), (m8, .inl (c8, 4480, .inl (fun _ => 0)))]) H := hP
  have hD : va_D A ([(g, .inr (1, [.int 0, .ref m1, .int 0, .int 0, .int 0, .ref m2, .ref m3, .ref m4, .ref m5, .ref m6, .ref m7, .null, .int 0, .int 0, .null, .null, .null, .null, .null])), (m1, .inl (c1, 300, .inl (fun _ => 0))), (m2, .inl (c2, 200, .inl (fun _ => 0))), (m3, .inl (c3, 200, .inl (fun _ => 0))), (m4, .inl (c4, 200, .inl (fun _ => 0))), (m5, .inl (c5, 200, .inl (fun _ => 0))), (m6, .inl (c6, 200, .inl (fun _ => 0))), (m7, .inl (c7, 200, .inl (fun _ => 0))), (m8, .inl (c8, 4480, .inl (fun _ => 0)))]) := hD
  refine va_putF (D := (dC, dI)) (ci := 1) (v := .ref m8) (ty := .array .int) (C := RX1) (T := TX1) (N := 19) hx hb hts hin1 tyX1 tyX1_ok nmX1 hown hK hP hD hS 0 rfl rfl 11 (by decide) lkf31 (fun _ h9 => h9) rfl hin rfl (by decide +kernel) rfl rfl (Nat.le_of_ble_eq_true rfl) dM_init_73 (fun H locs hP hD hS => ?_)
  have hP : va_P (dC, dI) vwCl ([(g, .inr (1, [.int 0, .ref m1, .int 0, .int 0, .int 0, .ref m2, .ref m3, .ref m4, .ref m5, .ref m6, .ref m7, .ref m8, .int 0, .int 0, .null, .null, .null, .null, .null])), (m1, .inl (c1, 300, .inl (fun _ => 0))), (m2, .inl (c2, 200, .inl (fun _ => 0))), (m3, .inl (c3, 200, .inl (fun _ => 0))), (m4, .inl (c4, 200, .inl (fun _ => 0))), (m5, .inl (c5, 200, .inl (fun _ => 0))), (m6, .inl (c6, 200, .inl (fun _ => 0))), (m7, .inl (c7, 200, .inl (fun _ => 0))), (m8, .inl (c8, 4480, .inl (fun _ => 0)))]) H := hP
  have hD : va_D A ([(g, .inr (1, [.int 0, .ref m1, .int 0, .int 0, .int 0, .ref m2, .ref m3, .ref m4, .ref m5, .ref m6, .ref m7, .ref m8, .int 0, .int 0, .null, .null, .null, .null, .null])), (m1, .inl (c1, 300, .inl (fun _ => 0))), (m2, .inl (c2, 200, .inl (fun _ => 0))), (m3, .inl (c3, 200, .inl (fun _ => 0))), (m4, .inl (c4, 200, .inl (fun _ => 0))), (m5, .inl (c5, 200, .inl (fun _ => 0))), (m6, .inl (c6, 200, .inl (fun _ => 0))), (m7, .inl (c7, 200, .inl (fun _ => 0))), (m8, .inl (c8, 4480, .inl (fun _ => 0)))]) := hD
  refine lv_aload_n hx hb dM_init_76 rfl (lv_at hl 0 rfl) ?_
  refine lv_sipush (v := nI 4480) hx hb dM_init_77 (by decide) ?_
  refine va_newa (atype := .int) (ty := .int) (N' := 4480) (a0 := (4480, .inl (fun _ => 0))) (n := nI 4480) hx hb (hts (.arrayClass .int) (by decide +kernel)) rfl hK hP hD hS hA (fun _ => rfl) (nI_pos (by decide)) (nI_clamp (by decide)) (Nat.le_of_ble_eq_true rfl) (Nat.le_of_ble_eq_true rfl) (Nat.le_of_ble_eq_true rfl) dM_init_80 (fun m9 c9 H hK hP hD hS => ?_)
  refine W.widen (k := 9) (n := 10460) (Nat.le_of_ble_eq_true rfl) (Nat.le_of_ble_eq_true rfl) ?_
  have hP : va_P (dC, dI) vwCl ([(g, .inr (1, [.int 0, .ref m1, .int 0, .int 0, .int 0, .ref m2, .ref m3, .ref m4, .ref m5, .ref m6, .ref m7, .ref m8, .int 0, .int 0, .null, .null, .null, .null, .null])), (m1, .inl (c1, 300, .inl (fun _ => 0))), (m2, .inl (c2, 200, .inl (fun _ => 0))), (m3, .inl (c3, 200, .inl (fun _ => 0))), (m4, .inl (c4, 200, .inl (fun _ => 0))), (m5, .inl (c5, 200, .inl (fun _ => 0))), (m6, .inl (c6, 200, .inl (fun _ => 0))), (m7, .inl (c7, 200, .inl (fun _ => 0))), (m8, .inl (c8, 4480, .inl (fun _ => 0))), (m9, .inl (c9, 4480, .inl (fun _ => 0)))]) H := hP
  have hD : va_D A ([(g, .inr (1, [.int 0, .ref m1, .int 0, .int 0, .int 0, .ref m2, .ref m3, .ref m4, .ref m5, .ref m6, .ref m7, .ref m8, .int 0, .int 0, .null, .null, .null, .null, .null])), (m1, .inl (c1, 300, .inl (fun _ => 0))), (m2, .inl (c2, 200, .inl (fun _ => 0))), (m3, .inl (c3, 200, .inl (fun _ => 0))), (m4, .inl (c4, 200, .inl (fun _ => 0))), (m5, .inl (c5, 200, .inl (fun _ => 0))), (m6, .inl (c6, 200, .inl (fun _ => 0))), (m7, .inl (c7, 200, .inl (fun _ => 0))), (m8, .inl (c8, 4480, .inl (fun _ => 0))), (m9, .inl (c9, 4480, .inl (fun _ => 0)))]) := hD
  refine va_putF (D := (dC, dI)) (ci := 1) (v := .ref m9) (ty := .array .int) (C := RX1) (T := TX1) (N := 19) hx hb hts hin1 tyX1 tyX1_ok nmX1 hown hK hP hD hS 0 rfl rfl 14 (by decide) lkf34 (fun _ h9 => h9) rfl hin rfl (by decide +kernel) rfl rfl (Nat.le_of_ble_eq_true rfl) dM_init_82 (fun H locs hP hD hS => ?_)
  have hP : va_P (dC, dI) vwCl ([(g, .inr (1, [.int 0, .ref m1, .int 0, .int 0, .int 0, .ref m2, .ref m3, .ref m4, .ref m5, .ref m6, .ref m7, .ref m8, .int 0, .int 0, .ref m9, .null, .null, .null, .null])), (m1, .inl (c1, 300, .inl (fun _ => 0))), (m2, .inl (c2, 200, .inl (fun _ => 0))), (m3, .inl (c3, 200, .inl (fun _ => 0))), (m4, .inl (c4, 200, .inl (fun _ => 0))), (m5, .inl (c5, 200, .inl (fun _ => 0))), (m6, .inl (c6, 200, .inl (fun _ => 0))), (m7, .inl (c7, 200, .inl (fun _ => 0))), (m8, .inl (c8, 4480, .inl (fun _ => 0))), (m9, .inl (c9, 4480, .inl (fun _ => 0)))]) H := hP
  have hD : va_D A ([(g, .inr (1, [.int 0, .ref m1, .int 0, .int 0, .int 0, .ref m2, .ref m3, .ref m4, .ref m5, .ref m6, .ref m7, .ref m8, .int 0, .int 0, .ref m9, .null, .null, .null, .null])), (m1, .inl (c1, 300, .inl (fun _ => 0))), (m2, .inl (c2, 200, .inl (fun _ => 0))), (m3, .inl (c3, 200, .inl (fun _ => 0))), (m4, .inl (c4, 200, .inl (fun _ => 0))), (m5, .inl (c5, 200, .inl (fun _ => 0))), (m6, .inl (c6, 200, .inl (fun _ => 0))), (m7, .inl (c7, 200, .inl (fun _ => 0))), (m8, .inl (c8, 4480, .inl (fun _ => 0))), (m9, .inl (c9, 4480, .inl (fun _ => 0)))]) := hD
  refine lv_aload_n hx hb dM_init_85 rfl (lv_at hl 0 rfl) ?_
  refine lv_bipush (v := nI 80) hx hb dM_init_86 (by decide) ?_
  refine va_newa (atype := .int) (ty := .int) (N' := 80) (a0 := (80, .inl (fun _ => 0))) (n := nI 80) hx hb (hts (.arrayClass .int) (by decide +kernel)) rfl hK hP hD hS hA (fun _ => rfl) (nI_pos (by decide)) (nI_clamp (by decide)) (Nat.le_of_ble_eq_true rfl) (Nat.le_of_ble_eq_true rfl) (Nat.le_of_ble_eq_true rfl) dM_init_88 (fun m10 c10 H hK hP hD hS => ?_)
  refine W.widen (k := 10) (n := 10540) (Nat.le_of_ble_eq_true rfl) (Nat.le_of_ble_eq_true rfl) ?_
  have hP : va_P (dC, dI) vwCl ([(g, .inr (1, [.int 0, .ref m1, .int 0, .int 0, .int 0, .ref m2, .ref m3, .ref m4, .ref m5, .ref m6, .ref m7, .ref m8, .int 0, .int 0, .ref m9, .null, .null, .null, .null])), (m1, .inl (c1, 300, .inl (fun _ => 0))), (m2, .inl (c2, 200, .inl (fun _ => 0))), (m3, .inl (c3, 200, .inl (fun _ => 0))), (m4, .inl (c4, 200, .inl (fun _ => 0))), (m5, .inl (c5, 200, .inl (fun _ => 0))), (m6, .inl (c6, 200, .inl (fun _ => 0))), (m7, .inl (c7, 200, .inl (fun _ => 0))), (m8, .inl (c8, 4480, .inl (fun _ => 0))), (m9, .inl (c9, 4480, .inl (fun _ => 0))), (m10, .inl (c10, 80, .inl (fun _ => 0)))]) H := hP
  have hD : va_D A ([(g, .inr (1, [.int 0, .ref m1, .int 0, .int 0, .int 0, .ref m2, .ref m3, .ref m4, .ref m5, .ref m6, .ref m7, .ref m8, .int 0, .int 0, .ref m9, .null, .null, .null, .null])), (m1, .inl (c1, 300, .inl (fun _ => 0))), (m2, .inl (c2, 200, .inl (fun _ => 0))), (m3, .inl (c3, 200, .inl (fun _ => 0))), (m4, .inl (c4, 200, .inl (fun _ => 0))), (m5, .inl (c5, 200, .inl (fun _ => 0))), (m6, .inl (c6, 200, .inl (fun _ => 0))), (m7, .inl (c7, 200, .inl (fun _ => 0))), (m8, .inl (c8, 4480, .inl (fun _ => 0))), (m9, .inl (c9, 4480, .inl (fun _ => 0))), (m10, .inl (c10, 80, .inl (fun _ => 0)))]) := hD
  refine va_putF (D := (dC, dI)) (ci := 1) (v := .ref m10) (ty := .array .int) (C := RX1) (T := TX1) (N := 19) hx hb hts hin1 tyX1 tyX1_ok nmX1 hown hK hP hD hS 0 rfl rfl 15 (by decide) lkf37 (fun _ h9 => h9) rfl hin rfl (by decide +kernel) rfl rfl (Nat.le_of_ble_eq_true rfl) dM_init_90 (fun H locs hP hD hS => ?_)
  have hP : va_P (dC, dI) vwCl ([(g, .inr (1, [.int 0, .ref m1, .int 0, .int 0, .int 0, .ref m2, .ref m3, .ref m4, .ref m5, .ref m6, .ref m7, .ref m8, .int 0, .int 0, .ref m9, .ref m10, .null, .null, .null])), (m1, .inl (c1, 300, .inl (fun _ => 0))), (m2, .inl (c2, 200, .inl (fun _ => 0))), (m3, .inl (c3, 200, .inl (fun _ => 0))), (m4, .inl (c4, 200, .inl (fun _ => 0))), (m5, .inl (c5, 200, .inl (fun _ => 0))), (m6, .inl (c6, 200, .inl (fun _ => 0))), (m7, .inl (c7, 200, .inl (fun _ => 0))), (m8, .inl (c8, 4480, .inl (fun _ => 0))), (m9, .inl (c9, 4480, .inl (fun _ => 0))), (m10, .inl (c10, 80, .inl (fun _ => 0)))]) H := hP
  have hD : va_D A ([(g, .inr (1, [.int 0, .ref m1, .int 0, .int 0, .int 0, .ref m2, .ref m3, .ref m4, .ref m5, .ref m6, .ref m7, .ref m8, .int 0, .int 0, .ref m9, .ref m10, .null, .null, .null])), (m1, .inl (c1, 300, .inl (fun _ => 0))), (m2, .inl (c2, 200, .inl (fun _ => 0))), (m3, .inl (c3, 200, .inl (fun _ => 0))), (m4, .inl (c4, 200, .inl (fun _ => 0))), (m5, .inl (c5, 200, .inl (fun _ => 0))), (m6, .inl (c6, 200, .inl (fun _ => 0))), (m7, .inl (c7, 200, .inl (fun _ => 0))), (m8, .inl (c8, 4480, .inl (fun _ => 0))), (m9, .inl (c9, 4480, .inl (fun _ => 0))), (m10, .inl (c10, 80, .inl (fun _ => 0)))]) := hD
  refine lv_aload_n hx hb dM_init_93 rfl (lv_at hl 0 rfl) ?_
  refine lv_bipush (v := nI 80) hx hb dM_init_94 (by decide) ?_
  refine va_newa (atype := .int) (ty := .int) (N' := 80) (a0 := (80, .inl (fun _ => 0))) (n := nI 80) hx hb (hts (.arrayClass .int) (by decide +kernel)) rfl hK hP hD hS hA (fun _ => rfl) (nI_pos (by decide)) (nI_clamp (by decide)) (Nat.le_of_ble_eq_true rfl) (Nat.le_of_ble_eq_true rfl) (Nat.le_of_ble_eq_true rfl) dM_init_96 (fun m11 c11 H hK hP hD hS => ?_)
  refine W.widen (k := 11) (n := 10620) (Nat.le_of_ble_eq_true rfl) (Nat.le_of_ble_eq_true rfl) ?_
  have hP : va_P (dC, dI) vwCl ([(g, .inr (1, [.int 0, .ref m1, .int 0, .int 0, .int 0, .ref m2, .ref m3, .ref m4, .ref m5, .ref m6, .ref m7, .ref m8, .int 0, .int 0, .ref m9, .ref m10, .null, .null, .null])), (m1, .inl (c1, 300, .inl (fun _ => 0))), (m2, .inl (c2, 200, .inl (fun _ => 0))), (m3, .inl (c3, 200, .inl (fun _ => 0))), (m4, .inl (c4, 200, .inl (fun _ => 0))), (m5, .inl (c5, 200, .inl (fun _ => 0))), (m6, .inl (c6, 200, .inl (fun _ => 0))), (m7, .inl (c7, 200, .inl (fun _ => 0))), (m8, .inl (c8, 4480, .inl (fun _ => 0))), (m9, .inl (c9, 4480, .inl (fun _ => 0))), (m10, .inl (c10, 80, .inl (fun _ => 0))), (m11, .inl (c11, 80, .inl (fun _ => 0)))]) H := hP
  have hD : va_D A ([(g, .inr (1, [.int 0, .ref m1, .int 0, .int 0, .int 0, .ref m2, .ref m3, .ref m4, .ref m5, .ref m6, .ref m7, .ref m8, .int 0, .int 0, .ref m9, .ref m10, .null, .null, .null])), (m1, .inl (c1, 300, .inl (fun _ => 0))), (m2, .inl (c2, 200, .inl (fun _ => 0))), (m3, .inl (c3, 200, .inl (fun _ => 0))), (m4, .inl (c4, 200, .inl (fun _ => 0))), (m5, .inl (c5, 200, .inl (fun _ => 0))), (m6, .inl (c6, 200, .inl (fun _ => 0))), (m7, .inl (c7, 200, .inl (fun _ => 0))), (m8, .inl (c8, 4480, .inl (fun _ => 0))), (m9, .inl (c9, 4480, .inl (fun _ => 0))), (m10, .inl (c10, 80, .inl (fun _ => 0))), (m11, .inl (c11, 80, .inl (fun _ => 0)))]) := hD
  refine va_putF (D := (dC, dI)) (ci := 1) (v := .ref m11) (ty := .array .int) (C := RX1) (T := TX1) (N := 19) hx hb hts hin1 tyX1 tyX1_ok nmX1 hown hK hP hD hS 0 rfl rfl 16 (by decide) lkf40 (fun _ h9 => h9) rfl hin rfl (by decide +kernel) rfl rfl (Nat.le_of_ble_eq_true rfl) dM_init_98 (fun H locs hP hD hS => ?_)
  have hP : va_P (dC, dI) vwCl ([(g, .inr (1, [.int 0, .ref m1, .int 0, .int 0, .int 0, .ref m2, .ref m3, .ref m4, .ref m5, .ref m6, .ref m7, .ref m8, .int 0, .int 0, .ref m9, .ref m10, .ref m11, .null, .null])), (m1, .inl (c1, 300, .inl (fun _ => 0))), (m2, .inl (c2, 200, .inl (fun _ => 0))), (m3, .inl (c3, 200, .inl (fun _ => 0))), (m4, .inl (c4, 200, .inl (fun _ => 0))), (m5, .inl (c5, 200, .inl (fun _ => 0))), (m6, .inl (c6, 200, .inl (fun _ => 0))), (m7, .inl (c7, 200, .inl (fun _ => 0))), (m8, .inl (c8, 4480, .inl (fun _ => 0))), (m9, .inl (c9, 4480, .inl (fun _ => 0))), (m10, .inl (c10, 80, .inl (fun _ => 0))), (m11, .inl (c11, 80, .inl (fun _ => 0)))]) H := hP
  have hD : va_D A ([(g, .inr (1, [.int 0, .ref m1, .int 0, .int 0, .int 0, .ref m2, .ref m3, .ref m4, .ref m5, .ref m6, .ref m7, .ref m8, .int 0, .int 0, .ref m9, .ref m10, .ref m11, .null, .null])), (m1, .inl (c1, 300, .inl (fun _ => 0))), (m2, .inl (c2, 200, .inl (fun _ => 0))), (m3, .inl (c3, 200, .inl (fun _ => 0))), (m4, .inl (c4, 200, .inl (fun _ => 0))), (m5, .inl (c5, 200, .inl (fun _ => 0))), (m6, .inl (c6, 200, .inl (fun _ => 0))), (m7, .inl (c7, 200, .inl (fun _ => 0))), (m8, .inl (c8, 4480, .inl (fun _ => 0))), (m9, .inl (c9, 4480, .inl (fun _ => 0))), (m10, .inl (c10, 80, .inl (fun _ => 0))), (m11, .inl (c11, 80, .inl (fun _ => 0)))]) := hD
  refine lv_aload_n hx hb dM_init_101 rfl (lv_at hl 0 rfl) ?_
  refine lv_bipush (v := nI 80) hx hb dM_init_102 (by decide) ?_
  refine va_newa (atype := .int) (ty := .int) (N' := 80) (a0 := (80, .inl (fun _ => 0))) (n := nI 80) hx hb (hts (.arrayClass .int) (by decide +kernel)) rfl hK hP hD hS hA (fun _ => rfl) (nI_pos (by decide)) (nI_clamp (by decide)) (Nat.le_of_ble_eq_true rfl) (Nat.le_of_ble_eq_true rfl) (Nat.le_of_ble_eq_true rfl) dM_init_104 (fun m12 c12 H hK hP hD hS => ?_)
  refine W.widen (k := 12) (n := 10700) (Nat.le_of_ble_eq_true rfl) (Nat.le_of_ble_eq_true rfl) ?_
  have hP : va_P (dC, dI) vwCl ([(g, .inr (1, [.int 0, .ref m1, .int 0, .int 0, .int 0, .ref m2, .ref m3, .ref m4, .ref m5, .ref m6, .ref m7, .ref m8, .int 0, .int 0, .ref m9, .ref m10, .ref m11, .null, .null])), (m1, .inl (c1, 300, .inl (fun _ => 0))), (m2, .inl (c2, 200, .inl (fun _ => 0))), (m3, .inl (c3, 200, .inl (fun _ => 0))), (m4, .inl (c4, 200, .inl (fun _ => 0))), (m5, .inl (c5, 200, .inl (fun _ => 0))), (m6, .inl (c6, 200, .inl (fun _ => 0))), (m7, .inl (c7, 200, .inl (fun _ => 0))), (m8, .inl (c8, 4480, .inl (fun _ => 0))), (m9, .inl (c9, 4480, .inl (fun _ => 0))), (m10, .inl (c10, 80, .inl (fun _ => 0))), (m11, .inl (c11, 80, .inl (fun _ => 0))), (m12, .inl (c12, 80, .inl (fun _ => 0)))]) H := hP
  have hD : va_D A ([(g, .inr (1, [.int 0, .ref m1, .int 0, .int 0, .int 0, .ref m2, .ref m3, .ref m4, .ref m5, .ref m6, .ref m7, .ref m8, .int 0, .int 0, .ref m9, .ref m10, .ref m11, .null, .null])), (m1, .inl (c1, 300, .inl (fun _ => 0))), (m2, .inl (c2, 200, .inl (fun _ => 0))), (m3, .inl (c3, 200, .inl (fun _ => 0))), (m4, .inl (c4, 200, .inl (fun _ => 0))), (m5, .inl (c5, 200, .inl (fun _ => 0))), (m6, .inl (c6, 200, .inl (fun _ => 0))), (m7, .inl (c7, 200, .inl (fun _ => 0))), (m8, .inl (c8, 4480, .inl (fun _ => 0))), (m9, .inl (c9, 4480, .inl (fun _ => 0))), (m10, .inl (c10, 80, .inl (fun _ => 0))), (m11, .inl (c11, 80, .inl (fun _ => 0))), (m12, .inl (c12, 80, .inl (fun _ => 0)))]) := hD
  refine va_putF (D := (dC, dI)) (ci := 1) (v := .ref m12) (ty := .array .int) (C := RX1) (T := TX1) (N := 19) hx hb hts hin1 tyX1 tyX1_ok nmX1 hown hK hP hD hS 0 rfl rfl 17 (by decide) lkf43 (fun _ h9 => h9) rfl hin rfl (by decide +kernel) rfl rfl (Nat.le_of_ble_eq_true rfl) dM_init_106 (fun H locs hP hD hS => ?_)
  have hP : va_P (dC, dI) vwCl ([(g, .inr (1, [.int 0, .ref m1, .int 0, .int 0, .int 0, .ref m2, .ref m3, .ref m4, .ref m5, .ref m6, .ref m7, .ref m8, .int 0, .int 0, .ref m9, .ref m10, .ref m11, .ref m12, .null])), (m1, .inl (c1, 300, .inl (fun _ => 0))), (m2, .inl (c2, 200, .inl (fun _ => 0))), (m3, .inl (c3, 200, .inl (fun _ => 0))), (m4, .inl (c4, 200, .inl (fun _ => 0))), (m5, .inl (c5, 200, .inl (fun _ => 0))), (m6, .inl (c6, 200, .inl (fun _ => 0))), (m7, .inl (c7, 200, .inl (fun _ => 0))), (m8, .inl (c8, 4480, .inl (fun _ => 0))), (m9, .inl (c9, 4480, .inl (fun _ => 0))), (m10, .inl (c10, 80, .inl (fun _ => 0))), (m11, .inl (c11, 80, .inl (fun _ => 0))), (m12, .inl (c12, 80, .inl (fun _ => 0)))]) H := hP
  have hD : va_D A ([(g, .inr (1, [.int 0, .ref m1, .int 0, .int 0, .int 0, .ref m2, .ref m3, .ref m4, .ref m5, .ref m6, .ref m7, .ref m8, .int 0, .int 0, .ref m9, .ref m10, .ref m11, .ref m12, .null])), (m1, .inl (c1, 300, .inl (fun _ => 0))), (m2, .inl (c2, 200, .inl (fun _ => 0))), (m3, .inl (c3, 200, .inl (fun _ => 0))), (m4, .inl (c4, 200, .inl (fun _ => 0))), (m5, .inl (c5, 200, .inl (fun _ => 0))), (m6, .inl (c6, 200, .inl (fun _ => 0))), (m7, .inl (c7, 200, .inl (fun _ => 0))), (m8, .inl (c8, 4480, .inl (fun _ => 0))), (m9, .inl (c9, 4480, .inl (fun _ => 0))), (m10, .inl (c10, 80, .inl (fun _ => 0))), (m11, .inl (c11, 80, .inl (fun _ => 0))), (m12, .inl (c12, 80, .inl (fun _ => 0)))]) := hD
  refine lv_aload_n hx hb dM_init_109 rfl (lv_at hl 0 rfl) ?_
  refine lv_bipush (v := nI 80) hx hb dM_init_110 (by decide) ?_
  refine va_newa (atype := .int) (ty := .int) (N' := 80) (a0 := (80, .inl (fun _ => 0))) (n := nI 80) hx hb (hts (.arrayClass .int) (by decide +kernel)) rfl hK hP hD hS hA (fun _ => rfl) (nI_pos (by decide)) (nI_clamp (by decide)) (Nat.le_of_ble_eq_true rfl) (Nat.le_of_ble_eq_true rfl) (Nat.le_of_ble_eq_true rfl) dM_init_112 (fun m13 c13 H hK hP hD hS => ?_)
  refine W.widen (k := 13) (n := 10780) (Nat.le_of_ble_eq_true rfl) (Nat.le_of_ble_eq_true rfl) ?_
  have hP : va_P (dC, dI) vwCl ([(g, .inr (1, [.int 0, .ref m1, .int 0, .int 0, .int 0, .ref m2, .ref m3, .ref m4, .ref m5, .ref m6, .ref m7, .ref m8, .int 0, .int 0, .ref m9, .ref m10, .ref m11, .ref m12, .null])), (m1, .inl (c1, 300, .inl (fun _ => 0))), (m2, .inl (c2, 200, .inl (fun _ => 0))), (m3, .inl (c3, 200, .inl (fun _ => 0))), (m4, .inl (c4, 200, .inl (fun _ => 0))), (m5, .inl (c5, 200, .inl (fun _ => 0))), (m6, .inl (c6, 200, .inl (fun _ => 0))), (m7, .inl (c7, 200, .inl (fun _ => 0))), (m8, .inl (c8, 4480, .inl (fun _ => 0))), (m9, .inl (c9, 4480, .inl (fun _ => 0))), (m10, .inl (c10, 80, .inl (fun _ => 0))), (m11, .inl (c11, 80, .inl (fun _ => 0))), (m12, .inl (c12, 80, .inl (fun _ => 0))), (m13, .inl (c13, 80, .inl (fun _ => 0)))]) H := hP
  have hD : va_D A ([(g, .inr (1, [.int 0, .ref m1, .int 0, .int 0, .int 0, .ref m2, .ref m3, .ref m4, .ref m5, .ref m6, .ref m7, .ref m8, .int 0, .int 0, .ref m9, .ref m10, .ref m11, .ref m12, .null])), (m1, .inl (c1, 300, .inl (fun _ => 0))), (m2, .inl (c2, 200, .inl (fun _ => 0))), (m3, .inl (c3, 200, .inl (fun _ => 0))), (m4, .inl (c4, 200, .inl (fun _ => 0))), (m5, .inl (c5, 200, .inl (fun _ => 0))), (m6, .inl (c6, 200, .inl (fun _ => 0))), (m7, .inl (c7, 200, .inl (fun _ => 0))), (m8, .inl (c8, 4480, .inl (fun _ => 0))), (m9, .inl (c9, 4480, .inl (fun _ => 0))), (m10, .inl (c10, 80, .inl (fun _ => 0))), (m11, .inl (c11, 80, .inl (fun _ => 0))), (m12, .inl (c12, 80, .inl (fun _ => 0))), (m13, .inl (c13, 80, .inl (fun _ => 0)))]) := hD
  refine va_putF (D := (dC, dI)) (ci := 1) (v := .ref m13) (ty := .array .int) (C := RX1) (T := TX1) (N := 19) hx hb hts hin1 tyX1 tyX1_ok nmX1 hown hK hP hD hS 0 rfl rfl 18 (by decide) lkf46 (fun _ h9 => h9) rfl hin rfl (by decide +kernel) rfl rfl (Nat.le_of_ble_eq_true rfl) dM_init_114 (fun H locs hP hD hS => ?_)
  have hP : va_P (dC, dI) vwCl ([(g, .inr (1, [.int 0, .ref m1, .int 0, .int 0, .int 0, .ref m2, .ref m3, .ref m4, .ref m5, .ref m6, .ref m7, .ref m8, .int 0, .int 0, .ref m9, .ref m10, .ref m11, .ref m12, .ref m13])), (m1, .inl (c1, 300, .inl (fun _ => 0))), (m2, .inl (c2, 200, .inl (fun _ => 0))), (m3, .inl (c3, 200, .inl (fun _ => 0))), (m4, .inl (c4, 200, .inl (fun _ => 0))), (m5, .inl (c5, 200, .inl (fun _ => 0))), (m6, .inl (c6, 200, .inl (fun _ => 0))), (m7, .inl (c7, 200, .inl (fun _ => 0))), (m8, .inl (c8, 4480, .inl (fun _ => 0))), (m9, .inl (c9, 4480, .inl (fun _ => 0))), (m10, .inl (c10, 80, .inl (fun _ => 0))), (m11, .inl (c11, 80, .inl (fun _ => 0))), (m12, .inl (c12, 80, .inl (fun _ => 0))), (m13, .inl (c13, 80, .inl (fun _ => 0)))]) H := hP
  have hD : va_D A ([(g, .inr (1, [.int 0, .ref m1, .int 0, .int 0, .int 0, .ref m2, .ref m3, .ref m4, .ref m5, .ref m6, .ref m7, .ref m8, .int 0, .int 0, .ref m9, .ref m10, .ref m11, .ref m12, .ref m13])), (m1, .inl (c1, 300, .inl (fun _ => 0))), (m2, .inl (c2, 200, .inl (fun _ => 0))), (m3, .inl (c3, 200, .inl (fun _ => 0))), (m4, .inl (c4, 200, .inl (fun _ => 0))), (m5, .inl (c5, 200, .inl (fun _ => 0))), (m6, .inl (c6, 200, .inl (fun _ => 0))), (m7, .inl (c7, 200, .inl (fun _ => 0))), (m8, .inl (c8, 4480, .inl (fun _ => 0))), (m9, .inl (c9, 4480, .inl (fun _ => 0))), (m10, .inl (c10, 80, .inl (fun _ => 0))), (m11, .inl (c11, 80, .inl (fun _ => 0))), (m12, .inl (c12, 80, .inl (fun _ => 0))), (m13, .inl (c13, 80, .inl (fun _ => 0)))]) := hD
  obtain rfl : c1 = c2 := kCl_i hK 0 1 rfl rfl
  obtain rfl : c1 = c3 := kCl_i hK 0 2 rfl rfl
  obtain rfl : c1 = c4 := kCl_i hK 0 3 rfl rfl
  obtain rfl : c1 = c5 := kCl_i hK 0 4 rfl rfl
  obtain rfl : c1 = c6 := kCl_i hK 0 5 rfl rfl
  obtain rfl : c1 = c7 := kCl_i hK 0 6 rfl rfl
  obtain rfl : c1 = c8 := kCl_i hK 0 7 rfl rfl
  obtain rfl : c1 = c9 := kCl_i hK 0 8 rfl rfl
  obtain rfl : c1 = c10 := kCl_i hK 0 9 rfl rfl
  obtain rfl : c1 = c11 := kCl_i hK 0 10 rfl rfl
  obtain rfl : c1 = c12 := kCl_i hK 0 11 rfl rfl
  obtain rfl : c1 = c13 := kCl_i hK 0 12 rfl rfl
  have hK : va_K (dC, dI) vwCl (tM c1) s := hK.sub [0] rfl
  exact hret (m1, m2, m3, m4, m5, m6, m7, m8, m9, m10, m11, m12, m13, c1) _ _ _ _ hP hK hD hS dM_init_117
end
section
/-! THE CLAIM OUT OF ONE WALK OF THE LAW'S BODY. Your part is whole_start (and what it stands on); all else here is the same for every law, but numbers. -/
def R_law : String := "BlockTapeLaw"
def lw_P (b : Addr) (xs : List Int32) (args : Array Value) (s : State) : Prop := args = #[.ref b] ∧ s.IntsAt b xs ∧ xs.length ≤ 2048 ∧ (Jvm.Cond.and given_1 narrow_1).before args s = true
def lw_Q (_ : Array Value) (s : State) (o : Outcome) (t : State) : Prop := o = .returned (some (.int 1)) ∧ Framed s o t [] 21 16788
def lw_Z (below : List Frame) (a : Array Value) (s : State) : State → Prop := fun t => ∃ o, t.status = .running ∧ Ended t below o ∧ lw_Q a s o t
/-- the law's own end, with 1 on the stack, nothing written that was there before, its room as the claim has it -/
theorem lw_ret {p : Program} {l : Launch} {e : Env} {s : State} {m : MethodId} {below : List Frame} {meth : Method} {c : Code} {b : Nat} (hx : p.tables.exec = Jvm.exec) (hb : c.code = code) (hr : meth.sig.returnType = ret) (hlocks : meth.locks = false) {pc : Nat} {H : Heap} {ls : Array Slot} (hdg : decode code pc = .ok (.ireturn, 1)) : W p l e room_1 s m #[Value.ref b] below meth c H [] 21 16788 (lw_Z below #[Value.ref b] s) (F0 m pc ls [.int 1]) := by
  intro T hT X
  obtain ⟨fs, hret, hrun, hended, hW, hframe⟩ := X.leave (v := some (.int 1)) (hlocks := hlocks) (fun h => by rw [hr] at h; cases h)
  have hmeth' : T.vm.method? m = some meth := X.method'
  refine ⟨T.setFrames fs, ?_, .returned (some (.int 1)), hrun, hended, rfl, ⟨_, rfl⟩, hW, hframe⟩
  jvm_step X.here [X.here.top, hx, hb, hdg, hmeth', hr, ret, narrow_b1]
  (try refine ⟨rfl, ?_⟩); (try refine ⟨rfl, ?_⟩)
  first | (intro acts; rw [hret _ acts rfl rfl rfl]) | rw [hret _ _ rfl rfl rfl]
  exact Steps.refl _
/-- what holds at the law's entry: the machine, the code, the tables' words (any of lw_tbl by 'hts w (by decide +kernel)'), the script of L ints xs at the cell b, what the Statement gives of the start (any of its parts by flat_of_before) -/
def lw_At (p : Program) (s : State) (m : MethodId) (meth : Method) (c : Code) (b L : Nat) (xs : Nat → Int32) : Prop :=
  p.tables.exec = Jvm.exec ∧ c.code = code ∧ meth.sig.returnType = ret ∧ c.maxLocals = 4 ∧ s.vm.findClass R_law = some m.cls ∧ (∀ w ∈ lw_tbl, w.before #[Value.ref b] s = true) ∧ va_X b L xs s s.heap ∧ b < s.heap.size ∧ meth.locks = false ∧ (Jvm.Cond.and given_1 narrow_1).before #[Value.ref b] s = true
-- ===== YOUR PART BEGINS =====
end
section
abbrev MSt : Type := (Nat → Nat) × Nat × (Nat → Nat) × (Nat → Nat) × (Nat → Nat) × (Nat → Nat) × (Nat → Nat) × (Nat → Nat) × (Nat → Nat) × (Nat → Nat) × (Nat → Nat) × (Nat → Nat) × (Nat → Int32) × (Nat → Nat)
abbrev wMs (g m1 m2 m3 m4 m5 m6 m7 m8 m9 m10 m11 m12 m13 : Nat) (ck : ClassId) (b : BSt) (q : MSt) : va_W := wM g m1 m2 m3 m4 m5 m6 m7 m8 m9 m10 m11 m12 m13 ck q.1 b.2.1 b.2.2.2.2.2.2.1 q.2.1 q.2.2.1 q.2.2.2.1 q.2.2.2.2.1 q.2.2.2.2.2.1 q.2.2.2.2.2.2.1 q.2.2.2.2.2.2.2.1 q.2.2.2.2.2.2.2.2.1 (b.2.2.2.1 / 56) (b.2.2.2.1 % 56) q.2.2.2.2.2.2.2.2.2.1 q.2.2.2.2.2.2.2.2.2.2.1 q.2.2.2.2.2.2.2.2.2.2.2.1 q.2.2.2.2.2.2.2.2.2.2.2.2.1 q.2.2.2.2.2.2.2.2.2.2.2.2.2
theorem ki_inc4 (n : Nat) : nI n + Int32.ofInt 4 = nI (n + 4) := nI_add n 4
end
section
def bt (x : Int32) (i : Nat) : Bool := x.toBitVec.getLsbD i
theorem b_ext {x y : Int32} (h : ∀ i, i < 32 → bt x i = bt y i) : x = y := Int32.toBitVec_inj.mp (BitVec.eq_of_getLsbD_eq (fun i hi => h i hi))
theorem b_or (x y : Int32) (i : Nat) : bt (x ||| y) i = (bt x i || bt y i) := by unfold bt; rw [Int32.toBitVec_or, BitVec.getLsbD_or]
theorem b_and (x y : Int32) (i : Nat) : bt (x &&& y) i = (bt x i && bt y i) := by unfold bt; rw [Int32.toBitVec_and, BitVec.getLsbD_and]
theorem b_xor (x y : Int32) (i : Nat) : bt (x ^^^ y) i = (bt x i ^^ bt y i) := by unfold bt; rw [Int32.toBitVec_xor, BitVec.getLsbD_xor]
theorem b_big {x : Int32} {i : Nat} (h : 32 ≤ i) : bt x i = false := BitVec.getLsbD_of_ge _ _ h
theorem b_255 (i : Nat) : bt 255 i = decide (i < 8) := by
  rcases Nat.lt_or_ge i 32 with h | h
  · exact (by decide +kernel : ∀ i, i < 32 → bt 255 i = decide (i < 8)) i h
  · rw [b_big h, decide_eq_false (by omega)]
theorem b_65535 (i : Nat) : bt 65535 i = decide (i < 16) := by
  rcases Nat.lt_or_ge i 32 with h | h
  · exact (by decide +kernel : ∀ i, i < 32 → bt 65535 i = decide (i < 16)) i h
  · rw [b_big h, decide_eq_false (by omega)]
theorem b_m1 : ∀ i, i < 32 → bt (-1) i = true := by decide +kernel
theorem b_0 (i : Nat) : bt 0 i = false := BitVec.getLsbD_zero
theorem s_l : ∀ n, n < 32 → ((nI n &&& 31).toBitVec.smod 32).toNat = n := by decide +kernel
theorem s_u : ∀ n, n < 32 → (((nI n).toUInt32 &&& Int32.toUInt32 31).toBitVec % 32).toNat = n := by decide +kernel
theorem b_shl (n : Nat) (hn : n < 32) (x : Int32) {i : Nat} (hi : i < 32) : bt (x <<< (nI n &&& 31)) i = (decide (n ≤ i) && bt x (i - n)) := by
  unfold bt
  rw [Int32.toBitVec_shiftLeft]
  show (x.toBitVec <<< ((nI n &&& 31).toBitVec.smod 32).toNat).getLsbD i = _
  rw [s_l n hn, BitVec.getLsbD_shiftLeft]
  rcases Nat.lt_or_ge i n with h | h
  · simp [h, Nat.not_le.mpr h]
  · simp [hi, h, Nat.not_lt.mpr h]
theorem b_ushr (n : Nat) (hn : n < 32) (x : Int32) (i : Nat) : bt ((x.toUInt32 >>> ((nI n).toUInt32 &&& Int32.toUInt32 31)).toInt32) i = bt x (n + i) := by
  show (x.toUInt32 >>> ((nI n).toUInt32 &&& Int32.toUInt32 31)).toBitVec.getLsbD i = x.toUInt32.toBitVec.getLsbD (n + i)
  rw [UInt32.toBitVec_shiftRight]
  show (x.toUInt32.toBitVec >>> (((nI n).toUInt32 &&& Int32.toUInt32 31).toBitVec % 32).toNat).getLsbD i = _
  rw [s_u n hn, BitVec.getLsbD_ushiftRight]
theorem b_sshr (n : Nat) (hn : n < 32) (x : Int32) {i : Nat} (hi : i < 32) : bt (x >>> (nI n &&& 31)) i = if n + i < 32 then bt x (n + i) else bt x 31 := by
  unfold bt
  rw [Int32.toBitVec_shiftRight]
  show (x.toBitVec.sshiftRight ((nI n &&& 31).toBitVec.smod 32).toNat).getLsbD i = _
  rw [s_l n hn, BitVec.getLsbD_sshiftRight, BitVec.msb_eq_getLsbD_last]
  simp [hi]
theorem b_shl8 (x : Int32) {i : Nat} (hi : i < 32) : bt (x <<< ((8 : Int32) &&& 31)) i = (decide (8 ≤ i) && bt x (i - 8)) := b_shl 8 (by omega) x hi
theorem b_shl16 (x : Int32) {i : Nat} (hi : i < 32) : bt (x <<< ((16 : Int32) &&& 31)) i = (decide (16 ≤ i) && bt x (i - 16)) := b_shl 16 (by omega) x hi
theorem b_shl24 (x : Int32) {i : Nat} (hi : i < 32) : bt (x <<< ((24 : Int32) &&& 31)) i = (decide (24 ≤ i) && bt x (i - 24)) := b_shl 24 (by omega) x hi
theorem b_sshr8 (x : Int32) {i : Nat} (hi : i < 32) : bt (x >>> ((8 : Int32) &&& 31)) i = if 8 + i < 32 then bt x (8 + i) else bt x 31 := b_sshr 8 (by omega) x hi
theorem bp_b (x : Int32) : x.toInt8.toInt32 &&& 255 = x &&& 255 := by
  apply Int32.toBitVec_inj.mp
  rw [Int32.toBitVec_and, Int32.toBitVec_and, Int8.toBitVec_toInt32, Int32.toBitVec_toInt8]
  apply BitVec.eq_of_getLsbD_eq
  intro i hi
  rw [BitVec.getLsbD_and, BitVec.getLsbD_and]
  have hm : ∀ i < 32, 8 ≤ i → (255 : Int32).toBitVec.getLsbD i = false := by decide
  rcases Nat.lt_or_ge i 8 with z | z
  · rw [BitVec.getLsbD_signExtend, BitVec.getLsbD_signExtend, if_pos z, if_pos hi]
    simp only [z, hi, decide_true, Bool.true_and]
  · rw [hm i hi z]; simp
theorem bn_and (x : Int32) : bn x &&& nI 255 = nI (lb x) := (show x.toInt8.toInt32 &&& (255 : Int32) = x &&& (255 : Int32) from bp_b x).trans (and255 x)
theorem lb_bv (x : Int32) : lb x = x.toInt8.toBitVec.toNat := by
  rw [Int32.toBitVec_toInt8, BitVec.signExtend_eq_setWidth_of_le _ (by decide), BitVec.toNat_setWidth]; rfl
theorem bn_t8 (x : Int32) : (bn x).toInt8 = x.toInt8 := Int8.toInt8_toInt32 _
theorem bn_of8 {x y : Int32} (h : x.toInt8 = y.toInt8) : bn x = bn y := by rw [bn, bn, h]
theorem bn_of_lb {x y : Int32} (h : lb x = lb y) : bn x = bn y := by
  rw [lb_bv, lb_bv] at h
  exact bn_of8 (Int8.toBitVec_inj.mp (BitVec.eq_of_toNat_eq h))
theorem lb_bn (x : Int32) : lb (bn x) = lb x := by rw [lb_bv, lb_bv, bn_t8]
theorem lb_of_bn {x y : Int32} (h : bn x = bn y) : lb x = lb y := by rw [← lb_bn x, ← lb_bn y, h]
theorem lb_n {a : Nat} (h : a < 256) : lb (nI a) = a := by rw [lb, pk_tn (by omega)]; omega
theorem bn_lb (x : Int32) : bn x = bn (nI (lb x)) := bn_of_lb (by rw [lb_n (lb_lt x)])
theorem bn_bn (x : Int32) : bn (bn x) = bn x := bn_of8 (bn_t8 x)
theorem bn_m1 {a : Nat} (h : a < 256) : bn (nI a) = -1 ↔ a = 255 := by
  constructor
  · intro e
    have e2 : lb (bn (nI a)) = lb (-1) := by rw [e]
    rw [lb_bn, lb_n h, show lb (-1) = 255 by decide +kernel] at e2
    exact e2
  · intro e
    rw [e]; decide +kernel
theorem bn_add (x y : Int32) : bn (bn x + y) = bn (x + y) := bn_of8 (by rw [Int32.toInt8_add, Int32.toInt8_add, bn_t8])
theorem bn_cancel (x y : Int32) : bn (bn (x + y) + -y) = bn x := by
  rw [bn_add, Int32.add_assoc, Int32.add_right_neg, Int32.add_zero]
theorem bn_z : bn 0 = 0 := by decide +kernel
theorem lb_bits {x y : Int32} (h : ∀ i, i < 8 → bt x i = bt y i) : lb x = lb y := by
  rw [lb_bv, lb_bv, Int32.toBitVec_toInt8, Int32.toBitVec_toInt8, BitVec.signExtend_eq_setWidth_of_le _ (by decide), BitVec.signExtend_eq_setWidth_of_le _ (by decide)]
  congr 1
  apply BitVec.eq_of_getLsbD_eq
  intro i hi
  rw [BitVec.getLsbD_setWidth, BitVec.getLsbD_setWidth]
  have h9 := h i hi
  unfold bt at h9
  rw [h9]
theorem lb_shift {n : Nat} (hn : n ≤ 24) (v : Int32) : lb (ush v n) = lb (v >>> (nI n &&& 31)) := by
  apply lb_bits
  intro i hi
  rw [show bt (ush v n) i = bt v (n + i) from b_ushr n (by omega) v i, b_sshr n (by omega) v (by omega), if_pos (by omega)]
theorem nx_or (a b : Nat) : nI a ||| nI b = nI (a ||| b) := by
  apply Int32.toBitVec_inj.1
  show BitVec.ofNat 32 a ||| BitVec.ofNat 32 b = BitVec.ofNat 32 (a ||| b)
  apply BitVec.eq_of_getLsbD_eq
  intro i hi
  simp [hi]
theorem two_bytes {a b : Nat} (ha : a < 256) (hb : b < 256) : (nI a <<< (nI 8 &&& 31)) ||| nI b = nI (a * 256 + b) := by
  rw [pk_shlN (nI 8 &&& 31) 8 (by decide) (by omega), nx_or]
  congr 1
  have h := Nat.two_pow_add_eq_or_of_lt (i := 8) (b := b) (by omega) a
  rw [show a * 2 ^ 8 = 2 ^ 8 * a by omega, ← h]
end
section
theorem un_s {f : Nat → Nat} {k x : Nat} : updN f k x k = x := by simp [updN]
theorem un_n {f : Nat → Nat} {k x j : Nat} (h : j ≠ k) : updN f k x j = f j := by simp [updN, h]
theorem plN_lt {mu fi md : Nat → Nat} {b i : Nat} (hb : b < 80) (hmu : mu b < 256) (hfi : fi b < 256) (hmd : ∀ j, j < 56 → md (56 * b + j) < 256) (hi : i < 64) (hn : ¬ (3 < i ∧ i < 8)) : plN mu fi md b i < 256 := by
  unfold plN
  split
  · omega
  · split
    · omega
    · split
      · exact hmu
      · split
        · exact hfi
        · have h := hmd (i - 8) (by omega)
          rw [show 56 * b + (i - 8) = 56 * b + i - 8 by omega] at h
          exact h
theorem sum_lo {w : Nat → Int32} {mu fi md : Nat → Nat} {b st : Nat} (hb : ∀ i, i < 64 → ¬ (3 < i ∧ i < 8) → (w (st + i) &&& nI 255) = nI (plN mu fi md b i)) : ∀ k, k ≤ 4 → sumM mu fi md b k = crcB w (-1) st k
  | 0, _ => rfl
  | k + 1, h => by rw [sumM, if_neg (by omega), crcB, sum_lo hb k (by omega), hb k (by omega) (by omega)]
theorem sum_mid {mu fi md : Nat → Nat} {b : Nat} : ∀ k, k ≤ 4 → sumM mu fi md b (4 + k) = sumM mu fi md b 4
  | 0, _ => rfl
  | k + 1, h => by
    show sumM mu fi md b ((4 + k) + 1) = _
    rw [sumM, if_pos (by omega), sum_mid k (by omega)]
theorem sum_hi {w : Nat → Int32} {mu fi md : Nat → Nat} {b st : Nat} (hb : ∀ i, i < 64 → ¬ (3 < i ∧ i < 8) → (w (st + i) &&& nI 255) = nI (plN mu fi md b i)) : ∀ k, k ≤ 56 → sumM mu fi md b (8 + k) = crcB w (sumM mu fi md b 8) (st + 8) k
  | 0, _ => rfl
  | k + 1, h => by
    show sumM mu fi md b ((8 + k) + 1) = _
    rw [sumM, if_neg (by omega), crcB, sum_hi hb k (by omega), show st + 8 + k = st + (8 + k) by omega, hb (8 + k) (by omega) (by omega)]
theorem sum_eq {w : Nat → Int32} {mu fi md : Nat → Nat} {b st : Nat} (hb : ∀ i, i < 64 → ¬ (3 < i ∧ i < 8) → (w (st + i) &&& nI 255) = nI (plN mu fi md b i)) : sumX mu fi md b = sumB w st := by
  rw [sumX, sumB]
  have h1 := sum_hi hb 56 (Nat.le_refl _)
  have h2 := sum_mid (mu := mu) (fi := fi) (md := md) (b := b) 4 (Nat.le_refl _)
  have h3 := sum_lo hb 4 (Nat.le_refl _)
  rw [show (64 : Nat) = 8 + 56 from rfl, h1, show (8 : Nat) = 4 + 4 from rfl, h2, h3]
theorem wbH_0 {vo : Nat → Int32} {b u : Nat} : wbH vo b u (b * 64 + 0) = bn (ush (nI b) 8) := by
  unfold wbH
  rw [pk_un (by omega), pk_un (by omega)]
  exact pk_us
theorem wbH_1 {vo : Nat → Int32} {b u : Nat} : wbH vo b u (b * 64 + 1) = bn (nI b) := by
  unfold wbH
  rw [pk_un (by omega), pk_us]
theorem wbH_2 {vo : Nat → Int32} {b u : Nat} : wbH vo b u (b * 64 + 2) = bn (nI u) := by
  unfold wbH
  rw [pk_us]
theorem wbH_n {vo : Nat → Int32} {b u k : Nat} (h : k < b * 64 ∨ b * 64 + 3 ≤ k) : wbH vo b u k = vo k := by
  unfold wbH
  rw [pk_un (by omega), pk_un (by omega), pk_un (by omega)]
theorem wbS_n {vo : Nat → Int32} {st : Nat} {sm : Int32} : ∀ n j, (j < st + 4 ∨ st + 4 + n ≤ j) → wbS vo st sm n j = vo j
  | 0, _, _ => rfl
  | n + 1, j, h => by rw [wbS, pk_un (by omega), wbS_n n j (by omega)]
theorem wbS_at {vo : Nat → Int32} {st : Nat} {sm : Int32} : ∀ n k, k < n → wbS vo st sm n (st + 4 + k) = bn (ush sm (24 - 8 * k))
  | 0, k, h => absurd h (Nat.not_lt_zero k)
  | n + 1, k, h => by
    by_cases hk : k = n
    · rw [hk, wbS, pk_us]
    · rw [wbS, pk_un (by omega), wbS_at n k (by omega)]
theorem wb_out {vo : Nat → Int32} {b u k : Nat} (h : k < b * 64 ∨ b * 64 + 8 ≤ k ∨ k = b * 64 + 3) : wbV vo b u k = vo k := by
  unfold wbV
  rw [wbS_n 4 k (by omega), wbH_n (by omega)]
theorem ush8_n {b : Nat} (h : b < 2 ^ 32) : ush (nI b) 8 = nI (b / 256) := pk_ushrN h (nI 8) 8 (by decide)
theorem wb_block {vo : Nat → Int32} {b u : Nat} {mu fi md : Nat → Nat} (hb : b < 80) (hu : u < 256) (hmu : mu b = u) (hfi : fi b < 256) (h3 : vo (b * 64 + 3) = bn (nI (fi b))) (hmd : ∀ j, j < 56 → md (56 * b + j) < 256) (hd : ∀ j, j < 56 → vo (b * 64 + 8 + j) = bn (nI (md (56 * b + j)))) : ∀ i, i < 64 → wbV vo b u (b * 64 + i) = bn (nI (pmN mu fi md b i)) := by
  have hpl : ∀ i, i < 64 → ¬ (3 < i ∧ i < 8) → wbH vo b u (b * 64 + i) = bn (nI (plN mu fi md b i)) := by
    intro i hi hn
    unfold plN
    by_cases h0 : i = 0
    · rw [h0, wbH_0, if_pos rfl, ush8_n (by omega)]
    · by_cases h1 : i = 1
      · rw [h1, wbH_1, if_neg (by decide), if_pos rfl, show b % 256 = b by omega]
      · by_cases h2 : i = 2
        · rw [h2, wbH_2, if_neg (by decide), if_neg (by decide), if_pos rfl, hmu]
        · by_cases h33 : i = 3
          · rw [h33, wbH_n (by omega), if_neg (by decide), if_neg (by decide), if_neg (by decide), if_pos rfl, h3]
          · rw [wbH_n (by omega), if_neg h0, if_neg h1, if_neg h2, if_neg h33]
            have h := hd (i - 8) (by omega)
            rw [show b * 64 + 8 + (i - 8) = b * 64 + i by omega, show 56 * b + (i - 8) = 56 * b + i - 8 by omega] at h
            exact h
  have hs : sumX mu fi md b = sumB (wbH vo b u) (b * 64) := sum_eq (fun i hi hn => by rw [hpl i hi hn, bn_and, lb_n (plN_lt hb (by omega) hfi hmd hi hn)])
  intro i hi
  unfold pmN
  by_cases hn : 3 < i ∧ i < 8
  · rw [if_pos hn, hs]
    unfold wbV
    have h := wbS_at (vo := wbH vo b u) (st := b * 64) (sm := sumB (wbH vo b u) (b * 64)) 4 (i - 4) (by omega)
    rw [show b * 64 + 4 + (i - 4) = b * 64 + i by omega, show 24 - 8 * (i - 4) = 8 * (7 - i) by omega] at h
    rw [h]
    exact bn_of_lb (by rw [lb_n (lb_lt _), lb_shift (by omega)])
  · rw [if_neg hn, ← hpl i hi hn]
    unfold wbV
    exact wbS_n 4 _ (by omega)
theorem pm_congr {mu fi md mu' fi' md' : Nat → Nat} {b : Nat} (h1 : mu' b = mu b) (h2 : fi' b = fi b) (h3 : ∀ j, j < 56 → md' (56 * b + j) = md (56 * b + j)) {i : Nat} (hi : i < 64) : pmN mu' fi' md' b i = pmN mu fi md b i := by
  have hpl : ∀ i, i < 64 → ¬ (3 < i ∧ i < 8) → plN mu' fi' md' b i = plN mu fi md b i := by
    intro i hi hn
    unfold plN
    rw [h1, h2]
    by_cases h0 : i = 0
    · rw [if_pos h0, if_pos h0]
    · by_cases h01 : i = 1
      · rw [if_neg h0, if_pos h01, if_neg h0, if_pos h01]
      · by_cases h02 : i = 2
        · rw [if_neg h0, if_neg h01, if_pos h02, if_neg h0, if_neg h01, if_pos h02]
        · by_cases h03 : i = 3
          · rw [if_neg h0, if_neg h01, if_neg h02, if_pos h03, if_neg h0, if_neg h01, if_neg h02, if_pos h03]
          · rw [if_neg h0, if_neg h01, if_neg h02, if_neg h03, if_neg h0, if_neg h01, if_neg h02, if_neg h03]
            have h := h3 (i - 8) (by omega)
            rw [show 56 * b + (i - 8) = 56 * b + i - 8 by omega] at h
            exact h
  have hs : ∀ k, k ≤ 64 → sumM mu' fi' md' b k = sumM mu fi md b k := by
    intro k
    induction k with
    | zero => intro _; rfl
    | succ k ih =>
      intro hk
      rw [sumM, sumM, ih (by omega)]
      by_cases hn : 3 < k ∧ k < 8
      · rw [if_pos hn, if_pos hn]
      · rw [if_neg hn, if_neg hn, hpl k (by omega) hn]
  unfold pmN
  by_cases hn : 3 < i ∧ i < 8
  · rw [if_pos hn, if_pos hn, sumX, sumX, hs 64 (Nat.le_refl _)]
  · rw [if_neg hn, if_neg hn, hpl i hi hn]
theorem pm_lt {mu fi md : Nat → Nat} {b i : Nat} (hb : b < 80) (hmu : ∀ b, mu b < 256) (hfi : ∀ b, fi b < 256) (hmd : ∀ p, md p < 256) (hi : i < 64) : pmN mu fi md b i < 256 := by
  unfold pmN
  split
  · exact lb_lt _
  · next h => exact plN_lt hb (hmu b) (hfi b) (fun j _ => hmd _) hi h
end
section
def RelV (vo : Nat → Int32) (np : Nat) (sb sa : Nat → Nat) (md mu fi : Nat → Nat) (sp : Nat → Int32) (sq : Nat → Nat) : Prop :=
  (∀ p, p < np → p / 56 = np / 56 → vo (ix p) = bn (nI (md p))) ∧
  (∀ p, np ≤ p → p < 4480 → vo (ix p) = 0) ∧
  (np % 56 ≠ 0 → vo (np / 56 * 64 + 3) = bn (nI (fi (np / 56))) ∧ sp (np / 56) = -1) ∧
  (∀ b, b < 80 → (np / 56 < b ∨ (np / 56 = b ∧ np % 56 = 0)) → vo (b * 64 + 3) = -1) ∧
  (∀ b, b < np / 56 → ∀ i, i < 64 → vo (b * 64 + i) = if sb b ≠ 0 ∧ sa b = i then bn (nI (pmN mu fi md b i) + nI (sb b)) else bn (nI (pmN mu fi md b i))) ∧
  (∀ b, b < np / 56 → (sb b = 0 ∧ sp b = -1) ∨ (sb b ≠ 0 ∧ sp b = nI (sa b) ∧ sq b = sb b)) ∧
  (∀ b, np / 56 ≤ b → sb b = 0) ∧ (∀ p, md p < 256) ∧ (∀ b, mu b < 256) ∧ (∀ b, fi b < 256)
def RelO (vo : Nat → Int32) (np : Nat) (sb sa : Nat → Nat) (md mu fi : Nat → Nat) (sp : Nat → Int32) (sq : Nat → Nat) : Prop :=
  (∀ p, p < np → p / 56 = np / 56 → vo (ix p) = bn (nI (md p))) ∧
  (∀ p, np ≤ p → p < 4480 → vo (ix p) = 0) ∧
  (vo (np / 56 * 64 + 3) = bn (nI (fi (np / 56))) ∧ sp (np / 56) = -1) ∧
  (∀ b, b < 80 → np / 56 < b → vo (b * 64 + 3) = -1) ∧
  (∀ b, b < np / 56 → ∀ i, i < 64 → vo (b * 64 + i) = if sb b ≠ 0 ∧ sa b = i then bn (nI (pmN mu fi md b i) + nI (sb b)) else bn (nI (pmN mu fi md b i))) ∧
  (∀ b, b < np / 56 → (sb b = 0 ∧ sp b = -1) ∨ (sb b ≠ 0 ∧ sp b = nI (sa b) ∧ sq b = sb b)) ∧
  (∀ b, np / 56 ≤ b → sb b = 0) ∧ (∀ p, md p < 256) ∧ (∀ b, mu b < 256) ∧ (∀ b, fi b < 256)
theorem un_lt {f : Nat → Nat} {k x M : Nat} (h : ∀ j, f j < M) (hx : x < M) : ∀ j, updN f k x j < M := by
  intro j
  by_cases hj : j = k
  · rw [hj, un_s]; exact hx
  · rw [un_n hj]; exact h j
theorem ix_ne {p q : Nat} (h : p ≠ q) : ix p ≠ ix q := by unfold ix; omega
theorem ix_ne3 {p b : Nat} : ix p ≠ b * 64 + 3 := by unfold ix; omega
theorem ix_nb {p b i : Nat} (hi : i < 64) (h : b ≠ p / 56) : ix p ≠ b * 64 + i := by unfold ix; omega
theorem rel_open {vo : Nat → Int32} {np : Nat} {sb sa md mu fi : Nat → Nat} {sp : Nat → Int32} {sq : Nat → Nat} (h : RelV vo np sb sa md mu fi sp sq) (hnp : np < 4480) : RelO vo np sb sa md mu (aG fi np) (aS sp np) sq := by
  obtain ⟨v1, v2, v3, v4, v5, vs, v0, b1, b2, b3⟩ := h
  unfold aG aS
  by_cases hz : np % 56 = 0
  · rw [if_pos hz, if_pos hz]
    refine ⟨v1, v2, ⟨?_, pk_us⟩, fun b hb hlt => v4 b hb (Or.inl hlt), fun b hb i hi => ?_, fun b hb => ?_, v0, b1, b2, un_lt b3 (by decide)⟩
    · rw [v4 (np / 56) (by omega) (Or.inr ⟨rfl, hz⟩), un_s]
      exact ((bn_m1 (by decide)).mpr rfl).symm
    · rw [v5 b hb i hi, pm_congr (mu' := mu) (fi' := updN fi (np / 56) 255) (md' := md) rfl (un_n (by omega)) (fun _ _ => rfl) hi]
    · rw [pk_un (show b ≠ np / 56 by omega)]
      exact vs b hb
  · rw [if_neg hz, if_neg hz]
    exact ⟨v1, v2, v3 hz, fun b hb hlt => v4 b hb (Or.inl hlt), v5, vs, v0, b1, b2, b3⟩
theorem rel_note {vo : Nat → Int32} {np : Nat} {sb sa md mu fi : Nat → Nat} {sp : Nat → Int32} {sq : Nat → Nat} (h : RelO vo np sb sa md mu (aG fi np) sp sq) (hnp : np < 4480) : RelO (ntB vo np) np sb sa md mu (aF fi np) sp sq := by
  obtain ⟨v1, v2, ⟨v3, v3s⟩, v4, v5, vs, v0, b1, b2, b3⟩ := h
  unfold ntB aF
  by_cases hz : aG fi np (np / 56) = 255
  · rw [if_pos hz, if_pos (by rw [v3, hz]; exact (bn_m1 (by decide)).mpr rfl)]
    refine ⟨fun p hp hq => ?_, fun p hp hq => ?_, ⟨?_, v3s⟩, fun b hb hlt => ?_, fun b hb i hi => ?_, vs, v0, b1, b2, un_lt b3 (by omega)⟩
    · rw [pk_un ix_ne3]; exact v1 p hp hq
    · rw [pk_un ix_ne3]; exact v2 p hp hq
    · rw [pk_us, un_s]
    · rw [pk_un (by omega)]; exact v4 b hb hlt
    · rw [pk_un (by omega), v5 b hb i hi, pm_congr (mu' := mu) (fi' := updN (aG fi np) (np / 56) (np % 56)) (md' := md) rfl (un_n (by omega)) (fun _ _ => rfl) hi]
  · rw [if_neg hz, if_neg (by rw [v3, bn_m1 (b3 _)]; exact hz)]
    exact ⟨v1, v2, ⟨v3, v3s⟩, v4, v5, vs, v0, b1, b2, b3⟩
theorem rel_app {vo : Nat → Int32} {np : Nat} {sb sa md mu fi : Nat → Nat} {sp : Nat → Int32} {sq : Nat → Nat} {v1 v2 : Int32} (h : RelO vo np sb sa md mu fi sp sq) (hnp : np < 4480) (hv : lb v1 = lb v2) : RelV (apV vo np v1) (np + 1) sb sa (updN md np (lb v2)) (aU mu np) fi sp sq := by
  obtain ⟨w1, w2, ⟨w3, w3s⟩, w4, w5, ws, w0, b1, b2, b3⟩ := h
  have hbv : bn v1 = bn (nI (lb v2)) := by rw [← hv]; exact bn_lb v1
  have bmd : ∀ p, updN md np (lb v2) p < 256 := un_lt b1 (lb_lt v2)
  unfold apV aU
  by_cases hf : (np + 1) % 56 = 0
  · have hb0 : (np + 1) / 56 - 1 = np / 56 := by omega
    have hf2 : np % 56 + 1 = 56 := by omega
    rw [if_pos hf, if_pos hf2, hb0, hf2]
    have hdiv : (np + 1) / 56 = np / 56 + 1 := by omega
    have hblk := wb_block (vo := upd vo (ix np) (bn v1)) (b := np / 56) (u := 56) (mu := updN mu (np / 56) 56) (fi := fi) (md := updN md np (lb v2)) (by omega) (by decide) un_s (b3 _) (by rw [pk_un (Ne.symm ix_ne3)]; exact w3) (fun j _ => bmd _) (fun j hj => by
      have hix : np / 56 * 64 + 8 + j = ix (56 * (np / 56) + j) := by unfold ix; omega
      rw [hix]
      by_cases hj2 : 56 * (np / 56) + j = np
      · rw [hj2, pk_us, un_s]; exact hbv
      · rw [pk_un (ix_ne hj2), un_n hj2]
        exact w1 _ (by omega) (by omega))
    refine ⟨fun p hp hq => absurd hq (by omega), fun p hp hq => ?_, fun hq => absurd hf hq, fun b hb hq => ?_, fun b hb i hi => ?_, fun b hb => ?_, fun b hb => w0 b (by omega), bmd, un_lt b2 (by decide), b3⟩
    · rw [wb_out (by unfold ix; omega), pk_un (ix_ne (by omega))]
      exact w2 p (by omega) hq
    · rw [wb_out (by omega), pk_un (Ne.symm ix_ne3)]
      exact w4 b hb (by omega)
    · by_cases hbe : b = np / 56
      · rw [hbe, if_neg (by rw [w0 (np / 56) (Nat.le_refl _)]; simp)]
        exact hblk i hi
      · rw [wb_out (by omega), pk_un (Ne.symm (ix_nb hi hbe)), w5 b (by omega) i hi, pm_congr (mu' := updN mu (np / 56) 56) (fi' := fi) (md' := updN md np (lb v2)) (un_n hbe) rfl (fun j hj => un_n (by omega)) hi]
    · by_cases hbe : b = np / 56
      · rw [hbe]
        exact Or.inl ⟨w0 _ (Nat.le_refl _), w3s⟩
      · exact ws b (by omega)
  · have hf2 : ¬ np % 56 + 1 = 56 := by omega
    have hdiv : (np + 1) / 56 = np / 56 := by omega
    rw [if_neg hf, if_neg hf2]
    refine ⟨fun p hp hq => ?_, fun p hp hq => ?_, fun _ => ?_, fun b hb hq => ?_, fun b hb i hi => ?_, fun b hb => ws b (by omega), fun b hb => w0 b (by omega), bmd, b2, b3⟩
    · by_cases hpe : p = np
      · rw [hpe, pk_us, un_s]; exact hbv
      · rw [pk_un (ix_ne hpe), un_n hpe]
        exact w1 p (by omega) (by omega)
    · rw [pk_un (ix_ne (by omega))]
      exact w2 p (by omega) hq
    · rw [hdiv, pk_un (Ne.symm ix_ne3)]
      exact ⟨w3, w3s⟩
    · rw [pk_un (Ne.symm ix_ne3)]
      exact w4 b hb (by omega)
    · rw [pk_un (Ne.symm (ix_nb hi (by omega))), w5 b (by omega) i hi, pm_congr (mu' := mu) (fi' := fi) (md' := updN md np (lb v2)) rfl rfl (fun j hj => un_n (by omega)) hi]
theorem cz_at {md : Nat → Nat} {np : Nat} : ∀ n p, cz md np n p = if np ≤ p ∧ p < np + n then 0 else md p
  | 0, p => by rw [cz, if_neg (by omega)]
  | n + 1, p => by
    rw [cz]
    by_cases hp : p = np + n
    · rw [hp, un_s, if_pos (by omega)]
    · rw [un_n hp, cz_at n p]
      by_cases hq : np ≤ p ∧ p < np + n
      · rw [if_pos hq, if_pos (by omega)]
      · rw [if_neg hq, if_neg (by omega)]
theorem rel_close {vo : Nat → Int32} {np : Nat} {sb sa md mu fi : Nat → Nat} {sp : Nat → Int32} {sq : Nat → Nat} (h : RelV vo np sb sa md mu fi sp sq) (hnp : np ≤ 4480) (hu : np % 56 ≠ 0) : RelV (wbV vo (np / 56) (np % 56)) (np + (56 - np % 56)) sb sa (cz md np (56 - np % 56)) (updN mu (np / 56) (np % 56)) fi sp sq := by
  obtain ⟨w1, w2, w3, w4, w5, ws, w0, b1, b2, b3⟩ := h
  obtain ⟨w3, w3s⟩ := w3 hu
  have hdiv : (np + (56 - np % 56)) / 56 = np / 56 + 1 := by omega
  have hmod : (np + (56 - np % 56)) % 56 = 0 := by omega
  have bmd : ∀ p, cz md np (56 - np % 56) p < 256 := by
    intro p
    rw [cz_at]
    split
    · decide
    · exact b1 p
  have hblk := wb_block (vo := vo) (b := np / 56) (u := np % 56) (mu := updN mu (np / 56) (np % 56)) (fi := fi) (md := cz md np (56 - np % 56)) (by omega) (by omega) un_s (b3 _) w3 (fun j _ => bmd _) (fun j hj => by
    have hix : np / 56 * 64 + 8 + j = ix (56 * (np / 56) + j) := by unfold ix; omega
    rw [hix, cz_at]
    by_cases hj2 : np ≤ 56 * (np / 56) + j
    · rw [if_pos (by omega), w2 _ hj2 (by omega)]
      exact bn_z.symm
    · rw [if_neg (by omega)]
      exact w1 _ (by omega) (by omega))
  refine ⟨fun p hp hq => absurd hq (by omega), fun p hp hq => ?_, fun hq => absurd hmod hq, fun b hb hq => ?_, fun b hb i hi => ?_, fun b hb => ?_, fun b hb => w0 b (by omega), bmd, un_lt b2 (by omega), b3⟩
  · rw [wb_out (by unfold ix; omega)]
    exact w2 p (by omega) hq
  · rw [wb_out (by omega)]
    exact w4 b hb (by omega)
  · by_cases hbe : b = np / 56
    · rw [hbe, if_neg (by rw [w0 (np / 56) (Nat.le_refl _)]; simp)]
      exact hblk i hi
    · rw [wb_out (by omega), w5 b (by omega) i hi, pm_congr (mu' := updN mu (np / 56) (np % 56)) (fi' := fi) (md' := cz md np (56 - np % 56)) (un_n hbe) rfl (fun j hj => by rw [cz_at, if_neg (by omega)]) hi]
  · by_cases hbe : b = np / 56
    · rw [hbe]
      exact Or.inl ⟨w0 _ (Nat.le_refl _), w3s⟩
    · exact ws b (by omega)
end
section
def RelR (np : Nat) (rp rl ms mi ml mb mf mo my md : Nat → Nat) (kp r : Nat) : Prop :=
  rp r + rl r ≤ np ∧ rl r = 6 + ml r ∧ ml r ≤ 300 ∧ mf r = rp r / 56 ∧ mo r = (rp r + rl r - 1) / 56 ∧ ms r = md (rp r) ∧ mi r = md (rp r + 1) * 256 + md (rp r + 2) ∧ mb r + ml r ≤ kp ∧ ∀ j, j < ml r → my (mb r + j) = md (rp r + 6 + j)
def Rel (b : BSt) (q : MSt) : Prop := match b, q with
  | (tp, tl, vo, np, rp, rl, rc, sb, sa), (mt, kp, ms, mi, ml, mb, mf, mo, my, md, mu, fi, sp, sq) =>
    tl ≤ 300 ∧ np ≤ 4480 ∧ rc ≤ 200 ∧ (∀ k, k < 80 → sb k < 256) ∧ (∀ k, k < 80 → sa k < 64) ∧ (∀ k, k < tl → tp k = bn (nI (mt k)) ∧ mt k < 256) ∧ RelV vo np sb sa md mu fi sp sq ∧ kp + 6 * rc ≤ np ∧ ∀ r, r < rc → RelR np rp rl ms mi ml mb mf mo my md kp r
def b0 : BSt := (fun _ => 0, 0, iniV 80, 0, fun _ => 0, fun _ => 0, 0, fun _ => 0, fun _ => 0)
def q0 : MSt := (fun _ => 0, 0, fun _ => 0, fun _ => 0, fun _ => 0, fun _ => 0, fun _ => 0, fun _ => 0, fun _ => 0, fun _ => 0, fun _ => 0, fun _ => 0, fun _ => 0, fun _ => 0)
theorem ini_n : ∀ n j, (∀ b, j ≠ b * 64 + 3) → iniV n j = 0
  | 0, _, _ => rfl
  | n + 1, j, h => by rw [iniV, pk_un (h n), ini_n n j h]
theorem ini_3 : ∀ n b, b < n → iniV n (b * 64 + 3) = -1
  | 0, b, h => absurd h (Nat.not_lt_zero b)
  | n + 1, b, h => by
    by_cases hb : b = n
    · rw [hb, iniV, pk_us]
    · rw [iniV, pk_un (by omega), ini_3 n b (by omega)]
theorem rel0 : Rel b0 q0 := by
  refine ⟨by decide, by decide, by decide, fun _ _ => (show (0 : Nat) < 256 by decide), fun _ _ => (show (0 : Nat) < 64 by decide), fun k hk => absurd hk (Nat.not_lt_zero k), ?_, Nat.le_refl _, fun r hr => absurd hr (Nat.not_lt_zero r)⟩
  refine ⟨fun p hp => absurd hp (Nat.not_lt_zero p), fun p _ _ => ini_n 80 _ (fun b => ix_ne3), fun h => absurd rfl h, fun b hb _ => ini_3 80 b hb, fun b hb => absurd hb (Nat.not_lt_zero b), fun b hb => absurd hb (Nat.not_lt_zero b), fun _ _ => rfl, fun _ => (show (0 : Nat) < 256 by decide), fun _ => (show (0 : Nat) < 256 by decide), fun _ => (show (0 : Nat) < 256 by decide)⟩
theorem rel_ok {b : BSt} {q : MSt} (h : Rel b q) : bOk b := by
  obtain ⟨tp, tl, vo, np, rp, rl, rc, sb, sa⟩ := b
  obtain ⟨mt, kp, ms, mi, ml, mb, mf, mo, my, md, mu, fi, sp, sq⟩ := q
  obtain ⟨h1, h2, h3, h4, h5, h6, h7, h8, h9⟩ := h
  exact ⟨h1, h2, h3, h4, h5, fun k hk => by obtain ⟨g1, g2, g3, -⟩ := h9 k hk; omega⟩
theorem rel_sp {vo : Nat → Int32} {np : Nat} {sb sa md mu fi : Nat → Nat} {sp : Nat → Int32} {sq : Nat → Nat} (h : RelV vo np sb sa md mu fi sp sq) (hnp : np ≤ 4480) (hsa : ∀ k, k < 80 → sa k < 64) : ∀ b, b < np / 56 → ((sp b).toInt < 0 ↔ sb b = 0) := by
  intro b hb
  obtain ⟨-, -, -, -, -, vs, -⟩ := h
  have hs := hsa b (by omega)
  rcases vs b hb with ⟨e1, e2⟩ | ⟨e1, e2, -⟩
  · rw [e2]
    exact ⟨fun _ => e1, fun _ => by decide⟩
  · rw [e2, nI_toInt (by omega)]
    omega
theorem feed_rel {tp : Nat → Int32} {mt : Nat → Nat} {tl : Nat} {v : Int32} (h : ∀ k, k < tl → tp k = bn (nI (mt k)) ∧ mt k < 256) : ∀ n, n ≤ 4 → ∀ k, k < tl + n → fdT tp tl v n k = bn (nI (fdM mt tl v n k)) ∧ fdM mt tl v n k < 256
  | 0, _, k, hk => h k hk
  | n + 1, hn, k, hk => by
    rw [fdT, fdM]
    by_cases hkn : k = tl + n
    · rw [hkn, pk_us, un_s]
      exact ⟨bn_of_lb (by rw [lb_n (lb_lt _), lb_shift (by omega)]), lb_lt _⟩
    · rw [pk_un hkn, un_n hkn]
      exact feed_rel h n (by omega) k (by omega)
theorem rel_loop {vo : Nat → Int32} {np : Nat} {sb sa md mu fi : Nat → Nat} {sp : Nat → Int32} {sq : Nat → Nat} {tp : Nat → Int32} {mt : Nat → Nat} {tl : Nat} (h : RelV vo np sb sa md mu fi sp sq) (hnp : np + tl ≤ 4480) (ht : ∀ k, k < tl → tp k = bn (nI (mt k)) ∧ mt k < 256) : ∀ k, k ≤ tl → RelV (apL vo np tp k) (np + k) sb sa (lD md np mt k) (lU mu np k) (lG fi np k) (lS sp np k) sq
  | 0, _ => h
  | k + 1, hk => rel_app (rel_open (rel_loop h hnp ht k (by omega)) (by omega)) (by omega) (by rw [(ht k (by omega)).1, lb_bn])
theorem rel_row {vo : Nat → Int32} {np : Nat} {sb sa md mu fi : Nat → Nat} {sp : Nat → Int32} {sq : Nat → Nat} {tp : Nat → Int32} {mt : Nat → Nat} {tl : Nat} {sv iv : Int32} (h : RelV vo np sb sa md mu fi sp sq) (hnp : np + 6 + tl ≤ 4480) (ht : ∀ k, k < tl → tp k = bn (nI (mt k)) ∧ mt k < 256) : RelV (apR (ntB vo np) np sv iv tp tl) (np + 6 + tl) sb sa (lD (hD6 md np sv iv tl) (np + 6) mt tl) (lU (lU mu np 6) (np + 6) tl) (lG (lG (aF fi np) (np + 1) 5) (np + 6) tl) (lS (lS sp np 6) (np + 6) tl) sq := by
  have h1 := rel_app (v1 := sv) (v2 := sv) (rel_note (rel_open h (by omega)) (by omega)) (by omega) rfl
  have h2 := rel_app (v1 := ush iv 8) (v2 := iv >>> (nI 8 &&& 31)) (rel_open h1 (by omega)) (by omega) (lb_shift (by decide) iv)
  have h3 := rel_app (v1 := iv) (v2 := iv) (rel_open h2 (by omega)) (by omega) rfl
  have h4 := rel_app (v1 := ush (nI tl) 8) (v2 := nI tl >>> (nI 8 &&& 31)) (rel_open h3 (by omega)) (by omega) (lb_shift (by decide) _)
  have h5 := rel_app (v1 := nI tl) (v2 := nI tl) (rel_open h4 (by omega)) (by omega) rfl
  have h6 := rel_app (v1 := nI 90) (v2 := nI 90) (rel_open h5 (by omega)) (by omega) rfl
  have h7 : RelV (apH (ntB vo np) np sv iv tl) (np + 6) sb sa (hD6 md np sv iv tl) (lU mu np 6) (lG (aF fi np) (np + 1) 5) (lS sp np 6) sq := h6
  exact rel_loop h7 (by omega) ht tl (Nat.le_refl _)
theorem lD_old {md : Nat → Nat} {np : Nat} {mt : Nat → Nat} : ∀ k p, p < np → lD md np mt k p = md p
  | 0, _, _ => rfl
  | k + 1, p, h => by rw [lD, un_n (by omega), lD_old k p h]
theorem lD_new {md : Nat → Nat} {np : Nat} {mt : Nat → Nat} : ∀ k j, j < k → lD md np mt k (np + j) = lb (nI (mt j))
  | 0, j, h => absurd h (Nat.not_lt_zero j)
  | k + 1, j, h => by
    by_cases hj : j = k
    · rw [hj, lD, un_s]
    · rw [lD, un_n (by omega), lD_new k j (by omega)]
theorem lY_old {my : Nat → Nat} {kp : Nat} {mt : Nat → Nat} : ∀ k p, p < kp → lY my kp mt k p = my p
  | 0, _, _ => rfl
  | k + 1, p, h => by rw [lY, un_n (by omega), lY_old k p h]
theorem lY_new {my : Nat → Nat} {kp : Nat} {mt : Nat → Nat} : ∀ k j, j < k → lY my kp mt k (kp + j) = mt j
  | 0, j, h => absurd h (Nat.not_lt_zero j)
  | k + 1, j, h => by
    by_cases hj : j = k
    · rw [hj, lY, un_s]
    · rw [lY, un_n (by omega), lY_new k j (by omega)]
theorem lO_old {mo : Nat → Nat} {r np : Nat} : ∀ k p, p ≠ r → lO mo r np k p = mo p
  | 0, _, _ => rfl
  | k + 1, p, h => by rw [lO, un_n h, lO_old k p h]
theorem lO_new {mo : Nat → Nat} {r np v : Nat} (h : mo r = (np + v) / 56) : ∀ k, lO mo r (np + v + 1) k r = (np + v + k) / 56
  | 0 => h
  | k + 1 => by rw [lO, un_s, show np + v + 1 + k = np + v + (k + 1) by omega]
theorem hD6_old {md : Nat → Nat} {np : Nat} {sv iv : Int32} {tl p : Nat} (h : p < np) : hD6 md np sv iv tl p = md p := by
  unfold hD6
  rw [un_n (by omega), un_n (by omega), un_n (by omega), un_n (by omega), un_n (by omega), un_n (by omega)]
theorem hD6_0 {md : Nat → Nat} {np : Nat} {sv iv : Int32} {tl : Nat} : hD6 md np sv iv tl np = lb sv := by
  unfold hD6
  rw [un_n (by omega), un_n (by omega), un_n (by omega), un_n (by omega), un_n (by omega), un_s]
theorem hD6_1 {md : Nat → Nat} {np : Nat} {sv iv : Int32} {tl : Nat} : hD6 md np sv iv tl (np + 1) = lb (iv >>> (nI 8 &&& 31)) := by
  unfold hD6
  rw [un_n (by omega), un_n (by omega), un_n (by omega), un_n (by omega), un_s]
theorem hD6_2 {md : Nat → Nat} {np : Nat} {sv iv : Int32} {tl : Nat} : hD6 md np sv iv tl (np + 2) = lb iv := by
  unfold hD6
  rw [un_n (by omega), un_n (by omega), un_n (by omega), un_s]
theorem row_old {np : Nat} {rp rl ms mi ml mb mf mo my md : Nat → Nat} {kp r : Nat} {np' kp' : Nat} {rp' rl' ms' mi' ml' mb' mf' mo' my' md' : Nat → Nat} (h : RelR np rp rl ms mi ml mb mf mo my md kp r) (hn : np ≤ np') (hk : kp ≤ kp') (e1 : rp' r = rp r) (e2 : rl' r = rl r) (e3 : ms' r = ms r) (e4 : mi' r = mi r) (e5 : ml' r = ml r) (e6 : mb' r = mb r) (e7 : mf' r = mf r) (e8 : mo' r = mo r) (e9 : ∀ p, p < kp → my' p = my p) (e10 : ∀ p, p < np → md' p = md p) : RelR np' rp' rl' ms' mi' ml' mb' mf' mo' my' md' kp' r := by
  obtain ⟨h1, h2, h3, h4, h5, h6, h7, h8, h9⟩ := h
  unfold RelR
  rw [e1, e2, e3, e4, e5, e6, e7, e8]
  refine ⟨by omega, h2, h3, h4, h5, ?_, ?_, by omega, fun j hj => ?_⟩
  · rw [e10 _ (by omega)]; exact h6
  · rw [e10 _ (by omega), e10 _ (by omega)]; exact h7
  · rw [e9 _ (by omega), e10 _ (by omega)]; exact h9 j hj
theorem row_new {np : Nat} {rp rl ms mi ml mb mf mo my md mt : Nat → Nat} {kp rc tl js ji : Nat} (hjs : js < 256) (hji : ji < 65536) (htl : tl ≤ 300) (hmt : ∀ k, k < tl → mt k < 256) : RelR (np + 6 + tl) (updN rp rc np) (updN rl rc (6 + tl)) (updN ms rc js) (updN mi rc ji) (updN ml rc tl) (updN mb rc kp) (updN mf rc (np / 56)) (lO (updN mo rc ((np + 5) / 56)) rc (np + 6) tl) (lY my kp mt tl) (lD (hD6 md np (nI js) (nI ji) tl) (np + 6) mt tl) (kp + tl) rc := by
  unfold RelR
  rw [un_s, un_s, un_s, un_s, un_s, un_s, un_s]
  refine ⟨by omega, rfl, htl, rfl, ?_, ?_, ?_, Nat.le_refl _, fun j hj => ?_⟩
  · rw [lO_new (np := np) (v := 5) un_s tl]
    congr 1
    omega
  · rw [lD_old tl np (by omega), hD6_0, lb_n hjs]
  · rw [lD_old tl (np + 1) (by omega), lD_old tl (np + 2) (by omega), hD6_1, hD6_2, pk_shrN (by omega) (nI 8 &&& 31) 8 (by decide), lb_n (by omega), lb, pk_tn (by omega)]
    omega
  · rw [lY_new tl j hj, lD_new tl j hj, lb_n (hmt j hj)]
theorem byte_eq {vo : Nat → Int32} {np : Nat} {sb sa md mu fi : Nat → Nat} {sp : Nat → Int32} {sq : Nat → Nat} (h : RelV vo np sb sa md mu fi sp sq) (hnp : np ≤ 4480) (hsa : ∀ k, k < 80 → sa k < 64) (x i : Int32) : bof np vo x i = byM np mu fi md sp sq x i := by
  obtain ⟨v1, v2, v3, v4, v5, vs, v0, b1, b2, b3⟩ := h
  by_cases hc : isW np x = true ∧ inB i = true
  · obtain ⟨hx, hi⟩ := hc
    rw [bof_t hx hi]
    obtain ⟨j, hj, rfl⟩ := isW_of hx
    obtain ⟨k, hk, rfl⟩ := inB_of hi
    rw [byM_t hj hk hnp, nI_tn (by omega), nI_tn (by omega), v5 j hj k hk]
    have hpm := pm_lt (mu := mu) (fi := fi) (md := md) (b := j) (i := k) (by omega) b2 b3 b1 hk
    have hsj := hsa j (by omega)
    unfold byN
    rcases vs j hj with ⟨e1, e2⟩ | ⟨e1, e2, e3⟩
    · rw [if_neg (by rw [e1]; simp), if_neg (by rw [e2]; exact fun h9 => nI_nm1 (show k < 2 ^ 31 by omega) h9.symm), bn_and, lb_n hpm]
    · by_cases hk2 : sa j = k
      · rw [if_pos ⟨e1, hk2⟩, if_pos (by rw [e2, hk2]), bn_and, e3, nI_add]
      · rw [if_neg (fun h9 => hk2 h9.2), if_neg (by rw [e2, nI_eq (by omega) (by omega)]; exact hk2), bn_and, lb_n hpm]
  · rw [bof, if_neg hc, byM, if_neg hc]
theorem rel_spoil {vo : Nat → Int32} {np : Nat} {sb sa md mu fi : Nat → Nat} {sp : Nat → Int32} {sq : Nat → Nat} {j k w : Nat} (h : RelV vo np sb sa md mu fi sp sq) (hnp : np ≤ 4480) (hj : j < np / 56) (hk : k < 64) (hw : w ≠ 0) (h0 : sb j = 0) : RelV (upd vo (j * 64 + k) (bn (vo (j * 64 + k) + nI w))) np (updN sb j w) (updN sa j k) md mu fi (upd sp j (nI k)) (updN sq j w) := by
  obtain ⟨v1, v2, v3, v4, v5, vs, v0, b1, b2, b3⟩ := h
  refine ⟨fun p hp hq => ?_, fun p hp hq => ?_, fun hq => ?_, fun b hb hq => ?_, fun b hb i hi => ?_, fun b hb => ?_, fun b hb => ?_, b1, b2, b3⟩
  · rw [pk_un (ix_nb hk (by omega))]; exact v1 p hp hq
  · rw [pk_un (ix_nb hk (by omega))]; exact v2 p hp hq
  · rw [pk_un (by omega), pk_un (show np / 56 ≠ j by omega)]; exact v3 hq
  · rw [pk_un (by omega)]; exact v4 b hb hq
  · by_cases hb2 : b = j
    · subst hb2
      rw [un_s, un_s]
      by_cases hi2 : k = i
      · subst hi2
        rw [pk_us, if_pos ⟨hw, rfl⟩, v5 b hb k hk, if_neg (by rw [h0]; simp), bn_add]
      · rw [pk_un (by omega), if_neg (fun h9 => hi2 h9.2), v5 b hb i hi, if_neg (by rw [h0]; simp)]
    · rw [pk_un (by omega), un_n hb2, un_n hb2]; exact v5 b hb i hi
  · by_cases hb2 : b = j
    · subst hb2
      rw [un_s, un_s, un_s, pk_us]
      exact Or.inr ⟨hw, rfl, rfl⟩
    · rw [un_n hb2, un_n hb2, un_n hb2, pk_un hb2]; exact vs b hb
  · rw [un_n (by omega)]; exact v0 b hb
theorem rel_heal {vo : Nat → Int32} {np : Nat} {sb sa md mu fi : Nat → Nat} {sp : Nat → Int32} {sq : Nat → Nat} {j : Nat} (h : RelV vo np sb sa md mu fi sp sq) (hnp : np ≤ 4480) (hj : j < np / 56) (hsa : ∀ k, k < 80 → sa k < 64) (h0 : sb j ≠ 0) : RelV (upd vo (j * 64 + sa j) (bn (vo (j * 64 + sa j) + -(nI (sb j))))) np (updN sb j 0) sa md mu fi (upd sp j (-1)) sq := by
  obtain ⟨v1, v2, v3, v4, v5, vs, v0, b1, b2, b3⟩ := h
  have hk := hsa j (by omega)
  refine ⟨fun p hp hq => ?_, fun p hp hq => ?_, fun hq => ?_, fun b hb hq => ?_, fun b hb i hi => ?_, fun b hb => ?_, fun b hb => ?_, b1, b2, b3⟩
  · rw [pk_un (ix_nb hk (by omega))]; exact v1 p hp hq
  · rw [pk_un (ix_nb hk (by omega))]; exact v2 p hp hq
  · rw [pk_un (by omega), pk_un (show np / 56 ≠ j by omega)]; exact v3 hq
  · rw [pk_un (by omega)]; exact v4 b hb hq
  · by_cases hb2 : b = j
    · subst hb2
      rw [un_s, if_neg (by simp)]
      by_cases hi2 : sa b = i
      · subst hi2
        rw [pk_us, v5 b hb (sa b) hk, if_pos ⟨h0, rfl⟩, bn_cancel]
      · rw [pk_un (by omega), v5 b hb i hi, if_neg (fun h9 => hi2 h9.2)]
    · rw [pk_un (by omega), un_n hb2]; exact v5 b hb i hi
  · by_cases hb2 : b = j
    · subst hb2
      rw [un_s, pk_us]
      exact Or.inl ⟨rfl, rfl⟩
    · rw [un_n hb2, pk_un hb2]; exact vs b hb
  · by_cases hb2 : b = j
    · subst hb2; exact un_s
    · rw [un_n hb2]; exact v0 b hb
theorem rOf_rd {rd : Nat → Bool} {i : Int32} {r : Nat} (hr : r < 2 ^ 31) : ∀ (n k q : Nat), k + n < 2 ^ 31 → rOf rd i n k q = nI r → rd r = true
  | 0, _, _, _, h => absurd h.symm (nI_nm1 hr)
  | n + 1, k, q, hk, h => by
    rw [rOf] at h
    by_cases h1 : rd k = true
    · rw [if_pos h1] at h
      by_cases h2 : nI q = i
      · rw [if_pos h2, nI_eq (by omega) hr] at h
        rw [← h]; exact h1
      · rw [if_neg h2] at h
        exact rOf_rd hr n (k + 1) (q + 1) (by omega) h
    · rw [if_neg h1] at h
      exact rOf_rd hr n (k + 1) q (by omega) h
theorem rOf_neg {rd : Nat → Bool} {i : Int32} (hi : i.toInt < 0) : ∀ (n k q : Nat), q + n < 2 ^ 31 → rOf rd i n k q = -1
  | 0, _, _, _ => rfl
  | n + 1, k, q, hq => by
    rw [rOf]
    by_cases h1 : rd k = true
    · rw [if_pos h1, if_neg (by rintro rfl; rw [nI_toInt (by omega)] at hi; omega)]
      exact rOf_neg hi n (k + 1) (q + 1) (by omega)
    · rw [if_neg h1]
      exact rOf_neg hi n (k + 1) q (by omega)
theorem allG_of {np : Nat} {sb : Nat → Nat} : ∀ n b, allG np sb n b = true → ∀ c, b ≤ c → c < b + n → gd np sb c = true
  | 0, b, _, c, h1, h2 => absurd h2 (by omega)
  | n + 1, b, h, c, h1, h2 => by
    rw [allG, Bool.and_eq_true] at h
    by_cases hc : c = b
    · rw [hc]; exact h.1
    · exact allG_of n (b + 1) h.2 c (by omega) (by omega)
theorem good_byte {vo : Nat → Int32} {np : Nat} {sb sa md mu fi : Nat → Nat} {sp : Nat → Int32} {sq : Nat → Nat} (h : RelV vo np sb sa md mu fi sp sq) {p : Nat} (hg : gd np sb (p / 56) = true) : (vo (ix p) &&& nI 255) = nI (md p) := by
  obtain ⟨v1, v2, v3, v4, v5, vs, v0, b1, b2, b3⟩ := h
  simp only [gd, Bool.and_eq_true, decide_eq_true_eq] at hg
  have h5 := v5 (p / 56) hg.1 (8 + p % 56) (by omega)
  rw [if_neg (by rw [hg.2]; simp), show p / 56 * 64 + (8 + p % 56) = ix p by unfold ix; omega] at h5
  rw [h5, bn_and]
  have hpm : pmN mu fi md (p / 56) (8 + p % 56) = md p := by
    unfold pmN plN
    rw [if_neg (by omega), if_neg (by omega), if_neg (by omega), if_neg (by omega), if_neg (by omega)]
    congr 1
    omega
  rw [hpm, lb_n (b1 p)]
theorem read_eq {vo : Nat → Int32} {np : Nat} {sb sa md mu fi : Nat → Nat} {sp : Nat → Int32} {sq : Nat → Nat} {rp rl ms mi ml mb mf mo my : Nat → Nat} {kp r : Nat} (h : RelV vo np sb sa md mu fi sp sq) (hr : RelR np rp rl ms mi ml mb mf mo my md kp r) (hrd : isR np sb rp rl r = true) (hnp : np ≤ 4480) (x : Int32) : rdW vo rp rl r x = rdM ms mi ml mf mb my r x := by
  obtain ⟨h1, h2, h3, h4, h5, h6, h7, h8, h9⟩ := hr
  have hb1 : ∀ p, md p < 256 := by obtain ⟨-, -, -, -, -, -, -, b1, -⟩ := h; exact b1
  have hby : ∀ j, j < rl r → (vo (ix (rp r + j)) &&& nI 255) = nI (md (rp r + j)) := fun j hj => good_byte h (allG_of _ _ hrd _ (by omega) (by omega))
  rcases kx_sw x 4 with hx | ⟨q, hq, rfl⟩
  · by_cases hx0 : x.toInt < 0
    · rw [rdW_lo hx0, rdM_no (Or.inl hx0) (by omega)]
    · obtain ⟨q, hq, rfl⟩ := kx_of (x := x) (by omega)
      rw [nI_toInt hq] at hx hx0
      rw [rdW_hi (by rw [nI_toInt hq]; omega), rdM_q (by omega), pk_sub (by omega)]
      by_cases hl : q - 4 < ml r
      · rw [recB_n (by omega) (by omega), if_pos hl, hby _ (by omega), h9 _ hl, show rp r + (6 + (q - 4)) = rp r + 6 + (q - 4) by omega]
      · rw [recB, nI_toInt (by omega), if_neg (by omega), if_neg hl]
  · have hq4 : q = 0 ∨ q = 1 ∨ q = 2 ∨ q = 3 := by omega
    rcases hq4 with rfl | rfl | rfl | rfl
    · show (vo (ix (rp r + 0)) &&& nI 255) = nI (ms r)
      rw [hby 0 (by omega), h6]; rfl
    · show ((vo (ix (rp r + 1)) &&& nI 255) <<< (nI 8 &&& 31)) ||| (vo (ix (rp r + 2)) &&& nI 255) = nI (mi r)
      rw [hby 1 (by omega), hby 2 (by omega), two_bytes (hb1 _) (hb1 _), h7]
    · show nI (rl r - 6) = nI (ml r)
      rw [h2, show 6 + ml r - 6 = ml r by omega]
    · show nI (rp r / 56) = nI (mf r)
      rw [h4]
end
section
set_option maxHeartbeats 4000000 in
set_option maxRecDepth 100000 in
theorem op_feed {b : BSt} {q : MSt} (hR : Rel b q) (x1 x2 : Int32) : ∃ (r : Int32) (b2 : BSt) (q2 : MSt), Rel b2 q2 ∧ (∀ (l : Launch) (dC : Nat → ClassId) (dI : Nat → Nat → Nat) (h a1 a2 a3 a4 a5 a6 : Nat) (cb ci : ClassId) (sz : Nat), Met l yX0_feed wsX0_feed ({ frames := 0, cells := 0, slots := 0, locals := 0 }) (kPre (dC, dI) vwCl (wBs h a1 a2 a3 a4 a5 a6 cb ci b) (tB cb ci) sz [.ref h, .int x1, .int x2]) (kQi (dC, dI) vwCl (wBs h a1 a2 a3 a4 a5 a6 cb ci b) (tB cb ci) sz r (wBs h a1 a2 a3 a4 a5 a6 cb ci b2)) 0 0 (va_A (wBs h a1 a2 a3 a4 a5 a6 cb ci b) sz)) ∧ (∀ (l : Launch) (dC : Nat → ClassId) (dI : Nat → Nat → Nat) (g m1 m2 m3 m4 m5 m6 m7 m8 m9 m10 m11 m12 m13 : Nat) (ck : ClassId) (sz : Nat), Met l yM_feed wsM_feed ({ frames := 0, cells := 0, slots := 0, locals := 0 }) (kPre (dC, dI) vwCl (wMs g m1 m2 m3 m4 m5 m6 m7 m8 m9 m10 m11 m12 m13 ck b q) (tM ck) sz [.ref g, .int x1, .int x2]) (kQi (dC, dI) vwCl (wMs g m1 m2 m3 m4 m5 m6 m7 m8 m9 m10 m11 m12 m13 ck b q) (tM ck) sz r (wMs g m1 m2 m3 m4 m5 m6 m7 m8 m9 m10 m11 m12 m13 ck b2 q2)) 0 0 (va_A (wMs g m1 m2 m3 m4 m5 m6 m7 m8 m9 m10 m11 m12 m13 ck b q) sz)) := by
  obtain ⟨tp, tl, vo, np, rp, rl, rc, sb, sa⟩ := b
  obtain ⟨mt, kp, ms, mi, ml, mb, mf, mo, my, md, mu, fi, sp, sq⟩ := q
  have hR0 : Rel (tp, tl, vo, np, rp, rl, rc, sb, sa) (mt, kp, ms, mi, ml, mb, mf, mo, my, md, mu, fi, sp, sq) := hR
  obtain ⟨htl, hnp, hrc, hsb, hsa, htp, hv, hkp, hrw⟩ := hR0
  by_cases hc : okFeed x2 (tp, tl, vo, np, rp, rl, rc, sb, sa)
  · obtain ⟨h1, h2, h3⟩ := id hc
    dsimp only at h3
    have hx := vpos (x := x2) (by omega)
    refine ⟨nI (tl + x2.toInt.toNat), tFeed x1 x2 (tp, tl, vo, np, rp, rl, rc, sb, sa), (fdM mt tl x1 x2.toInt.toNat, kp, ms, mi, ml, mb, mf, mo, my, md, mu, fi, sp, sq), ?_, fun l dC dI h a1 a2 a3 a4 a5 a6 cb ci sz => k_feed l dC dI h a1 a2 a3 a4 a5 a6 cb ci sz _ (rel_ok hR) x1 x2 hc, fun l dC dI g m1 m2 m3 m4 m5 m6 m7 m8 m9 m10 m11 m12 m13 ck sz => ?_⟩
    · exact ⟨by omega, hnp, hrc, hsb, hsa, feed_rel htp _ (by omega), hv, hkp, hrw⟩
    · have h := r_feed l dC dI g m1 m2 m3 m4 m5 m6 m7 m8 m9 m10 m11 m12 m13 ck mt tl rc kp ms mi ml mb mf mo my np md mu fi sp sq sz x1 x2.toInt.toNat ⟨by omega, by omega⟩ (by omega)
      rw [← hx] at h
      exact h
  · exact ⟨-1, (tp, tl, vo, np, rp, rl, rc, sb, sa), (mt, kp, ms, mi, ml, mb, mf, mo, my, md, mu, fi, sp, sq), hR, fun l dC dI h a1 a2 a3 a4 a5 a6 cb ci sz => k_feedN l dC dI h a1 a2 a3 a4 a5 a6 cb ci sz _ (rel_ok hR) x1 x2 hc, fun l dC dI g m1 m2 m3 m4 m5 m6 m7 m8 m9 m10 m11 m12 m13 ck sz => r_feedN l dC dI g m1 m2 m3 m4 m5 m6 m7 m8 m9 m10 m11 m12 m13 ck mt tl rc kp ms mi ml mb mf mo my np md mu fi sp sq sz x1 x2 htl hc⟩
set_option maxHeartbeats 4000000 in
set_option maxRecDepth 100000 in
theorem op_put {b : BSt} {q : MSt} (hR : Rel b q) (x1 x2 : Int32) : ∃ (r : Int32) (b2 : BSt) (q2 : MSt), Rel b2 q2 ∧ (∀ (l : Launch) (dC : Nat → ClassId) (dI : Nat → Nat → Nat) (h a1 a2 a3 a4 a5 a6 : Nat) (cb ci : ClassId) (sz : Nat), Met l yX0_put wsX0_put ({ frames := 5, cells := 0, slots := 0, locals := 117 }) (kPre (dC, dI) vwCl (wBs h a1 a2 a3 a4 a5 a6 cb ci b) (tB cb ci) sz [.ref h, .int x1, .int x2]) (kQi (dC, dI) vwCl (wBs h a1 a2 a3 a4 a5 a6 cb ci b) (tB cb ci) sz r (wBs h a1 a2 a3 a4 a5 a6 cb ci b2)) 0 0 (va_A (wBs h a1 a2 a3 a4 a5 a6 cb ci b) sz)) ∧ (∀ (l : Launch) (dC : Nat → ClassId) (dI : Nat → Nat → Nat) (g m1 m2 m3 m4 m5 m6 m7 m8 m9 m10 m11 m12 m13 : Nat) (ck : ClassId) (sz : Nat), Met l yM_put wsM_put ({ frames := 2, cells := 0, slots := 0, locals := 42 }) (kPre (dC, dI) vwCl (wMs g m1 m2 m3 m4 m5 m6 m7 m8 m9 m10 m11 m12 m13 ck b q) (tM ck) sz [.ref g, .int x1, .int x2]) (kQi (dC, dI) vwCl (wMs g m1 m2 m3 m4 m5 m6 m7 m8 m9 m10 m11 m12 m13 ck b q) (tM ck) sz r (wMs g m1 m2 m3 m4 m5 m6 m7 m8 m9 m10 m11 m12 m13 ck b2 q2)) 0 0 (va_A (wMs g m1 m2 m3 m4 m5 m6 m7 m8 m9 m10 m11 m12 m13 ck b q) sz)) := by
  obtain ⟨tp, tl, vo, np, rp, rl, rc, sb, sa⟩ := b
  obtain ⟨mt, kp, ms, mi, ml, mb, mf, mo, my, md, mu, fi, sp, sq⟩ := q
  have hR0 : Rel (tp, tl, vo, np, rp, rl, rc, sb, sa) (mt, kp, ms, mi, ml, mb, mf, mo, my, md, mu, fi, sp, sq) := hR
  obtain ⟨htl, hnp, hrc, hsb, hsa, htp, hv, hkp, hrw⟩ := hR0
  by_cases hc : okPut x1 x2 (tp, tl, vo, np, rp, rl, rc, sb, sa)
  · obtain ⟨h1, h2, h3, h4, h5, h6⟩ := id hc
    dsimp only at h5 h6
    refine ⟨nI rc, tPut x1 x2 (tp, tl, vo, np, rp, rl, rc, sb, sa), (mt, kp + tl, updN ms rc x1.toInt.toNat, updN mi rc x2.toInt.toNat, updN ml rc tl, updN mb rc kp, updN mf rc (np / 56), lO (updN mo rc ((np + 5) / 56)) rc (np + 6) tl, lY my kp mt tl, lD (hD6 md np x1 x2 tl) (np + 6) mt tl, lU (lU mu np 6) (np + 6) tl, lG (lG (aF fi np) (np + 1) 5) (np + 6) tl, lS (lS sp np 6) (np + 6) tl, sq), ?_, fun l dC dI h a1 a2 a3 a4 a5 a6 cb ci sz => k_put l dC dI h a1 a2 a3 a4 a5 a6 cb ci sz _ (rel_ok hR) x1 x2 hc, fun l dC dI g m1 m2 m3 m4 m5 m6 m7 m8 m9 m10 m11 m12 m13 ck sz => ?_⟩
    · refine ⟨Nat.zero_le _, h6, h5, hsb, hsa, fun k hk => absurd hk (Nat.not_lt_zero k), rel_row hv h6 htp, by omega, fun r hr => ?_⟩
      by_cases hre : r = rc
      · rw [hre]
        obtain ⟨js, hjs, rfl⟩ := kx_of (x := x1) h1
        obtain ⟨ji, hji, rfl⟩ := kx_of (x := x2) h3
        rw [nI_toInt hjs] at h2
        rw [nI_toInt hji] at h4
        rw [nI_tn hjs, nI_tn hji]
        exact row_new (by omega) (by omega) htl (fun k hk => (htp k hk).2)
      · exact row_old (hrw r (by omega)) (by omega) (by omega) (un_n hre) (un_n hre) (un_n hre) (un_n hre) (un_n hre) (un_n hre) (un_n hre) ((lO_old tl r hre).trans (un_n hre)) (fun p hp => lY_old tl p hp) (fun p hp => (lD_old tl p (by omega)).trans (hD6_old hp))
    · exact r_put l dC dI g m1 m2 m3 m4 m5 m6 m7 m8 m9 m10 m11 m12 m13 ck mt tl rc kp ms mi ml mb mf mo my np md mu fi sp sq sz x1 x2 htl hnp hrc ⟨h1, h2⟩ ⟨h3, h4⟩ ⟨h5, h6⟩ (by omega) (by obtain ⟨-, -, -, -, -, -, -, -, -, b3⟩ := hv; exact b3 _)
  · exact ⟨-1, (tp, tl, vo, np, rp, rl, rc, sb, sa), (mt, kp, ms, mi, ml, mb, mf, mo, my, md, mu, fi, sp, sq), hR, fun l dC dI h a1 a2 a3 a4 a5 a6 cb ci sz => k_putN l dC dI h a1 a2 a3 a4 a5 a6 cb ci sz _ (rel_ok hR) x1 x2 hc, fun l dC dI g m1 m2 m3 m4 m5 m6 m7 m8 m9 m10 m11 m12 m13 ck sz => r_putN l dC dI g m1 m2 m3 m4 m5 m6 m7 m8 m9 m10 m11 m12 m13 ck mt tl rc kp ms mi ml mb mf mo my np md mu fi sp sq sz x1 x2 htl hnp hrc hc⟩
set_option maxHeartbeats 4000000 in
set_option maxRecDepth 100000 in
theorem op_close {b : BSt} {q : MSt} (hR : Rel b q) : ∃ (r : Int32) (b2 : BSt) (q2 : MSt), Rel b2 q2 ∧ (∀ (l : Launch) (dC : Nat → ClassId) (dI : Nat → Nat → Nat) (h a1 a2 a3 a4 a5 a6 : Nat) (cb ci : ClassId) (sz : Nat), Met l yX0_close wsX0_close ({ frames := 3, cells := 0, slots := 0, locals := 73 }) (kPre (dC, dI) vwCl (wBs h a1 a2 a3 a4 a5 a6 cb ci b) (tB cb ci) sz [.ref h]) (kQi (dC, dI) vwCl (wBs h a1 a2 a3 a4 a5 a6 cb ci b) (tB cb ci) sz r (wBs h a1 a2 a3 a4 a5 a6 cb ci b2)) 0 0 (va_A (wBs h a1 a2 a3 a4 a5 a6 cb ci b) sz)) ∧ (∀ (l : Launch) (dC : Nat → ClassId) (dI : Nat → Nat → Nat) (g m1 m2 m3 m4 m5 m6 m7 m8 m9 m10 m11 m12 m13 : Nat) (ck : ClassId) (sz : Nat), Met l yM_close wsM_close ({ frames := 1, cells := 0, slots := 0, locals := 20 }) (kPre (dC, dI) vwCl (wMs g m1 m2 m3 m4 m5 m6 m7 m8 m9 m10 m11 m12 m13 ck b q) (tM ck) sz [.ref g]) (kQi (dC, dI) vwCl (wMs g m1 m2 m3 m4 m5 m6 m7 m8 m9 m10 m11 m12 m13 ck b q) (tM ck) sz r (wMs g m1 m2 m3 m4 m5 m6 m7 m8 m9 m10 m11 m12 m13 ck b2 q2)) 0 0 (va_A (wMs g m1 m2 m3 m4 m5 m6 m7 m8 m9 m10 m11 m12 m13 ck b q) sz)) := by
  obtain ⟨tp, tl, vo, np, rp, rl, rc, sb, sa⟩ := b
  obtain ⟨mt, kp, ms, mi, ml, mb, mf, mo, my, md, mu, fi, sp, sq⟩ := q
  have hR0 : Rel (tp, tl, vo, np, rp, rl, rc, sb, sa) (mt, kp, ms, mi, ml, mb, mf, mo, my, md, mu, fi, sp, sq) := hR
  obtain ⟨htl, hnp, hrc, hsb, hsa, htp, hv, hkp, hrw⟩ := hR0
  by_cases hc : np % 56 ≠ 0
  · refine ⟨nI 1, tClose (tp, tl, vo, np, rp, rl, rc, sb, sa), (mt, kp, ms, mi, ml, mb, mf, mo, my, cz md np (56 - np % 56), updN mu (np / 56) (np % 56), fi, sp, sq), ?_, fun l dC dI h a1 a2 a3 a4 a5 a6 cb ci sz => k_close l dC dI h a1 a2 a3 a4 a5 a6 cb ci sz _ (rel_ok hR) hc, fun l dC dI g m1 m2 m3 m4 m5 m6 m7 m8 m9 m10 m11 m12 m13 ck sz => r_close l dC dI g m1 m2 m3 m4 m5 m6 m7 m8 m9 m10 m11 m12 m13 ck mt tl rc kp ms mi ml mb mf mo my np md mu fi sp sq sz hnp hc⟩
    refine ⟨htl, by omega, hrc, hsb, hsa, htp, rel_close hv hnp hc, by omega, fun r hr => ?_⟩
    exact row_old (hrw r hr) (by omega) (Nat.le_refl _) rfl rfl rfl rfl rfl rfl rfl rfl (fun _ _ => rfl) (fun p hp => by rw [cz_at, if_neg (by omega)])
  · exact ⟨nI 0, (tp, tl, vo, np, rp, rl, rc, sb, sa), (mt, kp, ms, mi, ml, mb, mf, mo, my, md, mu, fi, sp, sq), hR, fun l dC dI h a1 a2 a3 a4 a5 a6 cb ci sz => k_closeN l dC dI h a1 a2 a3 a4 a5 a6 cb ci sz _ (rel_ok hR) hc, fun l dC dI g m1 m2 m3 m4 m5 m6 m7 m8 m9 m10 m11 m12 m13 ck sz => r_closeN l dC dI g m1 m2 m3 m4 m5 m6 m7 m8 m9 m10 m11 m12 m13 ck mt tl rc kp ms mi ml mb mf mo my np md mu fi sp sq sz hnp (by omega)⟩
set_option maxHeartbeats 4000000 in
set_option maxRecDepth 100000 in
theorem op_spoil {b : BSt} {q : MSt} (hR : Rel b q) (x1 x2 x3 : Int32) : ∃ (r : Int32) (b2 : BSt) (q2 : MSt), Rel b2 q2 ∧ (∀ (l : Launch) (dC : Nat → ClassId) (dI : Nat → Nat → Nat) (h a1 a2 a3 a4 a5 a6 : Nat) (cb ci : ClassId) (sz : Nat), Met l yX0_spoil wsX0_spoil ({ frames := 2, cells := 0, slots := 0, locals := 41 }) (kPre (dC, dI) vwCl (wBs h a1 a2 a3 a4 a5 a6 cb ci b) (tB cb ci) sz [.ref h, .int x1, .int x2, .int x3]) (kQi (dC, dI) vwCl (wBs h a1 a2 a3 a4 a5 a6 cb ci b) (tB cb ci) sz r (wBs h a1 a2 a3 a4 a5 a6 cb ci b2)) 0 0 (va_A (wBs h a1 a2 a3 a4 a5 a6 cb ci b) sz)) ∧ (∀ (l : Launch) (dC : Nat → ClassId) (dI : Nat → Nat → Nat) (g m1 m2 m3 m4 m5 m6 m7 m8 m9 m10 m11 m12 m13 : Nat) (ck : ClassId) (sz : Nat), Met l yM_spoil wsM_spoil ({ frames := 1, cells := 0, slots := 0, locals := 21 }) (kPre (dC, dI) vwCl (wMs g m1 m2 m3 m4 m5 m6 m7 m8 m9 m10 m11 m12 m13 ck b q) (tM ck) sz [.ref g, .int x1, .int x2, .int x3]) (kQi (dC, dI) vwCl (wMs g m1 m2 m3 m4 m5 m6 m7 m8 m9 m10 m11 m12 m13 ck b q) (tM ck) sz r (wMs g m1 m2 m3 m4 m5 m6 m7 m8 m9 m10 m11 m12 m13 ck b2 q2)) 0 0 (va_A (wMs g m1 m2 m3 m4 m5 m6 m7 m8 m9 m10 m11 m12 m13 ck b q) sz)) := by
  obtain ⟨tp, tl, vo, np, rp, rl, rc, sb, sa⟩ := b
  obtain ⟨mt, kp, ms, mi, ml, mb, mf, mo, my, md, mu, fi, sp, sq⟩ := q
  have hR0 : Rel (tp, tl, vo, np, rp, rl, rc, sb, sa) (mt, kp, ms, mi, ml, mb, mf, mo, my, md, mu, fi, sp, sq) := hR
  obtain ⟨htl, hnp, hrc, hsb, hsa, htp, hv, hkp, hrw⟩ := hR0
  have hsp := rel_sp hv hnp hsa
  by_cases hc : okSpoil x1 x2 x3 (tp, tl, vo, np, rp, rl, rc, sb, sa)
  · obtain ⟨h1, h2, h3, h4, h5⟩ := id hc
    dsimp only at h1 h5
    have hx3 := vpos (x := x3) (by omega)
    obtain ⟨j, hj, hxj⟩ := isW_of h1
    obtain ⟨k, hk, hxk⟩ := inB_of h2
    have e1 : x1.toInt.toNat = j := by rw [hxj, nI_tn (by omega)]
    have e2 : x2.toInt.toNat = k := by rw [hxk, nI_tn (by omega)]
    rw [e1] at h5
    refine ⟨nI 1, tSpoil x1 x2 x3 (tp, tl, vo, np, rp, rl, rc, sb, sa), (mt, kp, ms, mi, ml, mb, mf, mo, my, md, mu, fi, upd sp x1.toInt.toNat (nI x2.toInt.toNat), updN sq x1.toInt.toNat x3.toInt.toNat), ?_, fun l dC dI h a1 a2 a3 a4 a5 a6 cb ci sz => k_spoil l dC dI h a1 a2 a3 a4 a5 a6 cb ci sz _ (rel_ok hR) x1 x2 x3 hc, fun l dC dI g m1 m2 m3 m4 m5 m6 m7 m8 m9 m10 m11 m12 m13 ck sz => ?_⟩
    · dsimp only [tSpoil]
      rw [e1, e2]
      have hv2 := rel_spoil (w := x3.toInt.toNat) hv hnp hj hk (by omega) h5
      rw [← hx3] at hv2
      refine ⟨htl, hnp, hrc, fun a ha => ?_, fun a ha => ?_, htp, hv2, hkp, hrw⟩
      · by_cases hae : a = j
        · rw [hae, un_s]; omega
        · rw [un_n hae]; exact hsb a ha
      · by_cases hae : a = j
        · rw [hae, un_s]; exact hk
        · rw [un_n hae]; exact hsa a ha
    · rw [e1, e2, hxj, hxk]
      have h := r_spoil l dC dI g m1 m2 m3 m4 m5 m6 m7 m8 m9 m10 m11 m12 m13 ck mt tl rc kp ms mi ml mb mf mo my np md mu fi sp sq sz j k x3.toInt.toNat hnp hj hk ⟨by omega, by omega⟩ ((hsp j hj).mpr h5)
      rw [← hx3] at h
      exact h
  · refine ⟨nI 0, (tp, tl, vo, np, rp, rl, rc, sb, sa), (mt, kp, ms, mi, ml, mb, mf, mo, my, md, mu, fi, sp, sq), hR, fun l dC dI h a1 a2 a3 a4 a5 a6 cb ci sz => k_spoilN l dC dI h a1 a2 a3 a4 a5 a6 cb ci sz _ (rel_ok hR) x1 x2 x3 hc, fun l dC dI g m1 m2 m3 m4 m5 m6 m7 m8 m9 m10 m11 m12 m13 ck sz => r_spoilN l dC dI g m1 m2 m3 m4 m5 m6 m7 m8 m9 m10 m11 m12 m13 ck mt tl rc kp ms mi ml mb mf mo my np md mu fi sp sq sz x1 x2 x3 hnp (fun g1 g2 g3 g4 g5 => ?_)⟩
    obtain ⟨j, hj, hxj⟩ := isW_of g1
    have e1 : x1.toInt.toNat = j := by rw [hxj, nI_tn (by omega)]
    rw [e1] at g5
    exact hc ⟨g1, g2, g3, g4, by show sb x1.toInt.toNat = 0; rw [e1]; exact (hsp j hj).mp g5⟩
set_option maxHeartbeats 4000000 in
set_option maxRecDepth 100000 in
theorem op_heal {b : BSt} {q : MSt} (hR : Rel b q) (x1 : Int32) : ∃ (r : Int32) (b2 : BSt) (q2 : MSt), Rel b2 q2 ∧ (∀ (l : Launch) (dC : Nat → ClassId) (dI : Nat → Nat → Nat) (h a1 a2 a3 a4 a5 a6 : Nat) (cb ci : ClassId) (sz : Nat), Met l yX0_heal wsX0_heal ({ frames := 2, cells := 0, slots := 0, locals := 41 }) (kPre (dC, dI) vwCl (wBs h a1 a2 a3 a4 a5 a6 cb ci b) (tB cb ci) sz [.ref h, .int x1]) (kQi (dC, dI) vwCl (wBs h a1 a2 a3 a4 a5 a6 cb ci b) (tB cb ci) sz r (wBs h a1 a2 a3 a4 a5 a6 cb ci b2)) 0 0 (va_A (wBs h a1 a2 a3 a4 a5 a6 cb ci b) sz)) ∧ (∀ (l : Launch) (dC : Nat → ClassId) (dI : Nat → Nat → Nat) (g m1 m2 m3 m4 m5 m6 m7 m8 m9 m10 m11 m12 m13 : Nat) (ck : ClassId) (sz : Nat), Met l yM_heal wsM_heal ({ frames := 1, cells := 0, slots := 0, locals := 21 }) (kPre (dC, dI) vwCl (wMs g m1 m2 m3 m4 m5 m6 m7 m8 m9 m10 m11 m12 m13 ck b q) (tM ck) sz [.ref g, .int x1]) (kQi (dC, dI) vwCl (wMs g m1 m2 m3 m4 m5 m6 m7 m8 m9 m10 m11 m12 m13 ck b q) (tM ck) sz r (wMs g m1 m2 m3 m4 m5 m6 m7 m8 m9 m10 m11 m12 m13 ck b2 q2)) 0 0 (va_A (wMs g m1 m2 m3 m4 m5 m6 m7 m8 m9 m10 m11 m12 m13 ck b q) sz)) := by
  obtain ⟨tp, tl, vo, np, rp, rl, rc, sb, sa⟩ := b
  obtain ⟨mt, kp, ms, mi, ml, mb, mf, mo, my, md, mu, fi, sp, sq⟩ := q
  have hR0 : Rel (tp, tl, vo, np, rp, rl, rc, sb, sa) (mt, kp, ms, mi, ml, mb, mf, mo, my, md, mu, fi, sp, sq) := hR
  obtain ⟨htl, hnp, hrc, hsb, hsa, htp, hv, hkp, hrw⟩ := hR0
  have hsp := rel_sp hv hnp hsa
  by_cases hc : okHeal x1 (tp, tl, vo, np, rp, rl, rc, sb, sa)
  · obtain ⟨h1, h5⟩ := id hc
    dsimp only at h1 h5
    obtain ⟨j, hj, hxj⟩ := isW_of h1
    have e1 : x1.toInt.toNat = j := by rw [hxj, nI_tn (by omega)]
    rw [e1] at h5
    refine ⟨nI 1, tHeal x1 (tp, tl, vo, np, rp, rl, rc, sb, sa), (mt, kp, ms, mi, ml, mb, mf, mo, my, md, mu, fi, upd sp x1.toInt.toNat (-1), sq), ?_, fun l dC dI h a1 a2 a3 a4 a5 a6 cb ci sz => k_heal l dC dI h a1 a2 a3 a4 a5 a6 cb ci sz _ (rel_ok hR) x1 hc, fun l dC dI g m1 m2 m3 m4 m5 m6 m7 m8 m9 m10 m11 m12 m13 ck sz => ?_⟩
    · dsimp only [tHeal]
      rw [e1]
      refine ⟨htl, hnp, hrc, fun a ha => ?_, hsa, htp, rel_heal hv hnp hj hsa h5, hkp, hrw⟩
      by_cases hae : a = j
      · rw [hae, un_s]; decide
      · rw [un_n hae]; exact hsb a ha
    · rw [e1, hxj]
      exact r_heal l dC dI g m1 m2 m3 m4 m5 m6 m7 m8 m9 m10 m11 m12 m13 ck mt tl rc kp ms mi ml mb mf mo my np md mu fi sp sq sz j hnp hj (fun h9 => h5 ((hsp j hj).mp h9))
  · refine ⟨nI 0, (tp, tl, vo, np, rp, rl, rc, sb, sa), (mt, kp, ms, mi, ml, mb, mf, mo, my, md, mu, fi, sp, sq), hR, fun l dC dI h a1 a2 a3 a4 a5 a6 cb ci sz => k_healN l dC dI h a1 a2 a3 a4 a5 a6 cb ci sz _ (rel_ok hR) x1 hc, fun l dC dI g m1 m2 m3 m4 m5 m6 m7 m8 m9 m10 m11 m12 m13 ck sz => r_healN l dC dI g m1 m2 m3 m4 m5 m6 m7 m8 m9 m10 m11 m12 m13 ck mt tl rc kp ms mi ml mb mf mo my np md mu fi sp sq sz x1 hnp (fun g1 => ?_)⟩
    obtain ⟨j, hj, hxj⟩ := isW_of g1
    have e1 : x1.toInt.toNat = j := by rw [hxj, nI_tn (by omega)]
    rw [e1]
    exact (hsp j hj).mpr (Decidable.byContradiction (fun g5 => hc ⟨g1, by show sb x1.toInt.toNat ≠ 0; rw [e1]; exact g5⟩))
set_option maxHeartbeats 4000000 in
set_option maxRecDepth 100000 in
theorem op_byteOf {b : BSt} {q : MSt} (hR : Rel b q) (x1 x2 : Int32) : ∃ (r : Int32) (b2 : BSt) (q2 : MSt), Rel b2 q2 ∧ (∀ (l : Launch) (dC : Nat → ClassId) (dI : Nat → Nat → Nat) (h a1 a2 a3 a4 a5 a6 : Nat) (cb ci : ClassId) (sz : Nat), Met l yX0_byteOf wsX0_byteOf ({ frames := 2, cells := 0, slots := 0, locals := 41 }) (kPre (dC, dI) vwCl (wBs h a1 a2 a3 a4 a5 a6 cb ci b) (tB cb ci) sz [.ref h, .int x1, .int x2]) (kQi (dC, dI) vwCl (wBs h a1 a2 a3 a4 a5 a6 cb ci b) (tB cb ci) sz r (wBs h a1 a2 a3 a4 a5 a6 cb ci b2)) 0 0 (va_A (wBs h a1 a2 a3 a4 a5 a6 cb ci b) sz)) ∧ (∀ (l : Launch) (dC : Nat → ClassId) (dI : Nat → Nat → Nat) (g m1 m2 m3 m4 m5 m6 m7 m8 m9 m10 m11 m12 m13 : Nat) (ck : ClassId) (sz : Nat), Met l yM_byteOf wsM_byteOf ({ frames := 2, cells := 0, slots := 0, locals := 46 }) (kPre (dC, dI) vwCl (wMs g m1 m2 m3 m4 m5 m6 m7 m8 m9 m10 m11 m12 m13 ck b q) (tM ck) sz [.ref g, .int x1, .int x2]) (kQi (dC, dI) vwCl (wMs g m1 m2 m3 m4 m5 m6 m7 m8 m9 m10 m11 m12 m13 ck b q) (tM ck) sz r (wMs g m1 m2 m3 m4 m5 m6 m7 m8 m9 m10 m11 m12 m13 ck b2 q2)) 0 0 (va_A (wMs g m1 m2 m3 m4 m5 m6 m7 m8 m9 m10 m11 m12 m13 ck b q) sz)) := by
  obtain ⟨tp, tl, vo, np, rp, rl, rc, sb, sa⟩ := b
  obtain ⟨mt, kp, ms, mi, ml, mb, mf, mo, my, md, mu, fi, sp, sq⟩ := q
  have hR0 : Rel (tp, tl, vo, np, rp, rl, rc, sb, sa) (mt, kp, ms, mi, ml, mb, mf, mo, my, md, mu, fi, sp, sq) := hR
  obtain ⟨htl, hnp, hrc, hsb, hsa, htp, hv, hkp, hrw⟩ := hR0
  refine ⟨bof np vo x1 x2, (tp, tl, vo, np, rp, rl, rc, sb, sa), (mt, kp, ms, mi, ml, mb, mf, mo, my, md, mu, fi, sp, sq), hR, fun l dC dI h a1 a2 a3 a4 a5 a6 cb ci sz => k_byteOf l dC dI h a1 a2 a3 a4 a5 a6 cb ci sz _ (rel_ok hR) x1 x2, fun l dC dI g m1 m2 m3 m4 m5 m6 m7 m8 m9 m10 m11 m12 m13 ck sz => ?_⟩
  rw [byte_eq hv hnp hsa x1 x2]
  exact r_byteOf l dC dI g m1 m2 m3 m4 m5 m6 m7 m8 m9 m10 m11 m12 m13 ck mt tl rc kp ms mi ml mb mf mo my np md mu fi sp sq sz x1 x2 hnp
set_option maxHeartbeats 4000000 in
set_option maxRecDepth 100000 in
theorem op_good {b : BSt} {q : MSt} (hR : Rel b q) (x1 : Int32) : ∃ (r : Int32) (b2 : BSt) (q2 : MSt), Rel b2 q2 ∧ (∀ (l : Launch) (dC : Nat → ClassId) (dI : Nat → Nat → Nat) (h a1 a2 a3 a4 a5 a6 : Nat) (cb ci : ClassId) (sz : Nat), Met l yX0_good wsX0_good ({ frames := 2, cells := 0, slots := 0, locals := 41 }) (kPre (dC, dI) vwCl (wBs h a1 a2 a3 a4 a5 a6 cb ci b) (tB cb ci) sz [.ref h, .int x1]) (kQi (dC, dI) vwCl (wBs h a1 a2 a3 a4 a5 a6 cb ci b) (tB cb ci) sz r (wBs h a1 a2 a3 a4 a5 a6 cb ci b2)) 0 0 (va_A (wBs h a1 a2 a3 a4 a5 a6 cb ci b) sz)) ∧ (∀ (l : Launch) (dC : Nat → ClassId) (dI : Nat → Nat → Nat) (g m1 m2 m3 m4 m5 m6 m7 m8 m9 m10 m11 m12 m13 : Nat) (ck : ClassId) (sz : Nat), Met l yM_good wsM_good ({ frames := 2, cells := 0, slots := 0, locals := 42 }) (kPre (dC, dI) vwCl (wMs g m1 m2 m3 m4 m5 m6 m7 m8 m9 m10 m11 m12 m13 ck b q) (tM ck) sz [.ref g, .int x1]) (kQi (dC, dI) vwCl (wMs g m1 m2 m3 m4 m5 m6 m7 m8 m9 m10 m11 m12 m13 ck b q) (tM ck) sz r (wMs g m1 m2 m3 m4 m5 m6 m7 m8 m9 m10 m11 m12 m13 ck b2 q2)) 0 0 (va_A (wMs g m1 m2 m3 m4 m5 m6 m7 m8 m9 m10 m11 m12 m13 ck b q) sz)) := by
  obtain ⟨tp, tl, vo, np, rp, rl, rc, sb, sa⟩ := b
  obtain ⟨mt, kp, ms, mi, ml, mb, mf, mo, my, md, mu, fi, sp, sq⟩ := q
  have hR0 : Rel (tp, tl, vo, np, rp, rl, rc, sb, sa) (mt, kp, ms, mi, ml, mb, mf, mo, my, md, mu, fi, sp, sq) := hR
  obtain ⟨htl, hnp, hrc, hsb, hsa, htp, hv, hkp, hrw⟩ := hR0
  exact ⟨bI (goodX np sb x1), (tp, tl, vo, np, rp, rl, rc, sb, sa), (mt, kp, ms, mi, ml, mb, mf, mo, my, md, mu, fi, sp, sq), hR, fun l dC dI h a1 a2 a3 a4 a5 a6 cb ci sz => k_good l dC dI h a1 a2 a3 a4 a5 a6 cb ci sz _ (rel_ok hR) x1, fun l dC dI g m1 m2 m3 m4 m5 m6 m7 m8 m9 m10 m11 m12 m13 ck sz => r_good l dC dI g m1 m2 m3 m4 m5 m6 m7 m8 m9 m10 m11 m12 m13 ck mt tl rc kp ms mi ml mb mf mo my np md mu fi sp sq sb sz x1 hnp (rel_sp hv hnp hsa)⟩
set_option maxHeartbeats 4000000 in
set_option maxRecDepth 100000 in
theorem op_read {b : BSt} {q : MSt} (hR : Rel b q) (x1 x2 : Int32) : ∃ (r : Int32) (b2 : BSt) (q2 : MSt), Rel b2 q2 ∧ (∀ (l : Launch) (dC : Nat → ClassId) (dI : Nat → Nat → Nat) (h a1 a2 a3 a4 a5 a6 : Nat) (cb ci : ClassId) (sz : Nat), Met l yX0_read wsX0_read ({ frames := 5, cells := 0, slots := 0, locals := 108 }) (kPre (dC, dI) vwCl (wBs h a1 a2 a3 a4 a5 a6 cb ci b) (tB cb ci) sz [.ref h, .int x1, .int x2]) (kQi (dC, dI) vwCl (wBs h a1 a2 a3 a4 a5 a6 cb ci b) (tB cb ci) sz r (wBs h a1 a2 a3 a4 a5 a6 cb ci b2)) 0 0 (va_A (wBs h a1 a2 a3 a4 a5 a6 cb ci b) sz)) ∧ (∀ (l : Launch) (dC : Nat → ClassId) (dI : Nat → Nat → Nat) (g m1 m2 m3 m4 m5 m6 m7 m8 m9 m10 m11 m12 m13 : Nat) (ck : ClassId) (sz : Nat), Met l yM_read wsM_read ({ frames := 3, cells := 0, slots := 0, locals := 64 }) (kPre (dC, dI) vwCl (wMs g m1 m2 m3 m4 m5 m6 m7 m8 m9 m10 m11 m12 m13 ck b q) (tM ck) sz [.ref g, .int x1, .int x2]) (kQi (dC, dI) vwCl (wMs g m1 m2 m3 m4 m5 m6 m7 m8 m9 m10 m11 m12 m13 ck b q) (tM ck) sz r (wMs g m1 m2 m3 m4 m5 m6 m7 m8 m9 m10 m11 m12 m13 ck b2 q2)) 0 0 (va_A (wMs g m1 m2 m3 m4 m5 m6 m7 m8 m9 m10 m11 m12 m13 ck b q) sz)) := by
  obtain ⟨tp, tl, vo, np, rp, rl, rc, sb, sa⟩ := b
  obtain ⟨mt, kp, ms, mi, ml, mb, mf, mo, my, md, mu, fi, sp, sq⟩ := q
  have hR0 : Rel (tp, tl, vo, np, rp, rl, rc, sb, sa) (mt, kp, ms, mi, ml, mb, mf, mo, my, md, mu, fi, sp, sq) := hR
  obtain ⟨htl, hnp, hrc, hsb, hsa, htp, hv, hkp, hrw⟩ := hR0
  have hrow : ∀ k, k < rc → rp k + rl k ≤ 4480 ∧ 6 ≤ rl k := fun k hk => by obtain ⟨g1, g2, -⟩ := hrw k hk; omega
  have hft : ∀ k, k < rc → mf k = rp k / 56 ∧ mo k = (rp k + rl k - 1) / 56 := fun k hk => by obtain ⟨g1, g2, g3, g4, g5, -⟩ := hrw k hk; exact ⟨g4, g5⟩
  have hsp := rel_sp hv hnp hsa
  refine ⟨rRead x1 x2 (tp, tl, vo, np, rp, rl, rc, sb, sa), (tp, tl, vo, np, rp, rl, rc, sb, sa), (mt, kp, ms, mi, ml, mb, mf, mo, my, md, mu, fi, sp, sq), hR, fun l dC dI h a1 a2 a3 a4 a5 a6 cb ci sz => k_read l dC dI h a1 a2 a3 a4 a5 a6 cb ci sz _ (rel_ok hR) x1 x2, fun l dC dI g m1 m2 m3 m4 m5 m6 m7 m8 m9 m10 m11 m12 m13 ck sz => ?_⟩
  by_cases hx : x1.toInt < 0
  · have e9 : rRead x1 x2 (tp, tl, vo, np, rp, rl, rc, sb, sa) = -1 := by dsimp only [rRead]; rw [if_pos (rOf_neg hx _ _ _ (by omega))]
    rw [e9]
    exact r_readL l dC dI g m1 m2 m3 m4 m5 m6 m7 m8 m9 m10 m11 m12 m13 ck mt tl rc kp ms mi ml mb mf mo my np md mu fi sp sq sz x1 x2 hrc hx
  · obtain ⟨j, hj, rfl⟩ := kx_of (x := x1) (by omega)
    rcases rOf_or (isR np sb rp rl) (nI j) rc 0 0 rc (by omega) (by omega) with hN | ⟨r, hr, hN⟩
    · have e9 : rRead (nI j) x2 (tp, tl, vo, np, rp, rl, rc, sb, sa) = -1 := by dsimp only [rRead]; rw [if_pos hN]
      rw [e9]
      exact r_readN l dC dI g m1 m2 m3 m4 m5 m6 m7 m8 m9 m10 m11 m12 m13 ck mt tl rc kp ms mi ml mb mf mo my np md mu fi sp sq sb rp rl sz j x2 hnp hsp hrc hrow hft hj hN
    · have e9 : rRead (nI j) x2 (tp, tl, vo, np, rp, rl, rc, sb, sa) = rdW vo rp rl r x2 := by dsimp only [rRead]; rw [hN, if_neg (nI_nm1 (by omega)), nI_tn (by omega)]
      rw [e9, read_eq hv (hrw r hr) (rOf_rd (by omega) rc 0 0 (by omega) hN) hnp x2]
      exact r_read l dC dI g m1 m2 m3 m4 m5 m6 m7 m8 m9 m10 m11 m12 m13 ck mt tl rc kp ms mi ml mb mf mo my np md mu fi sp sq sb rp rl sz j x2 hnp hsp hrc hrow hft hj r hr hN (by obtain ⟨g1, g2, g3, g4, g5, g6, g7, g8, -⟩ := hrw r hr; omega)
set_option maxHeartbeats 4000000 in
set_option maxRecDepth 100000 in
theorem op_verify {b : BSt} {q : MSt} (hR : Rel b q) (x1 : Int32) : ∃ (r : Int32) (b2 : BSt) (q2 : MSt), Rel b2 q2 ∧ (∀ (l : Launch) (dC : Nat → ClassId) (dI : Nat → Nat → Nat) (h a1 a2 a3 a4 a5 a6 : Nat) (cb ci : ClassId) (sz : Nat), Met l yX0_verify wsX0_verify ({ frames := 3, cells := 0, slots := 0, locals := 62 }) (kPre (dC, dI) vwCl (wBs h a1 a2 a3 a4 a5 a6 cb ci b) (tB cb ci) sz [.ref h, .int x1]) (kQi (dC, dI) vwCl (wBs h a1 a2 a3 a4 a5 a6 cb ci b) (tB cb ci) sz r (wBs h a1 a2 a3 a4 a5 a6 cb ci b2)) 0 0 (va_A (wBs h a1 a2 a3 a4 a5 a6 cb ci b) sz)) ∧ (∀ (l : Launch) (dC : Nat → ClassId) (dI : Nat → Nat → Nat) (g m1 m2 m3 m4 m5 m6 m7 m8 m9 m10 m11 m12 m13 : Nat) (ck : ClassId) (sz : Nat), Met l yM_verify wsM_verify ({ frames := 2, cells := 0, slots := 0, locals := 42 }) (kPre (dC, dI) vwCl (wMs g m1 m2 m3 m4 m5 m6 m7 m8 m9 m10 m11 m12 m13 ck b q) (tM ck) sz [.ref g, .int x1]) (kQi (dC, dI) vwCl (wMs g m1 m2 m3 m4 m5 m6 m7 m8 m9 m10 m11 m12 m13 ck b q) (tM ck) sz r (wMs g m1 m2 m3 m4 m5 m6 m7 m8 m9 m10 m11 m12 m13 ck b2 q2)) 0 0 (va_A (wMs g m1 m2 m3 m4 m5 m6 m7 m8 m9 m10 m11 m12 m13 ck b q) sz)) := by
  obtain ⟨tp, tl, vo, np, rp, rl, rc, sb, sa⟩ := b
  obtain ⟨mt, kp, ms, mi, ml, mb, mf, mo, my, md, mu, fi, sp, sq⟩ := q
  have hR0 : Rel (tp, tl, vo, np, rp, rl, rc, sb, sa) (mt, kp, ms, mi, ml, mb, mf, mo, my, md, mu, fi, sp, sq) := hR
  obtain ⟨htl, hnp, hrc, hsb, hsa, htp, hv, hkp, hrw⟩ := hR0
  exact ⟨vfX np sb x1, (tp, tl, vo, np, rp, rl, rc, sb, sa), (mt, kp, ms, mi, ml, mb, mf, mo, my, md, mu, fi, sp, sq), hR, fun l dC dI h a1 a2 a3 a4 a5 a6 cb ci sz => k_verify l dC dI h a1 a2 a3 a4 a5 a6 cb ci sz _ (rel_ok hR) x1, fun l dC dI g m1 m2 m3 m4 m5 m6 m7 m8 m9 m10 m11 m12 m13 ck sz => r_verify l dC dI g m1 m2 m3 m4 m5 m6 m7 m8 m9 m10 m11 m12 m13 ck mt tl rc kp ms mi ml mb mf mo my np md mu fi sp sq sb sz x1 hnp (rel_sp hv hnp hsa)⟩
set_option maxHeartbeats 4000000 in
set_option maxRecDepth 100000 in
theorem op_count {b : BSt} {q : MSt} (hR : Rel b q) (x1 : Int32) : ∃ (r : Int32) (b2 : BSt) (q2 : MSt), Rel b2 q2 ∧ (∀ (l : Launch) (dC : Nat → ClassId) (dI : Nat → Nat → Nat) (h a1 a2 a3 a4 a5 a6 : Nat) (cb ci : ClassId) (sz : Nat), Met l yX0_count wsX0_count ({ frames := 5, cells := 0, slots := 0, locals := 107 }) (kPre (dC, dI) vwCl (wBs h a1 a2 a3 a4 a5 a6 cb ci b) (tB cb ci) sz [.ref h, .int x1]) (kQi (dC, dI) vwCl (wBs h a1 a2 a3 a4 a5 a6 cb ci b) (tB cb ci) sz r (wBs h a1 a2 a3 a4 a5 a6 cb ci b2)) 0 0 (va_A (wBs h a1 a2 a3 a4 a5 a6 cb ci b) sz)) ∧ (∀ (l : Launch) (dC : Nat → ClassId) (dI : Nat → Nat → Nat) (g m1 m2 m3 m4 m5 m6 m7 m8 m9 m10 m11 m12 m13 : Nat) (ck : ClassId) (sz : Nat), Met l yM_count wsM_count ({ frames := 3, cells := 0, slots := 0, locals := 64 }) (kPre (dC, dI) vwCl (wMs g m1 m2 m3 m4 m5 m6 m7 m8 m9 m10 m11 m12 m13 ck b q) (tM ck) sz [.ref g, .int x1]) (kQi (dC, dI) vwCl (wMs g m1 m2 m3 m4 m5 m6 m7 m8 m9 m10 m11 m12 m13 ck b q) (tM ck) sz r (wMs g m1 m2 m3 m4 m5 m6 m7 m8 m9 m10 m11 m12 m13 ck b2 q2)) 0 0 (va_A (wMs g m1 m2 m3 m4 m5 m6 m7 m8 m9 m10 m11 m12 m13 ck b q) sz)) := by
  obtain ⟨tp, tl, vo, np, rp, rl, rc, sb, sa⟩ := b
  obtain ⟨mt, kp, ms, mi, ml, mb, mf, mo, my, md, mu, fi, sp, sq⟩ := q
  have hR0 : Rel (tp, tl, vo, np, rp, rl, rc, sb, sa) (mt, kp, ms, mi, ml, mb, mf, mo, my, md, mu, fi, sp, sq) := hR
  obtain ⟨htl, hnp, hrc, hsb, hsa, htp, hv, hkp, hrw⟩ := hR0
  have hrow : ∀ k, k < rc → rp k + rl k ≤ 4480 ∧ 6 ≤ rl k := fun k hk => by obtain ⟨g1, g2, -⟩ := hrw k hk; omega
  have hft : ∀ k, k < rc → mf k = rp k / 56 ∧ mo k = (rp k + rl k - 1) / 56 := fun k hk => by obtain ⟨g1, g2, g3, g4, g5, -⟩ := hrw k hk; exact ⟨g4, g5⟩
  have hsp := rel_sp hv hnp hsa
  exact ⟨cntX tl np rc rp rl sb x1, (tp, tl, vo, np, rp, rl, rc, sb, sa), (mt, kp, ms, mi, ml, mb, mf, mo, my, md, mu, fi, sp, sq), hR, fun l dC dI h a1 a2 a3 a4 a5 a6 cb ci sz => k_count l dC dI h a1 a2 a3 a4 a5 a6 cb ci sz _ (rel_ok hR) x1, fun l dC dI g m1 m2 m3 m4 m5 m6 m7 m8 m9 m10 m11 m12 m13 ck sz => r_count l dC dI g m1 m2 m3 m4 m5 m6 m7 m8 m9 m10 m11 m12 m13 ck mt tl rc kp ms mi ml mb mf mo my np md mu fi sp sq sb rp rl sz x1 hnp hsp hrc hrow hft htl⟩
end
section
section KL
variable {p : Program} {l : Launch} {e : Env} {R : Room} {s : State} {m : MethodId} {args : Array Value} {below : List Frame} {meth : Method} {c : Code} {H : Heap} {locs : List Loc} {cells slots : Nat} {Q : State → Prop}
variable {cc : ByteArray} {pc : Nat} {ls : Array Slot} {rest : List Value} {A : Nat → Prop} {H0 : Heap}
theorem ka_sld (hexec : p.tables.exec = Jvm.exec) (hb : c.code = cc) {b L : Nat} {xs : Nat → Int32} (hX : va_X b L xs s H0) (hbl : b < H0.size) (hbA : ¬ A b) (hS : va_S A H0 H locs) {k : Nat} (hk : k < L) (hn : L < 2 ^ 31) (hdg : decode cc pc = .ok (.iaload, 1))
    (kk : W p l e R s m args below meth c H locs cells slots Q (F0 m (pc + 1) ls (.int (xs k) :: rest))) : W p l e R s m args below meth c H locs cells slots Q (F0 m pc ls (.int (nI k) :: .ref b :: rest)) := by
  refine va_sld hexec hb hX hbl hbA hS (vp_in_nI hk hn) hdg ?_
  rw [nI_clamp (by omega)]; exact kk
end KL
set_option maxHeartbeats 4000000 in
set_option maxRecDepth 100000 in
theorem law_loop {p : Program} {l : Launch} {e : Env} {s : State} {m : MethodId} {below : List Frame} {meth : Method} {c : Code} {dC : Nat → ClassId} {dI : Nat → Nat → Nat} {bS L : Nat} {xs : Nat → Int32} (hL : L ≤ 2048) (C0 : lw_At p s m meth c bS L xs) (h a1 a2 a3 a4 a5 a6 : Nat) (cb ci : ClassId) (g m1 m2 m3 m4 m5 m6 m7 m8 m9 m10 m11 m12 m13 : Nat) (ck : ClassId) (hK : va_K (dC, dI) vwCl [(cb, .byte), (ci, .int), (ck, .int)] s) :
    ∀ (n i : Nat) (u : BSt) (q : MSt), i ≤ L → L + 4 ≤ i + n → Rel u q → ∀ (H : Heap) (locs : List Loc) (ls : Array Slot), va_P (dC, dI) vwCl (wBs h a1 a2 a3 a4 a5 a6 cb ci u ++ wMs g m1 m2 m3 m4 m5 m6 m7 m8 m9 m10 m11 m12 m13 ck u q) H → va_D (fun q : Nat => s.heap.size ≤ q) (wBs h a1 a2 a3 a4 a5 a6 cb ci u ++ wMs g m1 m2 m3 m4 m5 m6 m7 m8 m9 m10 m11 m12 m13 ck u q) → va_S (fun q : Nat => s.heap.size ≤ q) s.heap H locs → lv_has ls 4 [(3, .int (nI i)), (2, .ref g), (1, .ref h), (0, .ref bS)] → W p l e room_1 s m #[Value.ref bS] below meth c H locs 21 16788 (lw_Z below #[Value.ref bS] s) (F0 m 18 ls []) := by
  obtain ⟨hx, hb, hr, hml, hown, hts, hX, hbl, hlocks, hgv⟩ := C0
  have hown : s.vm.findClass RL = some m.cls := hown
  have hA : ∀ q : Nat, s.heap.size ≤ q → (fun q : Nat => s.heap.size ≤ q) q := fun _ h => h
  have hbA : ¬ (fun q : Nat => s.heap.size ≤ q) bS := Nat.not_le.mpr hbl
  have S : CallFix p m c code 4 s #[Value.ref bS] lw_tbl RL := ⟨hx, hb, hml, hown, hts⟩
  intro n
  induction n with
  | zero => intro i u q h1 h2; exact absurd h2 (by omega)
  | succ n ih =>
    intro i u q hi hin hR H locs ls hP hD hS hl
    refine lv_iload_n hx hb dL_law_18 rfl (lv_at hl 0 rfl) ?_
    refine lv_aload_n hx hb dL_law_19 rfl (lv_at hl 3 rfl) ?_
    refine va_slen hx hb hX hbl hbA hS dL_law_20 ?_
    refine kv_top (show Int32.ofNat L = nI L from rfl) ?_
    refine lv_iconst (v := nI 4) hx hb dL_law_21 (by decide) ?_
    refine lv_isub hx hb dL_law_22 ?_
    refine lv_icmp_gt (tgt := 374) hx hb dL_law_23 (by decide) (fun c_23 => ?_) (fun c_23 => ?_)
    · refine lv_iconst (v := 1) hx hb dL_law_374 (by decide) ?_
      refine va_forget (fun q hq => hS.2.2 q hq) ?_
      exact lw_ret hx hb hr hlocks dL_law_375
    have c_23 := kmt (kx_lt (by omega)).mpr c_23
    rw [pk_sub_toInt (by omega) (by omega)] at c_23
    refine lv_aload_n hx hb dL_law_26 rfl (lv_at hl 3 rfl) ?_
    refine lv_iload_n hx hb dL_law_27 rfl (lv_at hl 0 rfl) ?_
    refine ka_sld hx hb hX hbl hbA hS (k := i) (by omega) (by omega) dL_law_28 ?_
    refine lv_bipush (v := nI 15) hx hb dL_law_29 (by decide) ?_
    refine lv_iand hx hb dL_law_31 ?_
    obtain ⟨j, hj, ej⟩ := pk_andE (xs i) (m := nI 15) 4 (by decide)
    refine kv_top ej ?_
    have hj10 : j = 0 ∨ j = 1 ∨ j = 2 ∨ j = 3 ∨ j = 4 ∨ j = 5 ∨ j = 6 ∨ j = 7 ∨ j = 8 ∨ j = 9 ∨ 10 ≤ j := by omega
    rcases hj10 with rfl | rfl | rfl | rfl | rfl | rfl | rfl | rfl | rfl | rfl | hj10
    · refine lv_tableIn (tgt := 88) (off := 56) hx hb dL_law_32 (by decide) (by decide) (by decide) (by decide) ?_
      obtain ⟨r, u2, q2, hR2, hB, hM⟩ := op_feed hR (xs (i + 1)) (xs (i + 2))
      refine lv_aload_n hx hb dL_law_88 rfl (lv_at hl 2 rfl) ?_
      refine lv_aload_n hx hb dL_law_89 rfl (lv_at hl 3 rfl) ?_
      refine lv_iload_n hx hb dL_law_90 rfl (lv_at hl 0 rfl) ?_
      refine lv_iconst (v := nI 1) hx hb dL_law_91 (by decide) ?_
      refine lv_iadd hx hb dL_law_92 ?_
      refine kv_top (show _ = nI (i + 1) from nI_add _ _) ?_
      refine ka_sld hx hb hX hbl hbA hS (k := i + 1) (by omega) (by omega) dL_law_93 ?_
      refine lv_aload_n hx hb dL_law_94 rfl (lv_at hl 3 rfl) ?_
      refine lv_iload_n hx hb dL_law_95 rfl (lv_at hl 0 rfl) ?_
      refine lv_iconst (v := nI 2) hx hb dL_law_96 (by decide) ?_
      refine lv_iadd hx hb dL_law_97 ?_
      refine kv_top (show _ = nI (i + 2) from nI_add _ _) ?_
      refine ka_sld hx hb hX hbl hbA hS (k := i + 2) (by omega) (by omega) dL_law_98 ?_
      refine kc_vi (WR := wMs g m1 m2 m3 m4 m5 m6 m7 m8 m9 m10 m11 m12 m13 ck u q) (As := [.int (xs (i + 1)), .int (xs (i + 2))]) (rest := []) S (hB l dC dI h a1 a2 a3 a4 a5 a6 cb ci H.size) (cwV 2 hts gT_X0_feed rfl rfl rfl (by decide +kernel) ⟨Nat.le_of_ble_eq_true rfl, Nat.le_of_ble_eq_true rfl⟩) hK hP hD hS hA [0, 1, 2, 3, 4, 5, 6] [7, 8, 9, 10, 11, 12, 13, 14, 15, 16, 17, 18, 19, 20] [0, 1] rfl rfl (by decide) (by decide) (by decide) rfl 0 0 rfl rfl rfl rfl hl.1 rfl (Nat.le_of_ble_eq_true rfl) dL_law_99 ⟨Nat.le_of_ble_eq_true rfl, Nat.le_of_ble_eq_true rfl⟩ (fun H locs hP hD hS => ?_)
      refine lv_aload_n hx hb dL_law_102 rfl (lv_at hl 1 rfl) ?_
      refine lv_aload_n hx hb dL_law_103 rfl (lv_at hl 3 rfl) ?_
      refine lv_iload_n hx hb dL_law_104 rfl (lv_at hl 0 rfl) ?_
      refine lv_iconst (v := nI 1) hx hb dL_law_105 (by decide) ?_
      refine lv_iadd hx hb dL_law_106 ?_
      refine kv_top (show _ = nI (i + 1) from nI_add _ _) ?_
      refine ka_sld hx hb hX hbl hbA hS (k := i + 1) (by omega) (by omega) dL_law_107 ?_
      refine lv_aload_n hx hb dL_law_108 rfl (lv_at hl 3 rfl) ?_
      refine lv_iload_n hx hb dL_law_109 rfl (lv_at hl 0 rfl) ?_
      refine lv_iconst (v := nI 2) hx hb dL_law_110 (by decide) ?_
      refine lv_iadd hx hb dL_law_111 ?_
      refine kv_top (show _ = nI (i + 2) from nI_add _ _) ?_
      refine ka_sld hx hb hX hbl hbA hS (k := i + 2) (by omega) (by omega) dL_law_112 ?_
      refine kc_vi (WR := wBs h a1 a2 a3 a4 a5 a6 cb ci u2) (As := [.int (xs (i + 1)), .int (xs (i + 2))]) (rest := [.int r]) S (hM l dC dI g m1 m2 m3 m4 m5 m6 m7 m8 m9 m10 m11 m12 m13 ck H.size) (cwV 2 hts gT_M_feed rfl rfl rfl (by decide +kernel) ⟨Nat.le_of_ble_eq_true rfl, Nat.le_of_ble_eq_true rfl⟩) hK hP hD hS hA [0, 1, 2, 3, 4, 5, 6, 7, 8, 9, 10, 11, 12, 13] [14, 15, 16, 17, 18, 19, 20] [2] rfl rfl (by decide) (by decide) (by decide) rfl 0 1 rfl rfl rfl rfl hl.1 rfl (Nat.le_of_ble_eq_true rfl) dL_law_113 ⟨Nat.le_of_ble_eq_true rfl, Nat.le_of_ble_eq_true rfl⟩ (fun H locs hP hD hS => ?_)
      refine lv_icmp_eq (tgt := 368) hx hb dL_law_116 (by decide) (fun c_9 => ?_) (fun c_9 => absurd rfl c_9)
      refine lv_iinc (v := nI (i + 4)) (lv' := [(3, .int (nI (i + 4))), (2, .ref g), (1, .ref h), (0, .ref bS)]) hx hb dL_law_368 hl (k := 0) rfl (ki_inc4 i) (by decide) rfl (fun ls hl => ?_)
      refine lv_goto (tgt := 18) hx hb dL_law_371 (by decide) ?_
      exact ih (i + 4) u2 q2 (by omega) (by omega) hR2 _ _ _ hP hD hS hl
    · refine lv_tableIn (tgt := 121) (off := 89) hx hb dL_law_32 (by decide) (by decide) (by decide) (by decide) ?_
      obtain ⟨r, u2, q2, hR2, hB, hM⟩ := op_put hR (xs (i + 1)) (xs (i + 2))
      refine lv_aload_n hx hb dL_law_121 rfl (lv_at hl 2 rfl) ?_
      refine lv_aload_n hx hb dL_law_122 rfl (lv_at hl 3 rfl) ?_
      refine lv_iload_n hx hb dL_law_123 rfl (lv_at hl 0 rfl) ?_
      refine lv_iconst (v := nI 1) hx hb dL_law_124 (by decide) ?_
      refine lv_iadd hx hb dL_law_125 ?_
      refine kv_top (show _ = nI (i + 1) from nI_add _ _) ?_
      refine ka_sld hx hb hX hbl hbA hS (k := i + 1) (by omega) (by omega) dL_law_126 ?_
      refine lv_aload_n hx hb dL_law_127 rfl (lv_at hl 3 rfl) ?_
      refine lv_iload_n hx hb dL_law_128 rfl (lv_at hl 0 rfl) ?_
      refine lv_iconst (v := nI 2) hx hb dL_law_129 (by decide) ?_
      refine lv_iadd hx hb dL_law_130 ?_
      refine kv_top (show _ = nI (i + 2) from nI_add _ _) ?_
      refine ka_sld hx hb hX hbl hbA hS (k := i + 2) (by omega) (by omega) dL_law_131 ?_
      refine kc_vi (WR := wMs g m1 m2 m3 m4 m5 m6 m7 m8 m9 m10 m11 m12 m13 ck u q) (As := [.int (xs (i + 1)), .int (xs (i + 2))]) (rest := []) S (hB l dC dI h a1 a2 a3 a4 a5 a6 cb ci H.size) (cwV 2 hts gT_X0_put rfl rfl rfl (by decide +kernel) ⟨Nat.le_of_ble_eq_true rfl, Nat.le_of_ble_eq_true rfl⟩) hK hP hD hS hA [0, 1, 2, 3, 4, 5, 6] [7, 8, 9, 10, 11, 12, 13, 14, 15, 16, 17, 18, 19, 20] [0, 1] rfl rfl (by decide) (by decide) (by decide) rfl 0 0 rfl rfl rfl rfl hl.1 rfl (Nat.le_of_ble_eq_true rfl) dL_law_132 ⟨Nat.le_of_ble_eq_true rfl, Nat.le_of_ble_eq_true rfl⟩ (fun H locs hP hD hS => ?_)
      refine lv_aload_n hx hb dL_law_135 rfl (lv_at hl 1 rfl) ?_
      refine lv_aload_n hx hb dL_law_136 rfl (lv_at hl 3 rfl) ?_
      refine lv_iload_n hx hb dL_law_137 rfl (lv_at hl 0 rfl) ?_
      refine lv_iconst (v := nI 1) hx hb dL_law_138 (by decide) ?_
      refine lv_iadd hx hb dL_law_139 ?_
      refine kv_top (show _ = nI (i + 1) from nI_add _ _) ?_
      refine ka_sld hx hb hX hbl hbA hS (k := i + 1) (by omega) (by omega) dL_law_140 ?_
      refine lv_aload_n hx hb dL_law_141 rfl (lv_at hl 3 rfl) ?_
      refine lv_iload_n hx hb dL_law_142 rfl (lv_at hl 0 rfl) ?_
      refine lv_iconst (v := nI 2) hx hb dL_law_143 (by decide) ?_
      refine lv_iadd hx hb dL_law_144 ?_
      refine kv_top (show _ = nI (i + 2) from nI_add _ _) ?_
      refine ka_sld hx hb hX hbl hbA hS (k := i + 2) (by omega) (by omega) dL_law_145 ?_
      refine kc_vi (WR := wBs h a1 a2 a3 a4 a5 a6 cb ci u2) (As := [.int (xs (i + 1)), .int (xs (i + 2))]) (rest := [.int r]) S (hM l dC dI g m1 m2 m3 m4 m5 m6 m7 m8 m9 m10 m11 m12 m13 ck H.size) (cwV 2 hts gT_M_put rfl rfl rfl (by decide +kernel) ⟨Nat.le_of_ble_eq_true rfl, Nat.le_of_ble_eq_true rfl⟩) hK hP hD hS hA [0, 1, 2, 3, 4, 5, 6, 7, 8, 9, 10, 11, 12, 13] [14, 15, 16, 17, 18, 19, 20] [2] rfl rfl (by decide) (by decide) (by decide) rfl 0 1 rfl rfl rfl rfl hl.1 rfl (Nat.le_of_ble_eq_true rfl) dL_law_146 ⟨Nat.le_of_ble_eq_true rfl, Nat.le_of_ble_eq_true rfl⟩ (fun H locs hP hD hS => ?_)
      refine lv_icmp_eq (tgt := 368) hx hb dL_law_149 (by decide) (fun c_9 => ?_) (fun c_9 => absurd rfl c_9)
      refine lv_iinc (v := nI (i + 4)) (lv' := [(3, .int (nI (i + 4))), (2, .ref g), (1, .ref h), (0, .ref bS)]) hx hb dL_law_368 hl (k := 0) rfl (ki_inc4 i) (by decide) rfl (fun ls hl => ?_)
      refine lv_goto (tgt := 18) hx hb dL_law_371 (by decide) ?_
      exact ih (i + 4) u2 q2 (by omega) (by omega) hR2 _ _ _ hP hD hS hl
    · refine lv_tableIn (tgt := 154) (off := 122) hx hb dL_law_32 (by decide) (by decide) (by decide) (by decide) ?_
      obtain ⟨r, u2, q2, hR2, hB, hM⟩ := op_close hR
      refine lv_aload_n hx hb dL_law_154 rfl (lv_at hl 2 rfl) ?_
      refine kc_vi (WR := wMs g m1 m2 m3 m4 m5 m6 m7 m8 m9 m10 m11 m12 m13 ck u q) (As := []) (rest := []) S (hB l dC dI h a1 a2 a3 a4 a5 a6 cb ci H.size) (cwV 0 hts gT_X0_close rfl rfl rfl (by decide +kernel) ⟨Nat.le_of_ble_eq_true rfl, Nat.le_of_ble_eq_true rfl⟩) hK hP hD hS hA [0, 1, 2, 3, 4, 5, 6] [7, 8, 9, 10, 11, 12, 13, 14, 15, 16, 17, 18, 19, 20] [0, 1] rfl rfl (by decide) (by decide) (by decide) rfl 0 0 rfl rfl rfl rfl hl.1 rfl (Nat.le_of_ble_eq_true rfl) dL_law_155 ⟨Nat.le_of_ble_eq_true rfl, Nat.le_of_ble_eq_true rfl⟩ (fun H locs hP hD hS => ?_)
      refine lv_aload_n hx hb dL_law_158 rfl (lv_at hl 1 rfl) ?_
      refine kc_vi (WR := wBs h a1 a2 a3 a4 a5 a6 cb ci u2) (As := []) (rest := [.int r]) S (hM l dC dI g m1 m2 m3 m4 m5 m6 m7 m8 m9 m10 m11 m12 m13 ck H.size) (cwV 0 hts gT_M_close rfl rfl rfl (by decide +kernel) ⟨Nat.le_of_ble_eq_true rfl, Nat.le_of_ble_eq_true rfl⟩) hK hP hD hS hA [0, 1, 2, 3, 4, 5, 6, 7, 8, 9, 10, 11, 12, 13] [14, 15, 16, 17, 18, 19, 20] [2] rfl rfl (by decide) (by decide) (by decide) rfl 0 1 rfl rfl rfl rfl hl.1 rfl (Nat.le_of_ble_eq_true rfl) dL_law_159 ⟨Nat.le_of_ble_eq_true rfl, Nat.le_of_ble_eq_true rfl⟩ (fun H locs hP hD hS => ?_)
      refine lv_icmp_eq (tgt := 368) hx hb dL_law_162 (by decide) (fun c_9 => ?_) (fun c_9 => absurd rfl c_9)
      refine lv_iinc (v := nI (i + 4)) (lv' := [(3, .int (nI (i + 4))), (2, .ref g), (1, .ref h), (0, .ref bS)]) hx hb dL_law_368 hl (k := 0) rfl (ki_inc4 i) (by decide) rfl (fun ls hl => ?_)
      refine lv_goto (tgt := 18) hx hb dL_law_371 (by decide) ?_
      exact ih (i + 4) u2 q2 (by omega) (by omega) hR2 _ _ _ hP hD hS hl
    · refine lv_tableIn (tgt := 167) (off := 135) hx hb dL_law_32 (by decide) (by decide) (by decide) (by decide) ?_
      obtain ⟨r, u2, q2, hR2, hB, hM⟩ := op_spoil hR (xs (i + 1)) (xs (i + 2)) (xs (i + 3))
      refine lv_aload_n hx hb dL_law_167 rfl (lv_at hl 2 rfl) ?_
      refine lv_aload_n hx hb dL_law_168 rfl (lv_at hl 3 rfl) ?_
      refine lv_iload_n hx hb dL_law_169 rfl (lv_at hl 0 rfl) ?_
      refine lv_iconst (v := nI 1) hx hb dL_law_170 (by decide) ?_
      refine lv_iadd hx hb dL_law_171 ?_
      refine kv_top (show _ = nI (i + 1) from nI_add _ _) ?_
      refine ka_sld hx hb hX hbl hbA hS (k := i + 1) (by omega) (by omega) dL_law_172 ?_
      refine lv_aload_n hx hb dL_law_173 rfl (lv_at hl 3 rfl) ?_
      refine lv_iload_n hx hb dL_law_174 rfl (lv_at hl 0 rfl) ?_
      refine lv_iconst (v := nI 2) hx hb dL_law_175 (by decide) ?_
      refine lv_iadd hx hb dL_law_176 ?_
      refine kv_top (show _ = nI (i + 2) from nI_add _ _) ?_
      refine ka_sld hx hb hX hbl hbA hS (k := i + 2) (by omega) (by omega) dL_law_177 ?_
      refine lv_aload_n hx hb dL_law_178 rfl (lv_at hl 3 rfl) ?_
      refine lv_iload_n hx hb dL_law_179 rfl (lv_at hl 0 rfl) ?_
      refine lv_iconst (v := nI 3) hx hb dL_law_180 (by decide) ?_
      refine lv_iadd hx hb dL_law_181 ?_
      refine kv_top (show _ = nI (i + 3) from nI_add _ _) ?_
      refine ka_sld hx hb hX hbl hbA hS (k := i + 3) (by omega) (by omega) dL_law_182 ?_
      refine kc_vi (WR := wMs g m1 m2 m3 m4 m5 m6 m7 m8 m9 m10 m11 m12 m13 ck u q) (As := [.int (xs (i + 1)), .int (xs (i + 2)), .int (xs (i + 3))]) (rest := []) S (hB l dC dI h a1 a2 a3 a4 a5 a6 cb ci H.size) (cwV 3 hts gT_X0_spoil rfl rfl rfl (by decide +kernel) ⟨Nat.le_of_ble_eq_true rfl, Nat.le_of_ble_eq_true rfl⟩) hK hP hD hS hA [0, 1, 2, 3, 4, 5, 6] [7, 8, 9, 10, 11, 12, 13, 14, 15, 16, 17, 18, 19, 20] [0, 1] rfl rfl (by decide) (by decide) (by decide) rfl 0 0 rfl rfl rfl rfl hl.1 rfl (Nat.le_of_ble_eq_true rfl) dL_law_183 ⟨Nat.le_of_ble_eq_true rfl, Nat.le_of_ble_eq_true rfl⟩ (fun H locs hP hD hS => ?_)
      refine lv_aload_n hx hb dL_law_186 rfl (lv_at hl 1 rfl) ?_
      refine lv_aload_n hx hb dL_law_187 rfl (lv_at hl 3 rfl) ?_
      refine lv_iload_n hx hb dL_law_188 rfl (lv_at hl 0 rfl) ?_
      refine lv_iconst (v := nI 1) hx hb dL_law_189 (by decide) ?_
      refine lv_iadd hx hb dL_law_190 ?_
      refine kv_top (show _ = nI (i + 1) from nI_add _ _) ?_
      refine ka_sld hx hb hX hbl hbA hS (k := i + 1) (by omega) (by omega) dL_law_191 ?_
      refine lv_aload_n hx hb dL_law_192 rfl (lv_at hl 3 rfl) ?_
      refine lv_iload_n hx hb dL_law_193 rfl (lv_at hl 0 rfl) ?_
      refine lv_iconst (v := nI 2) hx hb dL_law_194 (by decide) ?_
      refine lv_iadd hx hb dL_law_195 ?_
      refine kv_top (show _ = nI (i + 2) from nI_add _ _) ?_
      refine ka_sld hx hb hX hbl hbA hS (k := i + 2) (by omega) (by omega) dL_law_196 ?_
      refine lv_aload_n hx hb dL_law_197 rfl (lv_at hl 3 rfl) ?_
      refine lv_iload_n hx hb dL_law_198 rfl (lv_at hl 0 rfl) ?_
      refine lv_iconst (v := nI 3) hx hb dL_law_199 (by decide) ?_
      refine lv_iadd hx hb dL_law_200 ?_
      refine kv_top (show _ = nI (i + 3) from nI_add _ _) ?_
      refine ka_sld hx hb hX hbl hbA hS (k := i + 3) (by omega) (by omega) dL_law_201 ?_
      refine kc_vi (WR := wBs h a1 a2 a3 a4 a5 a6 cb ci u2) (As := [.int (xs (i + 1)), .int (xs (i + 2)), .int (xs (i + 3))]) (rest := [.int r]) S (hM l dC dI g m1 m2 m3 m4 m5 m6 m7 m8 m9 m10 m11 m12 m13 ck H.size) (cwV 3 hts gT_M_spoil rfl rfl rfl (by decide +kernel) ⟨Nat.le_of_ble_eq_true rfl, Nat.le_of_ble_eq_true rfl⟩) hK hP hD hS hA [0, 1, 2, 3, 4, 5, 6, 7, 8, 9, 10, 11, 12, 13] [14, 15, 16, 17, 18, 19, 20] [2] rfl rfl (by decide) (by decide) (by decide) rfl 0 1 rfl rfl rfl rfl hl.1 rfl (Nat.le_of_ble_eq_true rfl) dL_law_202 ⟨Nat.le_of_ble_eq_true rfl, Nat.le_of_ble_eq_true rfl⟩ (fun H locs hP hD hS => ?_)
      refine lv_icmp_eq (tgt := 368) hx hb dL_law_205 (by decide) (fun c_9 => ?_) (fun c_9 => absurd rfl c_9)
      refine lv_iinc (v := nI (i + 4)) (lv' := [(3, .int (nI (i + 4))), (2, .ref g), (1, .ref h), (0, .ref bS)]) hx hb dL_law_368 hl (k := 0) rfl (ki_inc4 i) (by decide) rfl (fun ls hl => ?_)
      refine lv_goto (tgt := 18) hx hb dL_law_371 (by decide) ?_
      exact ih (i + 4) u2 q2 (by omega) (by omega) hR2 _ _ _ hP hD hS hl
    · refine lv_tableIn (tgt := 210) (off := 178) hx hb dL_law_32 (by decide) (by decide) (by decide) (by decide) ?_
      obtain ⟨r, u2, q2, hR2, hB, hM⟩ := op_heal hR (xs (i + 1))
      refine lv_aload_n hx hb dL_law_210 rfl (lv_at hl 2 rfl) ?_
      refine lv_aload_n hx hb dL_law_211 rfl (lv_at hl 3 rfl) ?_
      refine lv_iload_n hx hb dL_law_212 rfl (lv_at hl 0 rfl) ?_
      refine lv_iconst (v := nI 1) hx hb dL_law_213 (by decide) ?_
      refine lv_iadd hx hb dL_law_214 ?_
      refine kv_top (show _ = nI (i + 1) from nI_add _ _) ?_
      refine ka_sld hx hb hX hbl hbA hS (k := i + 1) (by omega) (by omega) dL_law_215 ?_
      refine kc_vi (WR := wMs g m1 m2 m3 m4 m5 m6 m7 m8 m9 m10 m11 m12 m13 ck u q) (As := [.int (xs (i + 1))]) (rest := []) S (hB l dC dI h a1 a2 a3 a4 a5 a6 cb ci H.size) (cwV 1 hts gT_X0_heal rfl rfl rfl (by decide +kernel) ⟨Nat.le_of_ble_eq_true rfl, Nat.le_of_ble_eq_true rfl⟩) hK hP hD hS hA [0, 1, 2, 3, 4, 5, 6] [7, 8, 9, 10, 11, 12, 13, 14, 15, 16, 17, 18, 19, 20] [0, 1] rfl rfl (by decide) (by decide) (by decide) rfl 0 0 rfl rfl rfl rfl hl.1 rfl (Nat.le_of_ble_eq_true rfl) dL_law_216 ⟨Nat.le_of_ble_eq_true rfl, Nat.le_of_ble_eq_true rfl⟩ (fun H locs hP hD hS => ?_)
      refine lv_aload_n hx hb dL_law_219 rfl (lv_at hl 1 rfl) ?_
      refine lv_aload_n hx hb dL_law_220 rfl (lv_at hl 3 rfl) ?_
      refine lv_iload_n hx hb dL_law_221 rfl (lv_at hl 0 rfl) ?_
      refine lv_iconst (v := nI 1) hx hb dL_law_222 (by decide) ?_
      refine lv_iadd hx hb dL_law_223 ?_
      refine kv_top (show _ = nI (i + 1) from nI_add _ _) ?_
      refine ka_sld hx hb hX hbl hbA hS (k := i + 1) (by omega) (by omega) dL_law_224 ?_
      refine kc_vi (WR := wBs h a1 a2 a3 a4 a5 a6 cb ci u2) (As := [.int (xs (i + 1))]) (rest := [.int r]) S (hM l dC dI g m1 m2 m3 m4 m5 m6 m7 m8 m9 m10 m11 m12 m13 ck H.size) (cwV 1 hts gT_M_heal rfl rfl rfl (by decide +kernel) ⟨Nat.le_of_ble_eq_true rfl, Nat.le_of_ble_eq_true rfl⟩) hK hP hD hS hA [0, 1, 2, 3, 4, 5, 6, 7, 8, 9, 10, 11, 12, 13] [14, 15, 16, 17, 18, 19, 20] [2] rfl rfl (by decide) (by decide) (by decide) rfl 0 1 rfl rfl rfl rfl hl.1 rfl (Nat.le_of_ble_eq_true rfl) dL_law_225 ⟨Nat.le_of_ble_eq_true rfl, Nat.le_of_ble_eq_true rfl⟩ (fun H locs hP hD hS => ?_)
      refine lv_icmp_eq (tgt := 368) hx hb dL_law_228 (by decide) (fun c_9 => ?_) (fun c_9 => absurd rfl c_9)
      refine lv_iinc (v := nI (i + 4)) (lv' := [(3, .int (nI (i + 4))), (2, .ref g), (1, .ref h), (0, .ref bS)]) hx hb dL_law_368 hl (k := 0) rfl (ki_inc4 i) (by decide) rfl (fun ls hl => ?_)
      refine lv_goto (tgt := 18) hx hb dL_law_371 (by decide) ?_
      exact ih (i + 4) u2 q2 (by omega) (by omega) hR2 _ _ _ hP hD hS hl
    · refine lv_tableIn (tgt := 233) (off := 201) hx hb dL_law_32 (by decide) (by decide) (by decide) (by decide) ?_
      obtain ⟨r, u2, q2, hR2, hB, hM⟩ := op_byteOf hR (xs (i + 1)) (xs (i + 2))
      refine lv_aload_n hx hb dL_law_233 rfl (lv_at hl 2 rfl) ?_
      refine lv_aload_n hx hb dL_law_234 rfl (lv_at hl 3 rfl) ?_
      refine lv_iload_n hx hb dL_law_235 rfl (lv_at hl 0 rfl) ?_
      refine lv_iconst (v := nI 1) hx hb dL_law_236 (by decide) ?_
      refine lv_iadd hx hb dL_law_237 ?_
      refine kv_top (show _ = nI (i + 1) from nI_add _ _) ?_
      refine ka_sld hx hb hX hbl hbA hS (k := i + 1) (by omega) (by omega) dL_law_238 ?_
      refine lv_aload_n hx hb dL_law_239 rfl (lv_at hl 3 rfl) ?_
      refine lv_iload_n hx hb dL_law_240 rfl (lv_at hl 0 rfl) ?_
      refine lv_iconst (v := nI 2) hx hb dL_law_241 (by decide) ?_
      refine lv_iadd hx hb dL_law_242 ?_
      refine kv_top (show _ = nI (i + 2) from nI_add _ _) ?_
      refine ka_sld hx hb hX hbl hbA hS (k := i + 2) (by omega) (by omega) dL_law_243 ?_
      refine kc_vi (WR := wMs g m1 m2 m3 m4 m5 m6 m7 m8 m9 m10 m11 m12 m13 ck u q) (As := [.int (xs (i + 1)), .int (xs (i + 2))]) (rest := []) S (hB l dC dI h a1 a2 a3 a4 a5 a6 cb ci H.size) (cwV 2 hts gT_X0_byteOf rfl rfl rfl (by decide +kernel) ⟨Nat.le_of_ble_eq_true rfl, Nat.le_of_ble_eq_true rfl⟩) hK hP hD hS hA [0, 1, 2, 3, 4, 5, 6] [7, 8, 9, 10, 11, 12, 13, 14, 15, 16, 17, 18, 19, 20] [0, 1] rfl rfl (by decide) (by decide) (by decide) rfl 0 0 rfl rfl rfl rfl hl.1 rfl (Nat.le_of_ble_eq_true rfl) dL_law_244 ⟨Nat.le_of_ble_eq_true rfl, Nat.le_of_ble_eq_true rfl⟩ (fun H locs hP hD hS => ?_)
      refine lv_aload_n hx hb dL_law_247 rfl (lv_at hl 1 rfl) ?_
      refine lv_aload_n hx hb dL_law_248 rfl (lv_at hl 3 rfl) ?_
      refine lv_iload_n hx hb dL_law_249 rfl (lv_at hl 0 rfl) ?_
      refine lv_iconst (v := nI 1) hx hb dL_law_250 (by decide) ?_
      refine lv_iadd hx hb dL_law_251 ?_
      refine kv_top (show _ = nI (i + 1) from nI_add _ _) ?_
      refine ka_sld hx hb hX hbl hbA hS (k := i + 1) (by omega) (by omega) dL_law_252 ?_
      refine lv_aload_n hx hb dL_law_253 rfl (lv_at hl 3 rfl) ?_
      refine lv_iload_n hx hb dL_law_254 rfl (lv_at hl 0 rfl) ?_
      refine lv_iconst (v := nI 2) hx hb dL_law_255 (by decide) ?_
      refine lv_iadd hx hb dL_law_256 ?_
      refine kv_top (show _ = nI (i + 2) from nI_add _ _) ?_
      refine ka_sld hx hb hX hbl hbA hS (k := i + 2) (by omega) (by omega) dL_law_257 ?_
      refine kc_vi (WR := wBs h a1 a2 a3 a4 a5 a6 cb ci u2) (As := [.int (xs (i + 1)), .int (xs (i + 2))]) (rest := [.int r]) S (hM l dC dI g m1 m2 m3 m4 m5 m6 m7 m8 m9 m10 m11 m12 m13 ck H.size) (cwV 2 hts gT_M_byteOf rfl rfl rfl (by decide +kernel) ⟨Nat.le_of_ble_eq_true rfl, Nat.le_of_ble_eq_true rfl⟩) hK hP hD hS hA [0, 1, 2, 3, 4, 5, 6, 7, 8, 9, 10, 11, 12, 13] [14, 15, 16, 17, 18, 19, 20] [2] rfl rfl (by decide) (by decide) (by decide) rfl 0 1 rfl rfl rfl rfl hl.1 rfl (Nat.le_of_ble_eq_true rfl) dL_law_258 ⟨Nat.le_of_ble_eq_true rfl, Nat.le_of_ble_eq_true rfl⟩ (fun H locs hP hD hS => ?_)
      refine lv_icmp_eq (tgt := 368) hx hb dL_law_261 (by decide) (fun c_9 => ?_) (fun c_9 => absurd rfl c_9)
      refine lv_iinc (v := nI (i + 4)) (lv' := [(3, .int (nI (i + 4))), (2, .ref g), (1, .ref h), (0, .ref bS)]) hx hb dL_law_368 hl (k := 0) rfl (ki_inc4 i) (by decide) rfl (fun ls hl => ?_)
      refine lv_goto (tgt := 18) hx hb dL_law_371 (by decide) ?_
      exact ih (i + 4) u2 q2 (by omega) (by omega) hR2 _ _ _ hP hD hS hl
    · refine lv_tableIn (tgt := 266) (off := 234) hx hb dL_law_32 (by decide) (by decide) (by decide) (by decide) ?_
      obtain ⟨r, u2, q2, hR2, hB, hM⟩ := op_good hR (xs (i + 1))
      refine lv_aload_n hx hb dL_law_266 rfl (lv_at hl 2 rfl) ?_
      refine lv_aload_n hx hb dL_law_267 rfl (lv_at hl 3 rfl) ?_
      refine lv_iload_n hx hb dL_law_268 rfl (lv_at hl 0 rfl) ?_
      refine lv_iconst (v := nI 1) hx hb dL_law_269 (by decide) ?_
      refine lv_iadd hx hb dL_law_270 ?_
      refine kv_top (show _ = nI (i + 1) from nI_add _ _) ?_
      refine ka_sld hx hb hX hbl hbA hS (k := i + 1) (by omega) (by omega) dL_law_271 ?_
      refine kc_vi (WR := wMs g m1 m2 m3 m4 m5 m6 m7 m8 m9 m10 m11 m12 m13 ck u q) (As := [.int (xs (i + 1))]) (rest := []) S (hB l dC dI h a1 a2 a3 a4 a5 a6 cb ci H.size) (cwV 1 hts gT_X0_good rfl rfl rfl (by decide +kernel) ⟨Nat.le_of_ble_eq_true rfl, Nat.le_of_ble_eq_true rfl⟩) hK hP hD hS hA [0, 1, 2, 3, 4, 5, 6] [7, 8, 9, 10, 11, 12, 13, 14, 15, 16, 17, 18, 19, 20] [0, 1] rfl rfl (by decide) (by decide) (by decide) rfl 0 0 rfl rfl rfl rfl hl.1 rfl (Nat.le_of_ble_eq_true rfl) dL_law_272 ⟨Nat.le_of_ble_eq_true rfl, Nat.le_of_ble_eq_true rfl⟩ (fun H locs hP hD hS => ?_)
      refine lv_aload_n hx hb dL_law_275 rfl (lv_at hl 1 rfl) ?_
      refine lv_aload_n hx hb dL_law_276 rfl (lv_at hl 3 rfl) ?_
      refine lv_iload_n hx hb dL_law_277 rfl (lv_at hl 0 rfl) ?_
      refine lv_iconst (v := nI 1) hx hb dL_law_278 (by decide) ?_
      refine lv_iadd hx hb dL_law_279 ?_
      refine kv_top (show _ = nI (i + 1) from nI_add _ _) ?_
      refine ka_sld hx hb hX hbl hbA hS (k := i + 1) (by omega) (by omega) dL_law_280 ?_
      refine kc_vi (WR := wBs h a1 a2 a3 a4 a5 a6 cb ci u2) (As := [.int (xs (i + 1))]) (rest := [.int r]) S (hM l dC dI g m1 m2 m3 m4 m5 m6 m7 m8 m9 m10 m11 m12 m13 ck H.size) (cwV 1 hts gT_M_good rfl rfl rfl (by decide +kernel) ⟨Nat.le_of_ble_eq_true rfl, Nat.le_of_ble_eq_true rfl⟩) hK hP hD hS hA [0, 1, 2, 3, 4, 5, 6, 7, 8, 9, 10, 11, 12, 13] [14, 15, 16, 17, 18, 19, 20] [2] rfl rfl (by decide) (by decide) (by decide) rfl 0 1 rfl rfl rfl rfl hl.1 rfl (Nat.le_of_ble_eq_true rfl) dL_law_281 ⟨Nat.le_of_ble_eq_true rfl, Nat.le_of_ble_eq_true rfl⟩ (fun H locs hP hD hS => ?_)
      refine lv_icmp_eq (tgt := 368) hx hb dL_law_284 (by decide) (fun c_9 => ?_) (fun c_9 => absurd rfl c_9)
      refine lv_iinc (v := nI (i + 4)) (lv' := [(3, .int (nI (i + 4))), (2, .ref g), (1, .ref h), (0, .ref bS)]) hx hb dL_law_368 hl (k := 0) rfl (ki_inc4 i) (by decide) rfl (fun ls hl => ?_)
      refine lv_goto (tgt := 18) hx hb dL_law_371 (by decide) ?_
      exact ih (i + 4) u2 q2 (by omega) (by omega) hR2 _ _ _ hP hD hS hl
    · refine lv_tableIn (tgt := 289) (off := 257) hx hb dL_law_32 (by decide) (by decide) (by decide) (by decide) ?_
      obtain ⟨r, u2, q2, hR2, hB, hM⟩ := op_read hR (xs (i + 1)) (xs (i + 2))
      refine lv_aload_n hx hb dL_law_289 rfl (lv_at hl 2 rfl) ?_
      refine lv_aload_n hx hb dL_law_290 rfl (lv_at hl 3 rfl) ?_
      refine lv_iload_n hx hb dL_law_291 rfl (lv_at hl 0 rfl) ?_
      refine lv_iconst (v := nI 1) hx hb dL_law_292 (by decide) ?_
      refine lv_iadd hx hb dL_law_293 ?_
      refine kv_top (show _ = nI (i + 1) from nI_add _ _) ?_
      refine ka_sld hx hb hX hbl hbA hS (k := i + 1) (by omega) (by omega) dL_law_294 ?_
      refine lv_aload_n hx hb dL_law_295 rfl (lv_at hl 3 rfl) ?_
      refine lv_iload_n hx hb dL_law_296 rfl (lv_at hl 0 rfl) ?_
      refine lv_iconst (v := nI 2) hx hb dL_law_297 (by decide) ?_
      refine lv_iadd hx hb dL_law_298 ?_
      refine kv_top (show _ = nI (i + 2) from nI_add _ _) ?_
      refine ka_sld hx hb hX hbl hbA hS (k := i + 2) (by omega) (by omega) dL_law_299 ?_
      refine kc_vi (WR := wMs g m1 m2 m3 m4 m5 m6 m7 m8 m9 m10 m11 m12 m13 ck u q) (As := [.int (xs (i + 1)), .int (xs (i + 2))]) (rest := []) S (hB l dC dI h a1 a2 a3 a4 a5 a6 cb ci H.size) (cwV 2 hts gT_X0_read rfl rfl rfl (by decide +kernel) ⟨Nat.le_of_ble_eq_true rfl, Nat.le_of_ble_eq_true rfl⟩) hK hP hD hS hA [0, 1, 2, 3, 4, 5, 6] [7, 8, 9, 10, 11, 12, 13, 14, 15, 16, 17, 18, 19, 20] [0, 1] rfl rfl (by decide) (by decide) (by decide) rfl 0 0 rfl rfl rfl rfl hl.1 rfl (Nat.le_of_ble_eq_true rfl) dL_law_300 ⟨Nat.le_of_ble_eq_true rfl, Nat.le_of_ble_eq_true rfl⟩ (fun H locs hP hD hS => ?_)
      refine lv_aload_n hx hb dL_law_303 rfl (lv_at hl 1 rfl) ?_
      refine lv_aload_n hx hb dL_law_304 rfl (lv_at hl 3 rfl) ?_
      refine lv_iload_n hx hb dL_law_305 rfl (lv_at hl 0 rfl) ?_
      refine lv_iconst (v := nI 1) hx hb dL_law_306 (by decide) ?_
      refine lv_iadd hx hb dL_law_307 ?_
      refine kv_top (show _ = nI (i + 1) from nI_add _ _) ?_
      refine ka_sld hx hb hX hbl hbA hS (k := i + 1) (by omega) (by omega) dL_law_308 ?_
      refine lv_aload_n hx hb dL_law_309 rfl (lv_at hl 3 rfl) ?_
      refine lv_iload_n hx hb dL_law_310 rfl (lv_at hl 0 rfl) ?_
      refine lv_iconst (v := nI 2) hx hb dL_law_311 (by decide) ?_
      refine lv_iadd hx hb dL_law_312 ?_
      refine kv_top (show _ = nI (i + 2) from nI_add _ _) ?_
      refine ka_sld hx hb hX hbl hbA hS (k := i + 2) (by omega) (by omega) dL_law_313 ?_
      refine kc_vi (WR := wBs h a1 a2 a3 a4 a5 a6 cb ci u2) (As := [.int (xs (i + 1)), .int (xs (i + 2))]) (rest := [.int r]) S (hM l dC dI g m1 m2 m3 m4 m5 m6 m7 m8 m9 m10 m11 m12 m13 ck H.size) (cwV 2 hts gT_M_read rfl rfl rfl (by decide +kernel) ⟨Nat.le_of_ble_eq_true rfl, Nat.le_of_ble_eq_true rfl⟩) hK hP hD hS hA [0, 1, 2, 3, 4, 5, 6, 7, 8, 9, 10, 11, 12, 13] [14, 15, 16, 17, 18, 19, 20] [2] rfl rfl (by decide) (by decide) (by decide) rfl 0 1 rfl rfl rfl rfl hl.1 rfl (Nat.le_of_ble_eq_true rfl) dL_law_314 ⟨Nat.le_of_ble_eq_true rfl, Nat.le_of_ble_eq_true rfl⟩ (fun H locs hP hD hS => ?_)
      refine lv_icmp_eq (tgt := 368) hx hb dL_law_317 (by decide) (fun c_9 => ?_) (fun c_9 => absurd rfl c_9)
      refine lv_iinc (v := nI (i + 4)) (lv' := [(3, .int (nI (i + 4))), (2, .ref g), (1, .ref h), (0, .ref bS)]) hx hb dL_law_368 hl (k := 0) rfl (ki_inc4 i) (by decide) rfl (fun ls hl => ?_)
      refine lv_goto (tgt := 18) hx hb dL_law_371 (by decide) ?_
      exact ih (i + 4) u2 q2 (by omega) (by omega) hR2 _ _ _ hP hD hS hl
    · refine lv_tableIn (tgt := 322) (off := 290) hx hb dL_law_32 (by decide) (by decide) (by decide) (by decide) ?_
      obtain ⟨r, u2, q2, hR2, hB, hM⟩ := op_verify hR (xs (i + 1))
      refine lv_aload_n hx hb dL_law_322 rfl (lv_at hl 2 rfl) ?_
      refine lv_aload_n hx hb dL_law_323 rfl (lv_at hl 3 rfl) ?_
      refine lv_iload_n hx hb dL_law_324 rfl (lv_at hl 0 rfl) ?_
      refine lv_iconst (v := nI 1) hx hb dL_law_325 (by decide) ?_
      refine lv_iadd hx hb dL_law_326 ?_
      refine kv_top (show _ = nI (i + 1) from nI_add _ _) ?_
      refine ka_sld hx hb hX hbl hbA hS (k := i + 1) (by omega) (by omega) dL_law_327 ?_
      refine kc_vi (WR := wMs g m1 m2 m3 m4 m5 m6 m7 m8 m9 m10 m11 m12 m13 ck u q) (As := [.int (xs (i + 1))]) (rest := []) S (hB l dC dI h a1 a2 a3 a4 a5 a6 cb ci H.size) (cwV 1 hts gT_X0_verify rfl rfl rfl (by decide +kernel) ⟨Nat.le_of_ble_eq_true rfl, Nat.le_of_ble_eq_true rfl⟩) hK hP hD hS hA [0, 1, 2, 3, 4, 5, 6] [7, 8, 9, 10, 11, 12, 13, 14, 15, 16, 17, 18, 19, 20] [0, 1] rfl rfl (by decide) (by decide) (by decide) rfl 0 0 rfl rfl rfl rfl hl.1 rfl (Nat.le_of_ble_eq_true rfl) dL_law_328 ⟨Nat.le_of_ble_eq_true rfl, Nat.le_of_ble_eq_true rfl⟩ (fun H locs hP hD hS => ?_)
      refine lv_aload_n hx hb dL_law_331 rfl (lv_at hl 1 rfl) ?_
      refine lv_aload_n hx hb dL_law_332 rfl (lv_at hl 3 rfl) ?_
      refine lv_iload_n hx hb dL_law_333 rfl (lv_at hl 0 rfl) ?_
      refine lv_iconst (v := nI 1) hx hb dL_law_334 (by decide) ?_
      refine lv_iadd hx hb dL_law_335 ?_
      refine kv_top (show _ = nI (i + 1) from nI_add _ _) ?_
      refine ka_sld hx hb hX hbl hbA hS (k := i + 1) (by omega) (by omega) dL_law_336 ?_
      refine kc_vi (WR := wBs h a1 a2 a3 a4 a5 a6 cb ci u2) (As := [.int (xs (i + 1))]) (rest := [.int r]) S (hM l dC dI g m1 m2 m3 m4 m5 m6 m7 m8 m9 m10 m11 m12 m13 ck H.size) (cwV 1 hts gT_M_verify rfl rfl rfl (by decide +kernel) ⟨Nat.le_of_ble_eq_true rfl, Nat.le_of_ble_eq_true rfl⟩) hK hP hD hS hA [0, 1, 2, 3, 4, 5, 6, 7, 8, 9, 10, 11, 12, 13] [14, 15, 16, 17, 18, 19, 20] [2] rfl rfl (by decide) (by decide) (by decide) rfl 0 1 rfl rfl rfl rfl hl.1 rfl (Nat.le_of_ble_eq_true rfl) dL_law_337 ⟨Nat.le_of_ble_eq_true rfl, Nat.le_of_ble_eq_true rfl⟩ (fun H locs hP hD hS => ?_)
      refine lv_icmp_eq (tgt := 368) hx hb dL_law_340 (by decide) (fun c_9 => ?_) (fun c_9 => absurd rfl c_9)
      refine lv_iinc (v := nI (i + 4)) (lv' := [(3, .int (nI (i + 4))), (2, .ref g), (1, .ref h), (0, .ref bS)]) hx hb dL_law_368 hl (k := 0) rfl (ki_inc4 i) (by decide) rfl (fun ls hl => ?_)
      refine lv_goto (tgt := 18) hx hb dL_law_371 (by decide) ?_
      exact ih (i + 4) u2 q2 (by omega) (by omega) hR2 _ _ _ hP hD hS hl
    · refine lv_tableIn (tgt := 345) (off := 313) hx hb dL_law_32 (by decide) (by decide) (by decide) (by decide) ?_
      obtain ⟨r, u2, q2, hR2, hB, hM⟩ := op_count hR (xs (i + 1))
      refine lv_aload_n hx hb dL_law_345 rfl (lv_at hl 2 rfl) ?_
      refine lv_aload_n hx hb dL_law_346 rfl (lv_at hl 3 rfl) ?_
      refine lv_iload_n hx hb dL_law_347 rfl (lv_at hl 0 rfl) ?_
      refine lv_iconst (v := nI 1) hx hb dL_law_348 (by decide) ?_
      refine lv_iadd hx hb dL_law_349 ?_
      refine kv_top (show _ = nI (i + 1) from nI_add _ _) ?_
      refine ka_sld hx hb hX hbl hbA hS (k := i + 1) (by omega) (by omega) dL_law_350 ?_
      refine kc_vi (WR := wMs g m1 m2 m3 m4 m5 m6 m7 m8 m9 m10 m11 m12 m13 ck u q) (As := [.int (xs (i + 1))]) (rest := []) S (hB l dC dI h a1 a2 a3 a4 a5 a6 cb ci H.size) (cwV 1 hts gT_X0_count rfl rfl rfl (by decide +kernel) ⟨Nat.le_of_ble_eq_true rfl, Nat.le_of_ble_eq_true rfl⟩) hK hP hD hS hA [0, 1, 2, 3, 4, 5, 6] [7, 8, 9, 10, 11, 12, 13, 14, 15, 16, 17, 18, 19, 20] [0, 1] rfl rfl (by decide) (by decide) (by decide) rfl 0 0 rfl rfl rfl rfl hl.1 rfl (Nat.le_of_ble_eq_true rfl) dL_law_351 ⟨Nat.le_of_ble_eq_true rfl, Nat.le_of_ble_eq_true rfl⟩ (fun H locs hP hD hS => ?_)
      refine lv_aload_n hx hb dL_law_354 rfl (lv_at hl 1 rfl) ?_
      refine lv_aload_n hx hb dL_law_355 rfl (lv_at hl 3 rfl) ?_
      refine lv_iload_n hx hb dL_law_356 rfl (lv_at hl 0 rfl) ?_
      refine lv_iconst (v := nI 1) hx hb dL_law_357 (by decide) ?_
      refine lv_iadd hx hb dL_law_358 ?_
      refine kv_top (show _ = nI (i + 1) from nI_add _ _) ?_
      refine ka_sld hx hb hX hbl hbA hS (k := i + 1) (by omega) (by omega) dL_law_359 ?_
      refine kc_vi (WR := wBs h a1 a2 a3 a4 a5 a6 cb ci u2) (As := [.int (xs (i + 1))]) (rest := [.int r]) S (hM l dC dI g m1 m2 m3 m4 m5 m6 m7 m8 m9 m10 m11 m12 m13 ck H.size) (cwV 1 hts gT_M_count rfl rfl rfl (by decide +kernel) ⟨Nat.le_of_ble_eq_true rfl, Nat.le_of_ble_eq_true rfl⟩) hK hP hD hS hA [0, 1, 2, 3, 4, 5, 6, 7, 8, 9, 10, 11, 12, 13] [14, 15, 16, 17, 18, 19, 20] [2] rfl rfl (by decide) (by decide) (by decide) rfl 0 1 rfl rfl rfl rfl hl.1 rfl (Nat.le_of_ble_eq_true rfl) dL_law_360 ⟨Nat.le_of_ble_eq_true rfl, Nat.le_of_ble_eq_true rfl⟩ (fun H locs hP hD hS => ?_)
      refine lv_icmp_eq (tgt := 368) hx hb dL_law_363 (by decide) (fun c_9 => ?_) (fun c_9 => absurd rfl c_9)
      refine lv_iinc (v := nI (i + 4)) (lv' := [(3, .int (nI (i + 4))), (2, .ref g), (1, .ref h), (0, .ref bS)]) hx hb dL_law_368 hl (k := 0) rfl (ki_inc4 i) (by decide) rfl (fun ls hl => ?_)
      refine lv_goto (tgt := 18) hx hb dL_law_371 (by decide) ?_
      exact ih (i + 4) u2 q2 (by omega) (by omega) hR2 _ _ _ hP hD hS hl
    · refine lv_tableOut (tgt := 368) hx hb dL_law_32 (Or.inr (by rw [nI_toInt (by omega)]; omega)) (by decide) ?_
      refine lv_iinc (v := nI (i + 4)) (lv' := [(3, .int (nI (i + 4))), (2, .ref g), (1, .ref h), (0, .ref bS)]) hx hb dL_law_368 hl (k := 0) rfl (ki_inc4 i) (by decide) rfl (fun ls hl => ?_)
      refine lv_goto (tgt := 18) hx hb dL_law_371 (by decide) ?_
      exact ih (i + 4) u q (by omega) (by omega) hR _ _ _ hP hD hS hl
end
section
set_option maxHeartbeats 4000000 in
set_option maxRecDepth 100000 in
theorem whole_start {p : Program} {e : Env} {s : State} {m : MethodId} {below : List Frame} {meth : Method} {c : Code} (l : Launch) {b L : Nat} {xs : Nat → Int32} (hL : L ≤ 2048) (C0 : lw_At p s m meth c b L xs) : W p l e room_1 s m #[Value.ref b] below meth c s.heap [] 0 0 (lw_Z below #[Value.ref b] s) (entryFrame m ([Value.ref b] : List Value).toArray 4) := by
  obtain ⟨hx, hb, hr, hml, hown, hts, hX, hbl, hlocks, hgv⟩ := id C0
  have hown : s.vm.findClass RL = some m.cls := hown
  have hA : ∀ q : Nat, s.heap.size ≤ q → (fun q : Nat => s.heap.size ≤ q) q := fun _ h => h
  have S : CallFix p m c code 4 s #[Value.ref b] lw_tbl RL := ⟨hx, hb, hml, hown, hts⟩
  obtain ⟨c0, iS0, hKn0⟩ := u_known (C := RX0) (T := TX0) (N := 9) (n := 9) hts inT0 (hts (.instantiable RX0 9) (by decide +kernel))
  obtain ⟨c1, iS1, hKn1⟩ := u_known (C := RX1) (T := TX1) (N := 19) (n := 19) hts inT1 (hts (.instantiable RX1 19) (by decide +kernel))
  obtain ⟨dC, dI, hKc⟩ : ∃ (dC : Nat → ClassId) (dI : Nat → Nat → Nat), ∀ (k : Nat) (q : vw_C), vwCl[k]? = some q → u_Kn s q.1 q.2.1 q.2.2 (dC k) (dI k) := by
    refine ⟨fun k => if k = 0 then c0 else c1, fun k => if k = 0 then iS0 else iS1, ?_⟩
    intro k q hq
    match k, hq with
    | 0, hq => cases hq; exact hKn0
    | 1, hq => cases hq; exact hKn1
    | k + 2, hq => simp [vwCl] at hq
  have hS : va_S (fun q : Nat => s.heap.size ≤ q) s.heap s.heap [] := va_S.rf
  have hK : va_K (dC, dI) vwCl [] s := ⟨hKc, fun k q h => by simp at h⟩
  have hP : va_P (dC, dI) vwCl [] s.heap := fun k q h => by simp at h
  have hD : va_D (fun q : Nat => s.heap.size ≤ q) [] := ⟨fun i j p q h => by simp at h, fun k q h => by simp at h⟩
  have hl := lv_entry ([.ref b]) (n := 4) (Nat.le_of_ble_eq_true rfl)
  rw [lg_entry_eq]
  generalize (lg_sl ([.ref b]) ++ List.replicate (4 - (lg_sl ([.ref b])).length) Slot.unset).toArray = ls at hl ⊢
  have hl : lv_has ls 4 [(0, .ref b)] := hl
  refine va_new (ci := 0) (fs := [.null, .int 0, .null, .int 0, .null, .null, .int 0, .null, .null]) (C := RX0) (T := TX0) (N := 9) hx hb hts inT0 tyX0 tyX0_ok hown (hts (.classLink RL 7 RX0) (by decide +kernel)) (hts (.instantiable RX0 9) (by decide +kernel)) (hts (.initialized RX0) (by decide +kernel)) hK hP hD hS hA rfl (fun j hj => by rcases (show j = 0 ∨ j = 1 ∨ j = 2 ∨ j = 3 ∨ j = 4 ∨ j = 5 ∨ j = 6 ∨ j = 7 ∨ j = 8 by omega) with rfl | rfl | rfl | rfl | rfl | rfl | rfl | rfl | rfl <;> rfl) (Nat.le_of_ble_eq_true rfl) (Nat.le_of_ble_eq_true rfl) dL_law_0 (fun h H hP hD hS => ?_)
  have hP : va_P (dC, dI) vwCl [(h, .inr (0, [.null, .int 0, .null, .int 0, .null, .null, .int 0, .null, .null]))] H := hP
  have hD : va_D (fun q : Nat => s.heap.size ≤ q) [(h, .inr (0, [.null, .int 0, .null, .int 0, .null, .null, .int 0, .null, .null]))] := hD
  refine W.widen (k := 1) (n := 9) (Nat.le_of_ble_eq_true rfl) (Nat.le_of_ble_eq_true rfl) ?_
  refine lv_dup hx hb dL_law_3 rfl ?_
  have hPc := hP
  have hDc := hD
  have hFc := va_free (wc := [(h, .inr (0, [.null, .int 0, .null, .int 0, .null, .null, .int 0, .null, .null]))]) hD hS hA [0] rfl
  refine va_callv (va_runI (As := []) (rest := [.ref h]) S (c_init l dC dI h H.size) (cwI 0 hts gT_X0_init rfl rfl rfl (hts (.initialized RX0) (by decide +kernel)) (hts (.methodLink RL 9 yX0_init) (by decide +kernel)) (hts (.instanceMethod yX0_init) (by decide +kernel)) rfl (by decide +kernel) ⟨Nat.le_of_ble_eq_true rfl, Nat.le_of_ble_eq_true rfl⟩) ⟨kBlind, fun U hU hW => ⟨rfl, by rw [hU], by rw [hU]; exact hPc, va_K.moved hW.alike hK, hDc.weaken (fun _ _ _ _ => trivial)⟩⟩ rfl rfl hl.1 rfl (lv_room (Nat.le_of_ble_eq_true rfl)) dL_law_4 ⟨Nat.le_of_ble_eq_true rfl, Nat.le_of_ble_eq_true rfl⟩) hS (fun q _ h => hFc q h) hFc (fun u t H1 locs ht hvm hw hB hz1 hk1 hS => ?_)
  obtain ⟨a1, a2, a3, a4, a5, a6, cb, ci⟩ := u
  obtain ⟨hP1, hK1, hD1⟩ := hB
  rw [ht] at hP1
  have hK1 := va_K.moved hvm.symm hK1
  obtain ⟨hP, hD⟩ := va_join (wr := []) hP hD [0] [] rfl rfl (by decide) (by decide) hk1 hFc hP1 hD1
  generalize H1 = H at hP hS ⊢
  have hP : va_P (dC, dI) vwCl (wBs h a1 a2 a3 a4 a5 a6 cb ci b0) H := hP
  have hD : va_D (fun q : Nat => s.heap.size ≤ q) (wBs h a1 a2 a3 a4 a5 a6 cb ci b0) := hD
  have hK : va_K (dC, dI) vwCl (tB cb ci) s := hK1
  refine W.widen (k := 7) (n := 5989) (Nat.le_of_ble_eq_true rfl) (Nat.le_of_ble_eq_true rfl) ?_
  refine lv_astore_n (lv' := [(1, .ref h), (0, .ref b)]) hx hb dL_law_7 rfl hl (by decide) rfl (fun ls hl => ?_)
  refine va_new (ci := 1) (fs := [.int 0, .null, .int 0, .int 0, .int 0, .null, .null, .null, .null, .null, .null, .null, .int 0, .int 0, .null, .null, .null, .null, .null]) (C := RX1) (T := TX1) (N := 19) hx hb hts inT1 tyX1 tyX1_ok hown (hts (.classLink RL 10 RX1) (by decide +kernel)) (hts (.instantiable RX1 19) (by decide +kernel)) (hts (.initialized RX1) (by decide +kernel)) hK hP hD hS hA rfl (fun j hj => by rcases (show j = 0 ∨ j = 1 ∨ j = 2 ∨ j = 3 ∨ j = 4 ∨ j = 5 ∨ j = 6 ∨ j = 7 ∨ j = 8 ∨ j = 9 ∨ j = 10 ∨ j = 11 ∨ j = 12 ∨ j = 13 ∨ j = 14 ∨ j = 15 ∨ j = 16 ∨ j = 17 ∨ j = 18 by omega) with rfl | rfl | rfl | rfl | rfl | rfl | rfl | rfl | rfl | rfl | rfl | rfl | rfl | rfl | rfl | rfl | rfl | rfl | rfl <;> rfl) (Nat.le_of_ble_eq_true rfl) (Nat.le_of_ble_eq_true rfl) dL_law_8 (fun g H hP hD hS => ?_)
  have hP : va_P (dC, dI) vwCl (wBs h a1 a2 a3 a4 a5 a6 cb ci b0 ++ [(g, .inr (1, [.int 0, .null, .int 0, .int 0, .int 0, .null, .null, .null, .null, .null, .null, .null, .int 0, .int 0, .null, .null, .null, .null, .null]))]) H := hP
  have hD : va_D (fun q : Nat => s.heap.size ≤ q) (wBs h a1 a2 a3 a4 a5 a6 cb ci b0 ++ [(g, .inr (1, [.int 0, .null, .int 0, .int 0, .int 0, .null, .null, .null, .null, .null, .null, .null, .int 0, .int 0, .null, .null, .null, .null, .null]))]) := hD
  refine W.widen (k := 8) (n := 6008) (Nat.le_of_ble_eq_true rfl) (Nat.le_of_ble_eq_true rfl) ?_
  refine lv_dup hx hb dL_law_11 rfl ?_
  have hPc := kP_cut (wc := [(g, .inr (1, [.int 0, .null, .int 0, .int 0, .int 0, .null, .null, .null, .null, .null, .null, .null, .int 0, .int 0, .null, .null, .null, .null, .null]))]) hP [7] rfl
  have hDc := hD.sub (ws' := [(g, .inr (1, [.int 0, .null, .int 0, .int 0, .int 0, .null, .null, .null, .null, .null, .null, .null, .int 0, .int 0, .null, .null, .null, .null, .null]))]) [7] (by decide) rfl
  have hKc : va_K (dC, dI) vwCl [] s := hK.sub [] rfl
  have hFc := va_free (wc := [(g, .inr (1, [.int 0, .null, .int 0, .int 0, .int 0, .null, .null, .null, .null, .null, .null, .null, .int 0, .int 0, .null, .null, .null, .null, .null]))]) hD hS hA [7] rfl
  refine va_callv (va_runI (As := []) (rest := [.ref g]) S (r_init l dC dI g H.size) (cwI 0 hts gT_M_init rfl rfl rfl (hts (.initialized RX1) (by decide +kernel)) (hts (.methodLink RL 12 yM_init) (by decide +kernel)) (hts (.instanceMethod yM_init) (by decide +kernel)) rfl (by decide +kernel) ⟨Nat.le_of_ble_eq_true rfl, Nat.le_of_ble_eq_true rfl⟩) ⟨kBlind, fun U hU hW => ⟨rfl, by rw [hU], by rw [hU]; exact hPc, va_K.moved hW.alike hKc, hDc.weaken (fun _ _ _ _ => trivial)⟩⟩ rfl rfl hl.1 rfl (lv_room (Nat.le_of_ble_eq_true rfl)) dL_law_12 ⟨Nat.le_of_ble_eq_true rfl, Nat.le_of_ble_eq_true rfl⟩) hS (fun q _ h => hFc q h) hFc (fun u t H1 locs ht hvm hw hB hz1 hk1 hS => ?_)
  obtain ⟨m1, m2, m3, m4, m5, m6, m7, m8, m9, m10, m11, m12, m13, ck⟩ := u
  obtain ⟨hP1, hK1, hD1⟩ := hB
  rw [ht] at hP1
  have hK1 := va_K.moved hvm.symm hK1
  obtain ⟨hP, hD⟩ := va_join (wr := wBs h a1 a2 a3 a4 a5 a6 cb ci b0) hP hD [7] [0, 1, 2, 3, 4, 5, 6] rfl rfl (by decide) (by decide) hk1 hFc hP1 hD1
  have hK := hK.app hK1
  generalize H1 = H at hP hS ⊢
  have hP : va_P (dC, dI) vwCl (wBs h a1 a2 a3 a4 a5 a6 cb ci b0 ++ wMs g m1 m2 m3 m4 m5 m6 m7 m8 m9 m10 m11 m12 m13 ck b0 q0) H := hP
  have hD : va_D (fun q : Nat => s.heap.size ≤ q) (wBs h a1 a2 a3 a4 a5 a6 cb ci b0 ++ wMs g m1 m2 m3 m4 m5 m6 m7 m8 m9 m10 m11 m12 m13 ck b0 q0) := hD
  have hK : va_K (dC, dI) vwCl [(cb, .byte), (ci, .int), (ck, .int)] s := hK
  refine W.widen (k := 21) (n := 16788) (Nat.le_of_ble_eq_true rfl) (Nat.le_of_ble_eq_true rfl) ?_
  refine lv_astore_n (lv' := [(2, .ref g), (1, .ref h), (0, .ref b)]) hx hb dL_law_15 rfl hl (by decide) rfl (fun ls hl => ?_)
  refine lv_iconst (v := nI 0) hx hb dL_law_16 (by decide) ?_
  refine lv_istore_n (lv' := [(3, .int (nI 0)), (2, .ref g), (1, .ref h), (0, .ref b)]) hx hb dL_law_17 rfl hl (by decide) rfl (fun ls hl => ?_)
  exact law_loop hL C0 h a1 a2 a3 a4 a5 a6 cb ci g m1 m2 m3 m4 m5 m6 m7 m8 m9 m10 m11 m12 m13 ck hK (L + 4) 0 b0 q0 (Nat.zero_le L) (by omega) rel0 _ _ _ hP hD hS hl
end
section
set_option maxHeartbeats 4000000 in
theorem lw_walk (l : Launch) (b : Addr) (xs : List Int32) : MetFree l x (headSpec (Jvm.Cond.code x code maxLocals ret :: tables_1) room_1) (lw_P b xs) (fun _ _ _ _ _ => True) lw_Q := by
  refine MetFree.of_bodyS (code := code) (maxLocals := maxLocals) (ret := ret) (by decide) ?_ ?_
  · intro args s m h hn
    obtain ⟨meth, c, h1, h2, h3, h4, h5, h6, -, -⟩ := Cond.code_spec hn (atoms_spec (ws := Jvm.Cond.code x code maxLocals ret :: tables_1) h _ List.mem_cons_self)
    exact ⟨meth, c, h1, h2, h3, h4, h5, h6⟩
  · intro p e s m args below meth c s₁ B hml0 hP _
    obtain ⟨rfl, hx, hbd, hgv⟩ := hP
    obtain ⟨scr, harrAt, hlist, hof, hsmall⟩ := hx
    obtain ⟨hcb, hkn, -, -⟩ := State.arrayAt?_spec harrAt
    have hown : s.vm.findClass R_law = some m.cls := findClass_of_methodNamed B.named
    have hts0 : ∀ c ∈ (Jvm.Cond.code x code maxLocals ret :: tables_1), c.before #[Value.ref b] s = true := atoms_spec (ws := Jvm.Cond.code x code maxLocals ret :: tables_1) B.pre
    have hts : ∀ w ∈ lw_tbl, w.before #[Value.ref b] s = true := k2_hts_sels lw_privs (fun w hw => hts0 w (List.mem_cons_of_mem _ hw)) lw_privs_ok
    have hml : c.maxLocals = 4 := B.maxLocals_eq (hts0 _ List.mem_cons_self)
    have X₀ : Stand p l e room_1 s m #[Value.ref b] below meth c s₁ [] 0 0 := Stand.of_body B
    have hh0 : s₁.heap = s.heap := by rw [B.state]; rfl
    have hsz : scr.slots.size = xs.length := by rw [← Array.length_toList, hlist, List.length_map]
    have hval : ∀ j : Nat, j < xs.length → scr.slots[j]? = some (.int (xs.getD j 0)) := fun j hj => by
      rw [← Array.getElem?_toList, hlist]
      simp [hj]
    have hbl : b < s.heap.size := (Array.getElem?_eq_some_iff.mp hcb).1
    have hX : va_X b xs.length (fun j => xs.getD j 0) s s.heap := ⟨scr, hcb, hof, hkn, hsz, hval⟩
    have K : W p l e room_1 s m #[Value.ref b] below meth c s₁.heap [] 0 0 (lw_Z below #[Value.ref b] s) (entryFrame m ([Value.ref b] : List Value).toArray 4) := by
      rw [hh0]
      exact whole_start l hbd ⟨B.exec, B.bytes, B.returns, hml, hown, hts, hX, hbl, B.notSynchronized, hgv⟩
    obtain ⟨t, a1, o, b1, b2, b3⟩ := K s₁ rfl X₀
    exact ⟨t, o, a1, b1, b2, b3⟩
theorem lw_pre_spec {args : Array Value} {s : State} (h : (Jvm.Cond.and given_1 narrow_1).before args s = true) (hr : rest_1_c.before args s = true) : ∃ (b : Addr) (xs : List Int32), lw_P b xs args s := by
  have hs := flat_of_before _ h
  have hq := flat_of_before _ hr
  have hc : (Cond.count 1).before args s = true := hs _ (by decide +kernel)
  have harr : (Cond.arrayOf (.arg 0) .int).before args s = true := hs _ (by decide +kernel)
  have hle : (Cond.le (.length (.arg 0)) (.int 2048)).before args s = true := hs _ (by decide +kernel)
  have hlen : (Cond.isInt (.length (.arg 0))).before args s = true := hq _ (by decide +kernel)
  have hall : (Cond.all (.arg 0) (.isInt (.elem (.arg 0) (.index 0)))).before args s = true := hq _ (by decide +kernel)
  obtain ⟨b, xs, hb, hx⟩ := State.ints_of_pre rfl harr hlen hall
  have hsm : xs.length < 2 ^ 31 := hx.choose_spec.2.2.2
  have hev : (Term.length (.arg 0)).eval args s none [] s = some (.int xs.length.toInt32) := hx.length_eval hb
  have hv := Cond.le_ints hev (show (Term.int 2048).eval args s none [] s = some (.int 2048) from rfl)
  have hd : xs.length.toInt32 ≤ 2048 := by
    simpa [Cond.before, Cond.holds, hv] using hle
  have hN : xs.length ≤ 2048 := (Int32.ofNat_le_ofNat hsm (by decide)).mp (show Int32.ofNat xs.length ≤ Int32.ofNat 2048 from hd)
  exact ⟨b, xs, Cond.one_arg hc (show args[0]? = some (.ref b) from hb), hx, hN, h⟩
theorem lw_comes (l : Launch) : Comes l x (Jvm.Cond.code x code maxLocals ret :: tables_1) room_1 (fun tb e args s => Calls_1 tb e args s ∧ rest_1 tb e args s ∧ Pre_1 tb e args s)
    (fun _ _ args s o t => lw_Q args s o t) := by
  intro p e ha hc hk s m args below hf hfit hheap happ hpre
  obtain ⟨b, xs, hP⟩ := lw_pre_spec hpre.2.2 hpre.2.1
  obtain ⟨k, o, h1, h2, h3, hQ⟩ := lw_walk l b xs p e ha hc hk s m args below hf ((Spec.applies_iff_loose hf).mp happ).1 hP trivial
  exact ⟨k, o, h1, h2, h3, hQ⟩
theorem lw_frame {s t : State} {o : Outcome} {args : Array Value} (h : Framed s o t [] 21 16788) :
    Framed s o t (fieldLocs frame_1_writes args s ++ arrayLocs frame_1_arrays args s ++ staticLocs frame_1_statics s) 21 16788 := h
theorem lw_limb (L : Cond) (hL : ∀ (args : Array Value) (s t : State), L.after args s (.returned (some (.int 1))) t = true) :
    ArmFor flags0 classFile x code maxLocals ret World_1 tables_1 room_1 Calls_1 rest_1 Pre_1
      (fun tb e a s o t => postC L tb e a s o t ∧ Framed s o t (fieldLocs frame_1_writes a s ++ arrayLocs frame_1_arrays a s ++ staticLocs frame_1_statics s) 21 16788) := by
  intro l _ _ _ p e ha hc hk s m args below hf hfit hheap happ hpre
  obtain ⟨k, o, h1, h2, h3, rfl, hF⟩ := lw_comes l p e ha hc hk s m args below hf hfit hheap happ hpre
  exact ⟨k, _, h1, h2, h3, hL args s _, lw_frame hF⟩
theorem i_vc : Claimed_1_1 ∧ Claimed_1_2 := ⟨lw_limb limb_1_1 (fun args s t => by simp [limb_1_1, Cond.after, Cond.holds, Cond.value]), lw_limb limb_1_2 (fun args s t => Cond.after_iff.mpr (by
  first | (rw [show limb_1_2 = Cond.eq .result (.int 1) from rfl, Cond.eq_ints (x := 1) (y := 1) rfl rfl]; simp; done) | (simp [limb_1_2, Cond.value, Term.eval]; done)))⟩
end
