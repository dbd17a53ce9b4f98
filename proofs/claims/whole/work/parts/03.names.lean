abbrev cM_init : ByteArray := prog_3_method_1_code
def yM_init : MethodName := ⟨RX1, "<init>", "()V"⟩
abbrev cM_feed : ByteArray := prog_3_method_3_code
def yM_feed : MethodName := ⟨RX1, "feed", "(II)I"⟩
abbrev cM_room : ByteArray := prog_3_method_4_code
def yM_room : MethodName := ⟨RX1, "room", "()I"⟩
abbrev cM_add : ByteArray := prog_3_method_5_code
def yM_add : MethodName := ⟨RX1, "add", "(IZ)V"⟩
abbrev cM_write : ByteArray := prog_3_method_6_code
def yM_write : MethodName := ⟨RX1, "write", "()V"⟩
abbrev cM_put : ByteArray := prog_3_method_7_code
def yM_put : MethodName := ⟨RX1, "put", "(II)I"⟩
abbrev cM_close : ByteArray := prog_3_method_8_code
def yM_close : MethodName := ⟨RX1, "close", "()Z"⟩
abbrev cM_plain : ByteArray := prog_3_method_9_code
def yM_plain : MethodName := ⟨RX1, "plain", "(II)I"⟩
abbrev cM_sum : ByteArray := prog_3_method_10_code
def yM_sum : MethodName := ⟨RX1, "sum", "(I)I"⟩
abbrev cM_isWritten : ByteArray := prog_3_method_11_code
def yM_isWritten : MethodName := ⟨RX1, "isWritten", "(I)Z"⟩
abbrev cM_byteOf : ByteArray := prog_3_method_12_code
def yM_byteOf : MethodName := ⟨RX1, "byteOf", "(II)I"⟩
abbrev cM_spoil : ByteArray := prog_3_method_13_code
def yM_spoil : MethodName := ⟨RX1, "spoil", "(III)Z"⟩
abbrev cM_heal : ByteArray := prog_3_method_14_code
def yM_heal : MethodName := ⟨RX1, "heal", "(I)Z"⟩
abbrev cM_isGood : ByteArray := prog_3_method_15_code
def yM_isGood : MethodName := ⟨RX1, "isGood", "(I)Z"⟩
abbrev cM_good : ByteArray := prog_3_method_16_code
def yM_good : MethodName := ⟨RX1, "good", "(I)Z"⟩
abbrev cM_isRead : ByteArray := prog_3_method_17_code
def yM_isRead : MethodName := ⟨RX1, "isRead", "(I)Z"⟩
abbrev cM_read : ByteArray := prog_3_method_18_code
def yM_read : MethodName := ⟨RX1, "read", "(II)I"⟩
abbrev cM_verify : ByteArray := prog_3_method_19_code
def yM_verify : MethodName := ⟨RX1, "verify", "(I)I"⟩
abbrev cM_count : ByteArray := prog_3_method_20_code
def yM_count : MethodName := ⟨RX1, "count", "(I)I"⟩
def wsM_init : List Cond := .code yM_init cM_init 1 none :: ([.arrayClass .int, .fieldLink RX1 7 "BlockTapeModel" "tape" "[I", .fieldLink RX1 13 "BlockTapeModel" "stream" "[I", .fieldLink RX1 16 "BlockTapeModel" "index" "[I", .fieldLink RX1 19 "BlockTapeModel" "length" "[I", .fieldLink RX1 22 "BlockTapeModel" "begin" "[I", .fieldLink RX1 25 "BlockTapeModel" "fromBlock" "[I", .fieldLink RX1 28 "BlockTapeModel" "toBlock" "[I", .fieldLink RX1 31 "BlockTapeModel" "bytes" "[I", .fieldLink RX1 34 "BlockTapeModel" "data" "[I", .fieldLink RX1 37 "BlockTapeModel" "uses" "[I", .fieldLink RX1 40 "BlockTapeModel" "first" "[I", .fieldLink RX1 43 "BlockTapeModel" "spoilt" "[I", .fieldLink RX1 46 "BlockTapeModel" "spoiltBy" "[I", .methodLink RX1 1 objectInit, .instanceMethod objectInit, .code objectInit ⟨#[0xb1]⟩ 1 none] ++ wsX10)
def wsM_feed : List Cond := .code yM_feed cM_feed 4 (some .int) :: ([.fieldLink RX1 49 "BlockTapeModel" "thrown" "I", .fieldLink RX1 53 "BlockTapeModel" "taped" "I", .fieldLink RX1 7 "BlockTapeModel" "tape" "[I"] ++ wsX10)
def wsM_room : List Cond := .code yM_room cM_room 1 (some .int) :: ([.fieldLink RX1 56 "BlockTapeModel" "written" "I", .fieldLink RX1 59 "BlockTapeModel" "used" "I"] ++ wsX10)
def wsM_add : List Cond := .code yM_add cM_add 3 none :: ([.fieldLink RX1 59 "BlockTapeModel" "used" "I", .fieldLink RX1 40 "BlockTapeModel" "first" "[I", .fieldLink RX1 56 "BlockTapeModel" "written" "I", .fieldLink RX1 43 "BlockTapeModel" "spoilt" "[I", .fieldLink RX1 34 "BlockTapeModel" "data" "[I", .methodLink RX1 62 yM_write, .instanceMethod yM_write, .selects RX1 yM_write yM_write, .initialized RX1, .code yM_write cM_write 1 none, .fieldLink RX1 37 "BlockTapeModel" "uses" "[I"] ++ wsX10)
def wsM_write : List Cond := .code yM_write cM_write 1 none :: ([.fieldLink RX1 37 "BlockTapeModel" "uses" "[I", .fieldLink RX1 56 "BlockTapeModel" "written" "I", .fieldLink RX1 59 "BlockTapeModel" "used" "I"] ++ wsX10)
def wsM_put_r1 : List Cond := [Cond.fieldLink RX1 49 "BlockTapeModel" "thrown" "I", Cond.constant RX1 65 (65535), Cond.fieldLink RX1 66 "BlockTapeModel" "records" "I", Cond.fieldLink RX1 53 "BlockTapeModel" "taped" "I", Cond.fieldLink RX1 13 "BlockTapeModel" "stream" "[I", Cond.fieldLink RX1 16 "BlockTapeModel" "index" "[I", Cond.fieldLink RX1 19 "BlockTapeModel" "length" "[I", Cond.fieldLink RX1 22 "BlockTapeModel" "begin" "[I", Cond.fieldLink RX1 73 "BlockTapeModel" "kept" "I", Cond.fieldLink RX1 25 "BlockTapeModel" "fromBlock" "[I", Cond.fieldLink RX1 56 "BlockTapeModel" "written" "I", Cond.fieldLink RX1 28 "BlockTapeModel" "toBlock" "[I", Cond.fieldLink RX1 31 "BlockTapeModel" "bytes" "[I", Cond.fieldLink RX1 7 "BlockTapeModel" "tape" "[I", Cond.methodLink RX1 69 yM_room, Cond.instanceMethod yM_room, Cond.selects RX1 yM_room yM_room, Cond.initialized RX1, Cond.code yM_room cM_room 1 (some .int), Cond.fieldLink RX1 59 "BlockTapeModel" "used" "I"]
def wsM_put_r2 : List Cond := [Cond.methodLink RX1 76 yM_add, Cond.instanceMethod yM_add, Cond.selects RX1 yM_add yM_add, Cond.code yM_add cM_add 3 none, Cond.fieldLink RX1 40 "BlockTapeModel" "first" "[I", Cond.fieldLink RX1 43 "BlockTapeModel" "spoilt" "[I", Cond.fieldLink RX1 34 "BlockTapeModel" "data" "[I", Cond.methodLink RX1 62 yM_write, Cond.instanceMethod yM_write, Cond.selects RX1 yM_write yM_write, Cond.code yM_write cM_write 1 none, Cond.fieldLink RX1 37 "BlockTapeModel" "uses" "[I"]
def wsM_put : List Cond := .code yM_put cM_put 5 (some .int) :: ((wsM_put_r1 ++ wsM_put_r2) ++ wsX10)
def wsM_close : List Cond := .code yM_close cM_close 2 (some .boolean) :: ([.fieldLink RX1 49 "BlockTapeModel" "thrown" "I", .fieldLink RX1 59 "BlockTapeModel" "used" "I", .fieldLink RX1 34 "BlockTapeModel" "data" "[I", .fieldLink RX1 56 "BlockTapeModel" "written" "I", .methodLink RX1 62 yM_write, .instanceMethod yM_write, .selects RX1 yM_write yM_write, .initialized RX1, .code yM_write cM_write 1 none, .fieldLink RX1 37 "BlockTapeModel" "uses" "[I"] ++ wsX10)
def wsM_plain : List Cond := .code yM_plain cM_plain 3 (some .int) :: ([.fieldLink RX1 37 "BlockTapeModel" "uses" "[I", .fieldLink RX1 40 "BlockTapeModel" "first" "[I", .fieldLink RX1 34 "BlockTapeModel" "data" "[I"] ++ wsX10)
def wsM_sum : List Cond := .code yM_sum cM_sum 5 (some .int) :: ([.constant RX1 84 (-306674912), .methodLink RX1 80 yM_plain, .instanceMethod yM_plain, .selects RX1 yM_plain yM_plain, .initialized RX1, .code yM_plain cM_plain 3 (some .int), .fieldLink RX1 37 "BlockTapeModel" "uses" "[I", .fieldLink RX1 40 "BlockTapeModel" "first" "[I", .fieldLink RX1 34 "BlockTapeModel" "data" "[I"] ++ wsX10)
def wsM_isWritten : List Cond := .code yM_isWritten cM_isWritten 2 (some .boolean) :: ([.fieldLink RX1 56 "BlockTapeModel" "written" "I"] ++ wsX10)
def wsM_byteOf_r1 : List Cond := [Cond.fieldLink RX1 49 "BlockTapeModel" "thrown" "I", Cond.fieldLink RX1 43 "BlockTapeModel" "spoilt" "[I", Cond.fieldLink RX1 46 "BlockTapeModel" "spoiltBy" "[I", Cond.methodLink RX1 85 yM_isWritten, Cond.instanceMethod yM_isWritten, Cond.selects RX1 yM_isWritten yM_isWritten, Cond.initialized RX1, Cond.code yM_isWritten cM_isWritten 2 (some .boolean), Cond.fieldLink RX1 56 "BlockTapeModel" "written" "I", Cond.methodLink RX1 89 yM_sum, Cond.instanceMethod yM_sum, Cond.selects RX1 yM_sum yM_sum, Cond.code yM_sum cM_sum 5 (some .int), Cond.constant RX1 84 (-306674912), Cond.methodLink RX1 80 yM_plain, Cond.instanceMethod yM_plain, Cond.selects RX1 yM_plain yM_plain, Cond.code yM_plain cM_plain 3 (some .int), Cond.fieldLink RX1 37 "BlockTapeModel" "uses" "[I", Cond.fieldLink RX1 40 "BlockTapeModel" "first" "[I"]
def wsM_byteOf_r2 : List Cond := [Cond.fieldLink RX1 34 "BlockTapeModel" "data" "[I"]
def wsM_byteOf : List Cond := .code yM_byteOf cM_byteOf 4 (some .int) :: ((wsM_byteOf_r1 ++ wsM_byteOf_r2) ++ wsX10)
def wsM_spoil : List Cond := .code yM_spoil cM_spoil 4 (some .boolean) :: ([.fieldLink RX1 49 "BlockTapeModel" "thrown" "I", .fieldLink RX1 43 "BlockTapeModel" "spoilt" "[I", .fieldLink RX1 46 "BlockTapeModel" "spoiltBy" "[I", .methodLink RX1 85 yM_isWritten, .instanceMethod yM_isWritten, .selects RX1 yM_isWritten yM_isWritten, .initialized RX1, .code yM_isWritten cM_isWritten 2 (some .boolean), .fieldLink RX1 56 "BlockTapeModel" "written" "I"] ++ wsX10)
def wsM_heal : List Cond := .code yM_heal cM_heal 2 (some .boolean) :: ([.fieldLink RX1 49 "BlockTapeModel" "thrown" "I", .fieldLink RX1 43 "BlockTapeModel" "spoilt" "[I", .methodLink RX1 85 yM_isWritten, .instanceMethod yM_isWritten, .selects RX1 yM_isWritten yM_isWritten, .initialized RX1, .code yM_isWritten cM_isWritten 2 (some .boolean), .fieldLink RX1 56 "BlockTapeModel" "written" "I"] ++ wsX10)
def wsM_isGood : List Cond := .code yM_isGood cM_isGood 2 (some .boolean) :: ([.fieldLink RX1 43 "BlockTapeModel" "spoilt" "[I", .methodLink RX1 85 yM_isWritten, .instanceMethod yM_isWritten, .selects RX1 yM_isWritten yM_isWritten, .initialized RX1, .code yM_isWritten cM_isWritten 2 (some .boolean), .fieldLink RX1 56 "BlockTapeModel" "written" "I"] ++ wsX10)
def wsM_good : List Cond := .code yM_good cM_good 2 (some .boolean) :: ([.fieldLink RX1 49 "BlockTapeModel" "thrown" "I", .methodLink RX1 93 yM_isGood, .instanceMethod yM_isGood, .selects RX1 yM_isGood yM_isGood, .initialized RX1, .code yM_isGood cM_isGood 2 (some .boolean), .fieldLink RX1 43 "BlockTapeModel" "spoilt" "[I", .methodLink RX1 85 yM_isWritten, .instanceMethod yM_isWritten, .selects RX1 yM_isWritten yM_isWritten, .code yM_isWritten cM_isWritten 2 (some .boolean), .fieldLink RX1 56 "BlockTapeModel" "written" "I"] ++ wsX10)
def wsM_isRead : List Cond := .code yM_isRead cM_isRead 3 (some .boolean) :: ([.fieldLink RX1 25 "BlockTapeModel" "fromBlock" "[I", .fieldLink RX1 28 "BlockTapeModel" "toBlock" "[I", .methodLink RX1 93 yM_isGood, .instanceMethod yM_isGood, .selects RX1 yM_isGood yM_isGood, .initialized RX1, .code yM_isGood cM_isGood 2 (some .boolean), .fieldLink RX1 43 "BlockTapeModel" "spoilt" "[I", .methodLink RX1 85 yM_isWritten, .instanceMethod yM_isWritten, .selects RX1 yM_isWritten yM_isWritten, .code yM_isWritten cM_isWritten 2 (some .boolean), .fieldLink RX1 56 "BlockTapeModel" "written" "I"] ++ wsX10)
def wsM_read_r1 : List Cond := [Cond.fieldLink RX1 49 "BlockTapeModel" "thrown" "I", Cond.fieldLink RX1 66 "BlockTapeModel" "records" "I", Cond.fieldLink RX1 13 "BlockTapeModel" "stream" "[I", Cond.fieldLink RX1 16 "BlockTapeModel" "index" "[I", Cond.fieldLink RX1 19 "BlockTapeModel" "length" "[I", Cond.fieldLink RX1 25 "BlockTapeModel" "fromBlock" "[I", Cond.fieldLink RX1 31 "BlockTapeModel" "bytes" "[I", Cond.fieldLink RX1 22 "BlockTapeModel" "begin" "[I", Cond.methodLink RX1 96 yM_isRead, Cond.instanceMethod yM_isRead, Cond.selects RX1 yM_isRead yM_isRead, Cond.initialized RX1, Cond.code yM_isRead cM_isRead 3 (some .boolean), Cond.fieldLink RX1 28 "BlockTapeModel" "toBlock" "[I", Cond.methodLink RX1 93 yM_isGood, Cond.instanceMethod yM_isGood, Cond.selects RX1 yM_isGood yM_isGood, Cond.code yM_isGood cM_isGood 2 (some .boolean), Cond.fieldLink RX1 43 "BlockTapeModel" "spoilt" "[I", Cond.methodLink RX1 85 yM_isWritten]
def wsM_read_r2 : List Cond := [Cond.instanceMethod yM_isWritten, Cond.selects RX1 yM_isWritten yM_isWritten, Cond.code yM_isWritten cM_isWritten 2 (some .boolean), Cond.fieldLink RX1 56 "BlockTapeModel" "written" "I"]
def wsM_read : List Cond := .code yM_read cM_read 5 (some .int) :: ((wsM_read_r1 ++ wsM_read_r2) ++ wsX10)
def wsM_verify : List Cond := .code yM_verify cM_verify 3 (some .int) :: ([.fieldLink RX1 49 "BlockTapeModel" "thrown" "I", .fieldLink RX1 56 "BlockTapeModel" "written" "I", .methodLink RX1 93 yM_isGood, .instanceMethod yM_isGood, .selects RX1 yM_isGood yM_isGood, .initialized RX1, .code yM_isGood cM_isGood 2 (some .boolean), .fieldLink RX1 43 "BlockTapeModel" "spoilt" "[I", .methodLink RX1 85 yM_isWritten, .instanceMethod yM_isWritten, .selects RX1 yM_isWritten yM_isWritten, .code yM_isWritten cM_isWritten 2 (some .boolean)] ++ wsX10)
def wsM_count_r1 : List Cond := [Cond.fieldLink RX1 49 "BlockTapeModel" "thrown" "I", Cond.fieldLink RX1 53 "BlockTapeModel" "taped" "I", Cond.fieldLink RX1 66 "BlockTapeModel" "records" "I", Cond.fieldLink RX1 56 "BlockTapeModel" "written" "I", Cond.fieldLink RX1 59 "BlockTapeModel" "used" "I", Cond.methodLink RX1 96 yM_isRead, Cond.instanceMethod yM_isRead, Cond.selects RX1 yM_isRead yM_isRead, Cond.initialized RX1, Cond.code yM_isRead cM_isRead 3 (some .boolean), Cond.fieldLink RX1 25 "BlockTapeModel" "fromBlock" "[I", Cond.fieldLink RX1 28 "BlockTapeModel" "toBlock" "[I", Cond.methodLink RX1 93 yM_isGood, Cond.instanceMethod yM_isGood, Cond.selects RX1 yM_isGood yM_isGood, Cond.code yM_isGood cM_isGood 2 (some .boolean), Cond.fieldLink RX1 43 "BlockTapeModel" "spoilt" "[I", Cond.methodLink RX1 85 yM_isWritten, Cond.instanceMethod yM_isWritten, Cond.selects RX1 yM_isWritten yM_isWritten]
def wsM_count_r2 : List Cond := [Cond.code yM_isWritten cM_isWritten 2 (some .boolean), Cond.methodLink RX1 69 yM_room, Cond.instanceMethod yM_room, Cond.selects RX1 yM_room yM_room, Cond.code yM_room cM_room 1 (some .int)]
def wsM_count : List Cond := .code yM_count cM_count 4 (some .int) :: ((wsM_count_r1 ++ wsM_count_r2) ++ wsX10)
set_option maxRecDepth 20000 in
theorem gM_add_M_write : GoodIn wsM_add (wsV RX1 62 RX1 yM_write wsM_write) := goodIn_app (goodIn_of _ (by decide +kernel)) (goodIn_r _ [10, 11, 3, 1, 12, 13, 14, 15, 16, 17, 18, 19, 20, 21, 22, 23, 24, 25, 26, 27, 28, 29, 30] (by decide +kernel) (by decide +kernel))
set_option maxRecDepth 20000 in
theorem gM_put_M_room : GoodIn wsM_put (wsV RX1 69 RX1 yM_room wsM_room) := goodIn_app (goodIn_of _ (by decide +kernel)) (goodIn_r _ [19, 11, 20, 33, 34, 35, 36, 37, 38, 39, 40, 41, 42, 43, 44, 45, 46, 47, 48, 49, 50, 51] (by decide +kernel) (by decide +kernel))
set_option maxRecDepth 20000 in
theorem gM_put_M_add : GoodIn wsM_put (wsV RX1 76 RX1 yM_add wsM_add) := goodIn_app (goodIn_of _ (by decide +kernel)) (goodIn_r _ [24, 20, 25, 11, 26, 27, 28, 29, 30, 18, 31, 32, 33, 34, 35, 36, 37, 38, 39, 40, 41, 42, 43, 44, 45, 46, 47, 48, 49, 50, 51] (by decide +kernel) (by decide +kernel))
set_option maxRecDepth 20000 in
theorem gM_close_M_write : GoodIn wsM_close (wsV RX1 62 RX1 yM_write wsM_write) := goodIn_app (goodIn_of _ (by decide +kernel)) (goodIn_r _ [9, 10, 4, 2, 11, 12, 13, 14, 15, 16, 17, 18, 19, 20, 21, 22, 23, 24, 25, 26, 27, 28, 29] (by decide +kernel) (by decide +kernel))
set_option maxRecDepth 20000 in
theorem gM_sum_M_plain : GoodIn wsM_sum (wsV RX1 80 RX1 yM_plain wsM_plain) := goodIn_app (goodIn_of _ (by decide +kernel)) (goodIn_r _ [6, 7, 8, 9, 10, 11, 12, 13, 14, 15, 16, 17, 18, 19, 20, 21, 22, 23, 24, 25, 26, 27, 28] (by decide +kernel) (by decide +kernel))
set_option maxRecDepth 20000 in
theorem gM_byteOf_M_isWritten : GoodIn wsM_byteOf (wsV RX1 85 RX1 yM_isWritten wsM_isWritten) := goodIn_app (goodIn_of _ (by decide +kernel)) (goodIn_r _ [8, 9, 22, 23, 24, 25, 26, 27, 28, 29, 30, 31, 32, 33, 34, 35, 36, 37, 38, 39, 40] (by decide +kernel) (by decide +kernel))
set_option maxRecDepth 20000 in
theorem gM_byteOf_M_sum : GoodIn wsM_byteOf (wsV RX1 89 RX1 yM_sum wsM_sum) := goodIn_app (goodIn_of _ (by decide +kernel)) (goodIn_r _ [13, 14, 15, 16, 17, 7, 18, 19, 20, 21, 22, 23, 24, 25, 26, 27, 28, 29, 30, 31, 32, 33, 34, 35, 36, 37, 38, 39, 40] (by decide +kernel) (by decide +kernel))
set_option maxRecDepth 20000 in
theorem gM_byteOf_M_plain : GoodIn wsM_byteOf (wsV RX1 80 RX1 yM_plain wsM_plain) := goodIn_app (goodIn_of _ (by decide +kernel)) (goodIn_r _ [18, 19, 20, 21, 22, 23, 24, 25, 26, 27, 28, 29, 30, 31, 32, 33, 34, 35, 36, 37, 38, 39, 40] (by decide +kernel) (by decide +kernel))
set_option maxRecDepth 20000 in
theorem gM_spoil_M_isWritten : GoodIn wsM_spoil (wsV RX1 85 RX1 yM_isWritten wsM_isWritten) := goodIn_app (goodIn_of _ (by decide +kernel)) (goodIn_r _ [8, 9, 10, 11, 12, 13, 14, 15, 16, 17, 18, 19, 20, 21, 22, 23, 24, 25, 26, 27, 28] (by decide +kernel) (by decide +kernel))
set_option maxRecDepth 20000 in
theorem gM_heal_M_isWritten : GoodIn wsM_heal (wsV RX1 85 RX1 yM_isWritten wsM_isWritten) := goodIn_app (goodIn_of _ (by decide +kernel)) (goodIn_r _ [7, 8, 9, 10, 11, 12, 13, 14, 15, 16, 17, 18, 19, 20, 21, 22, 23, 24, 25, 26, 27] (by decide +kernel) (by decide +kernel))
set_option maxRecDepth 20000 in
theorem gM_isGood_M_isWritten : GoodIn wsM_isGood (wsV RX1 85 RX1 yM_isWritten wsM_isWritten) := goodIn_app (goodIn_of _ (by decide +kernel)) (goodIn_r _ [6, 7, 8, 9, 10, 11, 12, 13, 14, 15, 16, 17, 18, 19, 20, 21, 22, 23, 24, 25, 26] (by decide +kernel) (by decide +kernel))
set_option maxRecDepth 20000 in
theorem gM_good_M_isGood : GoodIn wsM_good (wsV RX1 93 RX1 yM_isGood wsM_isGood) := goodIn_app (goodIn_of _ (by decide +kernel)) (goodIn_r _ [6, 7, 8, 9, 10, 5, 11, 12, 13, 14, 15, 16, 17, 18, 19, 20, 21, 22, 23, 24, 25, 26, 27, 28, 29, 30, 31] (by decide +kernel) (by decide +kernel))
set_option maxRecDepth 20000 in
theorem gM_isRead_M_isGood : GoodIn wsM_isRead (wsV RX1 93 RX1 yM_isGood wsM_isGood) := goodIn_app (goodIn_of _ (by decide +kernel)) (goodIn_r _ [7, 8, 9, 10, 11, 6, 12, 13, 14, 15, 16, 17, 18, 19, 20, 21, 22, 23, 24, 25, 26, 27, 28, 29, 30, 31, 32] (by decide +kernel) (by decide +kernel))
set_option maxRecDepth 20000 in
theorem gM_read_M_isRead : GoodIn wsM_read (wsV RX1 96 RX1 yM_isRead wsM_isRead) := goodIn_app (goodIn_of _ (by decide +kernel)) (goodIn_r _ [13, 6, 14, 15, 16, 17, 12, 18, 19, 20, 21, 22, 23, 24, 25, 26, 27, 28, 29, 30, 31, 32, 33, 34, 35, 36, 37, 38, 39, 40, 41, 42, 43] (by decide +kernel) (by decide +kernel))
set_option maxRecDepth 20000 in
theorem gM_verify_M_isGood : GoodIn wsM_verify (wsV RX1 93 RX1 yM_isGood wsM_isGood) := goodIn_app (goodIn_of _ (by decide +kernel)) (goodIn_r _ [7, 8, 9, 10, 11, 6, 12, 2, 13, 14, 15, 16, 17, 18, 19, 20, 21, 22, 23, 24, 25, 26, 27, 28, 29, 30, 31] (by decide +kernel) (by decide +kernel))
set_option maxRecDepth 20000 in
theorem gM_count_M_isRead : GoodIn wsM_count (wsV RX1 96 RX1 yM_isRead wsM_isRead) := goodIn_app (goodIn_of _ (by decide +kernel)) (goodIn_r _ [10, 11, 12, 13, 14, 15, 9, 16, 17, 18, 19, 20, 21, 4, 26, 27, 28, 29, 30, 31, 32, 33, 34, 35, 36, 37, 38, 39, 40, 41, 42, 43, 44] (by decide +kernel) (by decide +kernel))
set_option maxRecDepth 20000 in
theorem gM_count_M_isGood : GoodIn wsM_count (wsV RX1 93 RX1 yM_isGood wsM_isGood) := goodIn_app (goodIn_of _ (by decide +kernel)) (goodIn_r _ [16, 17, 18, 19, 20, 9, 21, 4, 26, 27, 28, 29, 30, 31, 32, 33, 34, 35, 36, 37, 38, 39, 40, 41, 42, 43, 44] (by decide +kernel) (by decide +kernel))
set_option maxRecDepth 20000 in
theorem gM_count_M_room : GoodIn wsM_count (wsV RX1 69 RX1 yM_room wsM_room) := goodIn_app (goodIn_of _ (by decide +kernel)) (goodIn_r _ [25, 4, 5, 26, 27, 28, 29, 30, 31, 32, 33, 34, 35, 36, 37, 38, 39, 40, 41, 42, 43, 44] (by decide +kernel) (by decide +kernel))
theorem dM_init_0 : decode cM_init 0 = .ok (.aload_n 0, 1) := by decide +kernel
theorem dM_init_1 : decode cM_init 1 = .ok (.invokespecial 1, 3) := by decide +kernel
theorem dM_init_4 : decode cM_init 4 = .ok (.aload_n 0, 1) := by decide +kernel
theorem dM_init_5 : decode cM_init 5 = .ok (.sipush 300, 3) := by decide +kernel
theorem dM_init_8 : decode cM_init 8 = .ok (.newarray .int, 2) := by decide +kernel
theorem dM_init_10 : decode cM_init 10 = .ok (.putfield 7, 3) := by decide +kernel
theorem dM_init_13 : decode cM_init 13 = .ok (.aload_n 0, 1) := by decide +kernel
theorem dM_init_14 : decode cM_init 14 = .ok (.sipush 200, 3) := by decide +kernel
theorem dM_init_17 : decode cM_init 17 = .ok (.newarray .int, 2) := by decide +kernel
theorem dM_init_19 : decode cM_init 19 = .ok (.putfield 13, 3) := by decide +kernel
theorem dM_init_22 : decode cM_init 22 = .ok (.aload_n 0, 1) := by decide +kernel
theorem dM_init_23 : decode cM_init 23 = .ok (.sipush 200, 3) := by decide +kernel
theorem dM_init_26 : decode cM_init 26 = .ok (.newarray .int, 2) := by decide +kernel
theorem dM_init_28 : decode cM_init 28 = .ok (.putfield 16, 3) := by decide +kernel
theorem dM_init_31 : decode cM_init 31 = .ok (.aload_n 0, 1) := by decide +kernel
theorem dM_init_32 : decode cM_init 32 = .ok (.sipush 200, 3) := by decide +kernel
theorem dM_init_35 : decode cM_init 35 = .ok (.newarray .int, 2) := by decide +kernel
theorem dM_init_37 : decode cM_init 37 = .ok (.putfield 19, 3) := by decide +kernel
theorem dM_init_40 : decode cM_init 40 = .ok (.aload_n 0, 1) := by decide +kernel
theorem dM_init_41 : decode cM_init 41 = .ok (.sipush 200, 3) := by decide +kernel
theorem dM_init_44 : decode cM_init 44 = .ok (.newarray .int, 2) := by decide +kernel
theorem dM_init_46 : decode cM_init 46 = .ok (.putfield 22, 3) := by decide +kernel
theorem dM_init_49 : decode cM_init 49 = .ok (.aload_n 0, 1) := by decide +kernel
theorem dM_init_50 : decode cM_init 50 = .ok (.sipush 200, 3) := by decide +kernel
theorem dM_init_53 : decode cM_init 53 = .ok (.newarray .int, 2) := by decide +kernel
theorem dM_init_55 : decode cM_init 55 = .ok (.putfield 25, 3) := by decide +kernel
theorem dM_init_58 : decode cM_init 58 = .ok (.aload_n 0, 1) := by decide +kernel
theorem dM_init_59 : decode cM_init 59 = .ok (.sipush 200, 3) := by decide +kernel
theorem dM_init_62 : decode cM_init 62 = .ok (.newarray .int, 2) := by decide +kernel
theorem dM_init_64 : decode cM_init 64 = .ok (.putfield 28, 3) := by decide +kernel
theorem dM_init_67 : decode cM_init 67 = .ok (.aload_n 0, 1) := by decide +kernel
theorem dM_init_68 : decode cM_init 68 = .ok (.sipush 4480, 3) := by decide +kernel
theorem dM_init_71 : decode cM_init 71 = .ok (.newarray .int, 2) := by decide +kernel
theorem dM_init_73 : decode cM_init 73 = .ok (.putfield 31, 3) := by decide +kernel
theorem dM_init_76 : decode cM_init 76 = .ok (.aload_n 0, 1) := by decide +kernel
theorem dM_init_77 : decode cM_init 77 = .ok (.sipush 4480, 3) := by decide +kernel
theorem dM_init_80 : decode cM_init 80 = .ok (.newarray .int, 2) := by decide +kernel
theorem dM_init_82 : decode cM_init 82 = .ok (.putfield 34, 3) := by decide +kernel
theorem dM_init_85 : decode cM_init 85 = .ok (.aload_n 0, 1) := by decide +kernel
theorem dM_init_86 : decode cM_init 86 = .ok (.bipush 80, 2) := by decide +kernel
theorem dM_init_88 : decode cM_init 88 = .ok (.newarray .int, 2) := by decide +kernel
theorem dM_init_90 : decode cM_init 90 = .ok (.putfield 37, 3) := by decide +kernel
theorem dM_init_93 : decode cM_init 93 = .ok (.aload_n 0, 1) := by decide +kernel
theorem dM_init_94 : decode cM_init 94 = .ok (.bipush 80, 2) := by decide +kernel
theorem dM_init_96 : decode cM_init 96 = .ok (.newarray .int, 2) := by decide +kernel
theorem dM_init_98 : decode cM_init 98 = .ok (.putfield 40, 3) := by decide +kernel
theorem dM_init_101 : decode cM_init 101 = .ok (.aload_n 0, 1) := by decide +kernel
theorem dM_init_102 : decode cM_init 102 = .ok (.bipush 80, 2) := by decide +kernel
theorem dM_init_104 : decode cM_init 104 = .ok (.newarray .int, 2) := by decide +kernel
theorem dM_init_106 : decode cM_init 106 = .ok (.putfield 43, 3) := by decide +kernel
theorem dM_init_109 : decode cM_init 109 = .ok (.aload_n 0, 1) := by decide +kernel
theorem dM_init_110 : decode cM_init 110 = .ok (.bipush 80, 2) := by decide +kernel
theorem dM_init_112 : decode cM_init 112 = .ok (.newarray .int, 2) := by decide +kernel
theorem dM_init_114 : decode cM_init 114 = .ok (.putfield 46, 3) := by decide +kernel
theorem dM_init_117 : decode cM_init 117 = .ok (.return_, 1) := by decide +kernel
theorem dM_feed_0 : decode cM_feed 0 = .ok (.aload_n 0, 1) := by decide +kernel
theorem dM_feed_1 : decode cM_feed 1 = .ok (.iconst 0, 1) := by decide +kernel
theorem dM_feed_2 : decode cM_feed 2 = .ok (.putfield 49, 3) := by decide +kernel
theorem dM_feed_5 : decode cM_feed 5 = .ok (.iload_n 2, 1) := by decide +kernel
theorem dM_feed_6 : decode cM_feed 6 = .ok (.iconst 1, 1) := by decide +kernel
theorem dM_feed_7 : decode cM_feed 7 = .ok (.if_icmp .lt 20, 3) := by decide +kernel
theorem dM_feed_10 : decode cM_feed 10 = .ok (.iload_n 2, 1) := by decide +kernel
theorem dM_feed_11 : decode cM_feed 11 = .ok (.iconst 4, 1) := by decide +kernel
theorem dM_feed_12 : decode cM_feed 12 = .ok (.if_icmp .gt 15, 3) := by decide +kernel
theorem dM_feed_15 : decode cM_feed 15 = .ok (.aload_n 0, 1) := by decide +kernel
theorem dM_feed_16 : decode cM_feed 16 = .ok (.getfield 53, 3) := by decide +kernel
theorem dM_feed_19 : decode cM_feed 19 = .ok (.iload_n 2, 1) := by decide +kernel
theorem dM_feed_20 : decode cM_feed 20 = .ok (.iadd, 1) := by decide +kernel
theorem dM_feed_21 : decode cM_feed 21 = .ok (.sipush 300, 3) := by decide +kernel
theorem dM_feed_24 : decode cM_feed 24 = .ok (.if_icmp .le 5, 3) := by decide +kernel
theorem dM_feed_27 : decode cM_feed 27 = .ok (.iconst (-1), 1) := by decide +kernel
theorem dM_feed_28 : decode cM_feed 28 = .ok (.ireturn, 1) := by decide +kernel
theorem dM_feed_29 : decode cM_feed 29 = .ok (.iconst 0, 1) := by decide +kernel
theorem dM_feed_30 : decode cM_feed 30 = .ok (.istore_n 3, 1) := by decide +kernel
theorem dM_feed_31 : decode cM_feed 31 = .ok (.iload_n 3, 1) := by decide +kernel
theorem dM_feed_32 : decode cM_feed 32 = .ok (.iload_n 2, 1) := by decide +kernel
theorem dM_feed_33 : decode cM_feed 33 = .ok (.if_icmp .ge 41, 3) := by decide +kernel
theorem dM_feed_36 : decode cM_feed 36 = .ok (.aload_n 0, 1) := by decide +kernel
theorem dM_feed_37 : decode cM_feed 37 = .ok (.getfield 7, 3) := by decide +kernel
theorem dM_feed_40 : decode cM_feed 40 = .ok (.aload_n 0, 1) := by decide +kernel
theorem dM_feed_41 : decode cM_feed 41 = .ok (.getfield 53, 3) := by decide +kernel
theorem dM_feed_44 : decode cM_feed 44 = .ok (.iload_n 1, 1) := by decide +kernel
theorem dM_feed_45 : decode cM_feed 45 = .ok (.bipush 24, 2) := by decide +kernel
theorem dM_feed_47 : decode cM_feed 47 = .ok (.bipush 8, 2) := by decide +kernel
theorem dM_feed_49 : decode cM_feed 49 = .ok (.iload_n 3, 1) := by decide +kernel
theorem dM_feed_50 : decode cM_feed 50 = .ok (.imul, 1) := by decide +kernel
theorem dM_feed_51 : decode cM_feed 51 = .ok (.isub, 1) := by decide +kernel
theorem dM_feed_52 : decode cM_feed 52 = .ok (.ishr, 1) := by decide +kernel
theorem dM_feed_53 : decode cM_feed 53 = .ok (.sipush 255, 3) := by decide +kernel
theorem dM_feed_56 : decode cM_feed 56 = .ok (.iand, 1) := by decide +kernel
theorem dM_feed_57 : decode cM_feed 57 = .ok (.iastore, 1) := by decide +kernel
theorem dM_feed_58 : decode cM_feed 58 = .ok (.aload_n 0, 1) := by decide +kernel
theorem dM_feed_59 : decode cM_feed 59 = .ok (.dup, 1) := by decide +kernel
theorem dM_feed_60 : decode cM_feed 60 = .ok (.getfield 53, 3) := by decide +kernel
theorem dM_feed_63 : decode cM_feed 63 = .ok (.iconst 1, 1) := by decide +kernel
theorem dM_feed_64 : decode cM_feed 64 = .ok (.iadd, 1) := by decide +kernel
theorem dM_feed_65 : decode cM_feed 65 = .ok (.putfield 53, 3) := by decide +kernel
theorem dM_feed_68 : decode cM_feed 68 = .ok (.iinc 3 1, 3) := by decide +kernel
theorem dM_feed_71 : decode cM_feed 71 = .ok (.goto (-40), 3) := by decide +kernel
theorem dM_feed_74 : decode cM_feed 74 = .ok (.aload_n 0, 1) := by decide +kernel
theorem dM_feed_75 : decode cM_feed 75 = .ok (.getfield 53, 3) := by decide +kernel
theorem dM_feed_78 : decode cM_feed 78 = .ok (.ireturn, 1) := by decide +kernel
theorem dM_room_0 : decode cM_room 0 = .ok (.bipush 56, 2) := by decide +kernel
theorem dM_room_2 : decode cM_room 2 = .ok (.bipush 80, 2) := by decide +kernel
theorem dM_room_4 : decode cM_room 4 = .ok (.aload_n 0, 1) := by decide +kernel
theorem dM_room_5 : decode cM_room 5 = .ok (.getfield 56, 3) := by decide +kernel
theorem dM_room_8 : decode cM_room 8 = .ok (.isub, 1) := by decide +kernel
theorem dM_room_9 : decode cM_room 9 = .ok (.imul, 1) := by decide +kernel
theorem dM_room_10 : decode cM_room 10 = .ok (.aload_n 0, 1) := by decide +kernel
theorem dM_room_11 : decode cM_room 11 = .ok (.getfield 59, 3) := by decide +kernel
theorem dM_room_14 : decode cM_room 14 = .ok (.isub, 1) := by decide +kernel
theorem dM_room_15 : decode cM_room 15 = .ok (.ireturn, 1) := by decide +kernel
theorem dM_add_0 : decode cM_add 0 = .ok (.aload_n 0, 1) := by decide +kernel
theorem dM_add_1 : decode cM_add 1 = .ok (.getfield 59, 3) := by decide +kernel
theorem dM_add_4 : decode cM_add 4 = .ok (.ifCond .ne 25, 3) := by decide +kernel
theorem dM_add_7 : decode cM_add 7 = .ok (.aload_n 0, 1) := by decide +kernel
theorem dM_add_8 : decode cM_add 8 = .ok (.getfield 40, 3) := by decide +kernel
theorem dM_add_11 : decode cM_add 11 = .ok (.aload_n 0, 1) := by decide +kernel
theorem dM_add_12 : decode cM_add 12 = .ok (.getfield 56, 3) := by decide +kernel
theorem dM_add_15 : decode cM_add 15 = .ok (.sipush 255, 3) := by decide +kernel
theorem dM_add_18 : decode cM_add 18 = .ok (.iastore, 1) := by decide +kernel
theorem dM_add_19 : decode cM_add 19 = .ok (.aload_n 0, 1) := by decide +kernel
theorem dM_add_20 : decode cM_add 20 = .ok (.getfield 43, 3) := by decide +kernel
theorem dM_add_23 : decode cM_add 23 = .ok (.aload_n 0, 1) := by decide +kernel
theorem dM_add_24 : decode cM_add 24 = .ok (.getfield 56, 3) := by decide +kernel
theorem dM_add_27 : decode cM_add 27 = .ok (.iconst (-1), 1) := by decide +kernel
theorem dM_add_28 : decode cM_add 28 = .ok (.iastore, 1) := by decide +kernel
theorem dM_add_29 : decode cM_add 29 = .ok (.iload_n 2, 1) := by decide +kernel
theorem dM_add_30 : decode cM_add 30 = .ok (.ifCond .eq 31, 3) := by decide +kernel
theorem dM_add_33 : decode cM_add 33 = .ok (.aload_n 0, 1) := by decide +kernel
theorem dM_add_34 : decode cM_add 34 = .ok (.getfield 40, 3) := by decide +kernel
theorem dM_add_37 : decode cM_add 37 = .ok (.aload_n 0, 1) := by decide +kernel
theorem dM_add_38 : decode cM_add 38 = .ok (.getfield 56, 3) := by decide +kernel
theorem dM_add_41 : decode cM_add 41 = .ok (.iaload, 1) := by decide +kernel
theorem dM_add_42 : decode cM_add 42 = .ok (.sipush 255, 3) := by decide +kernel
theorem dM_add_45 : decode cM_add 45 = .ok (.if_icmp .ne 16, 3) := by decide +kernel
theorem dM_add_48 : decode cM_add 48 = .ok (.aload_n 0, 1) := by decide +kernel
theorem dM_add_49 : decode cM_add 49 = .ok (.getfield 40, 3) := by decide +kernel
theorem dM_add_52 : decode cM_add 52 = .ok (.aload_n 0, 1) := by decide +kernel
theorem dM_add_53 : decode cM_add 53 = .ok (.getfield 56, 3) := by decide +kernel
theorem dM_add_56 : decode cM_add 56 = .ok (.aload_n 0, 1) := by decide +kernel
theorem dM_add_57 : decode cM_add 57 = .ok (.getfield 59, 3) := by decide +kernel
theorem dM_add_60 : decode cM_add 60 = .ok (.iastore, 1) := by decide +kernel
theorem dM_add_61 : decode cM_add 61 = .ok (.aload_n 0, 1) := by decide +kernel
theorem dM_add_62 : decode cM_add 62 = .ok (.getfield 34, 3) := by decide +kernel
theorem dM_add_65 : decode cM_add 65 = .ok (.bipush 56, 2) := by decide +kernel
theorem dM_add_67 : decode cM_add 67 = .ok (.aload_n 0, 1) := by decide +kernel
theorem dM_add_68 : decode cM_add 68 = .ok (.getfield 56, 3) := by decide +kernel
theorem dM_add_71 : decode cM_add 71 = .ok (.imul, 1) := by decide +kernel
theorem dM_add_72 : decode cM_add 72 = .ok (.aload_n 0, 1) := by decide +kernel
theorem dM_add_73 : decode cM_add 73 = .ok (.getfield 59, 3) := by decide +kernel
theorem dM_add_76 : decode cM_add 76 = .ok (.iadd, 1) := by decide +kernel
theorem dM_add_77 : decode cM_add 77 = .ok (.iload_n 1, 1) := by decide +kernel
theorem dM_add_78 : decode cM_add 78 = .ok (.sipush 255, 3) := by decide +kernel
theorem dM_add_81 : decode cM_add 81 = .ok (.iand, 1) := by decide +kernel
theorem dM_add_82 : decode cM_add 82 = .ok (.iastore, 1) := by decide +kernel
theorem dM_add_83 : decode cM_add 83 = .ok (.aload_n 0, 1) := by decide +kernel
theorem dM_add_84 : decode cM_add 84 = .ok (.dup, 1) := by decide +kernel
theorem dM_add_85 : decode cM_add 85 = .ok (.getfield 59, 3) := by decide +kernel
theorem dM_add_88 : decode cM_add 88 = .ok (.iconst 1, 1) := by decide +kernel
theorem dM_add_89 : decode cM_add 89 = .ok (.iadd, 1) := by decide +kernel
theorem dM_add_90 : decode cM_add 90 = .ok (.putfield 59, 3) := by decide +kernel
theorem dM_add_93 : decode cM_add 93 = .ok (.aload_n 0, 1) := by decide +kernel
theorem dM_add_94 : decode cM_add 94 = .ok (.getfield 59, 3) := by decide +kernel
theorem dM_add_97 : decode cM_add 97 = .ok (.bipush 56, 2) := by decide +kernel
theorem dM_add_99 : decode cM_add 99 = .ok (.if_icmp .ne 7, 3) := by decide +kernel
theorem dM_add_102 : decode cM_add 102 = .ok (.aload_n 0, 1) := by decide +kernel
theorem dM_add_103 : decode cM_add 103 = .ok (.invokevirtual 62, 3) := by decide +kernel
theorem dM_add_106 : decode cM_add 106 = .ok (.return_, 1) := by decide +kernel
theorem dM_write_0 : decode cM_write 0 = .ok (.aload_n 0, 1) := by decide +kernel
theorem dM_write_1 : decode cM_write 1 = .ok (.getfield 37, 3) := by decide +kernel
theorem dM_write_4 : decode cM_write 4 = .ok (.aload_n 0, 1) := by decide +kernel
theorem dM_write_5 : decode cM_write 5 = .ok (.getfield 56, 3) := by decide +kernel
theorem dM_write_8 : decode cM_write 8 = .ok (.aload_n 0, 1) := by decide +kernel
theorem dM_write_9 : decode cM_write 9 = .ok (.getfield 59, 3) := by decide +kernel
theorem dM_write_12 : decode cM_write 12 = .ok (.iastore, 1) := by decide +kernel
theorem dM_write_13 : decode cM_write 13 = .ok (.aload_n 0, 1) := by decide +kernel
theorem dM_write_14 : decode cM_write 14 = .ok (.dup, 1) := by decide +kernel
theorem dM_write_15 : decode cM_write 15 = .ok (.getfield 56, 3) := by decide +kernel
theorem dM_write_18 : decode cM_write 18 = .ok (.iconst 1, 1) := by decide +kernel
theorem dM_write_19 : decode cM_write 19 = .ok (.iadd, 1) := by decide +kernel
theorem dM_write_20 : decode cM_write 20 = .ok (.putfield 56, 3) := by decide +kernel
theorem dM_write_23 : decode cM_write 23 = .ok (.aload_n 0, 1) := by decide +kernel
theorem dM_write_24 : decode cM_write 24 = .ok (.iconst 0, 1) := by decide +kernel
theorem dM_write_25 : decode cM_write 25 = .ok (.putfield 59, 3) := by decide +kernel
theorem dM_write_28 : decode cM_write 28 = .ok (.return_, 1) := by decide +kernel
theorem dM_put_0 : decode cM_put 0 = .ok (.aload_n 0, 1) := by decide +kernel
theorem dM_put_1 : decode cM_put 1 = .ok (.iconst 0, 1) := by decide +kernel
theorem dM_put_2 : decode cM_put 2 = .ok (.putfield 49, 3) := by decide +kernel
theorem dM_put_5 : decode cM_put 5 = .ok (.iload_n 1, 1) := by decide +kernel
theorem dM_put_6 : decode cM_put 6 = .ok (.ifCond .lt 44, 3) := by decide +kernel
theorem dM_put_9 : decode cM_put 9 = .ok (.iload_n 1, 1) := by decide +kernel
theorem dM_put_10 : decode cM_put 10 = .ok (.sipush 255, 3) := by decide +kernel
theorem dM_put_13 : decode cM_put 13 = .ok (.if_icmp .gt 37, 3) := by decide +kernel
theorem dM_put_16 : decode cM_put 16 = .ok (.iload_n 2, 1) := by decide +kernel
theorem dM_put_17 : decode cM_put 17 = .ok (.ifCond .lt 33, 3) := by decide +kernel
theorem dM_put_20 : decode cM_put 20 = .ok (.iload_n 2, 1) := by decide +kernel
theorem dM_put_21 : decode cM_put 21 = .ok (.ldc 65, 2) := by decide +kernel
theorem dM_put_23 : decode cM_put 23 = .ok (.if_icmp .gt 27, 3) := by decide +kernel
theorem dM_put_26 : decode cM_put 26 = .ok (.aload_n 0, 1) := by decide +kernel
theorem dM_put_27 : decode cM_put 27 = .ok (.getfield 66, 3) := by decide +kernel
theorem dM_put_30 : decode cM_put 30 = .ok (.sipush 200, 3) := by decide +kernel
theorem dM_put_33 : decode cM_put 33 = .ok (.if_icmp .eq 17, 3) := by decide +kernel
theorem dM_put_36 : decode cM_put 36 = .ok (.aload_n 0, 1) := by decide +kernel
theorem dM_put_37 : decode cM_put 37 = .ok (.invokevirtual 69, 3) := by decide +kernel
theorem dM_put_40 : decode cM_put 40 = .ok (.bipush 6, 2) := by decide +kernel
theorem dM_put_42 : decode cM_put 42 = .ok (.aload_n 0, 1) := by decide +kernel
theorem dM_put_43 : decode cM_put 43 = .ok (.getfield 53, 3) := by decide +kernel
theorem dM_put_46 : decode cM_put 46 = .ok (.iadd, 1) := by decide +kernel
theorem dM_put_47 : decode cM_put 47 = .ok (.if_icmp .ge 5, 3) := by decide +kernel
theorem dM_put_50 : decode cM_put 50 = .ok (.iconst (-1), 1) := by decide +kernel
theorem dM_put_51 : decode cM_put 51 = .ok (.ireturn, 1) := by decide +kernel
theorem dM_put_52 : decode cM_put 52 = .ok (.aload_n 0, 1) := by decide +kernel
theorem dM_put_53 : decode cM_put 53 = .ok (.getfield 66, 3) := by decide +kernel
theorem dM_put_56 : decode cM_put 56 = .ok (.istore_n 3, 1) := by decide +kernel
theorem dM_put_57 : decode cM_put 57 = .ok (.aload_n 0, 1) := by decide +kernel
theorem dM_put_58 : decode cM_put 58 = .ok (.getfield 13, 3) := by decide +kernel
theorem dM_put_61 : decode cM_put 61 = .ok (.iload_n 3, 1) := by decide +kernel
theorem dM_put_62 : decode cM_put 62 = .ok (.iload_n 1, 1) := by decide +kernel
theorem dM_put_63 : decode cM_put 63 = .ok (.iastore, 1) := by decide +kernel
theorem dM_put_64 : decode cM_put 64 = .ok (.aload_n 0, 1) := by decide +kernel
theorem dM_put_65 : decode cM_put 65 = .ok (.getfield 16, 3) := by decide +kernel
theorem dM_put_68 : decode cM_put 68 = .ok (.iload_n 3, 1) := by decide +kernel
theorem dM_put_69 : decode cM_put 69 = .ok (.iload_n 2, 1) := by decide +kernel
theorem dM_put_70 : decode cM_put 70 = .ok (.iastore, 1) := by decide +kernel
theorem dM_put_71 : decode cM_put 71 = .ok (.aload_n 0, 1) := by decide +kernel
theorem dM_put_72 : decode cM_put 72 = .ok (.getfield 19, 3) := by decide +kernel
theorem dM_put_75 : decode cM_put 75 = .ok (.iload_n 3, 1) := by decide +kernel
theorem dM_put_76 : decode cM_put 76 = .ok (.aload_n 0, 1) := by decide +kernel
theorem dM_put_77 : decode cM_put 77 = .ok (.getfield 53, 3) := by decide +kernel
theorem dM_put_80 : decode cM_put 80 = .ok (.iastore, 1) := by decide +kernel
theorem dM_put_81 : decode cM_put 81 = .ok (.aload_n 0, 1) := by decide +kernel
theorem dM_put_82 : decode cM_put 82 = .ok (.getfield 22, 3) := by decide +kernel
theorem dM_put_85 : decode cM_put 85 = .ok (.iload_n 3, 1) := by decide +kernel
theorem dM_put_86 : decode cM_put 86 = .ok (.aload_n 0, 1) := by decide +kernel
theorem dM_put_87 : decode cM_put 87 = .ok (.getfield 73, 3) := by decide +kernel
theorem dM_put_90 : decode cM_put 90 = .ok (.iastore, 1) := by decide +kernel
theorem dM_put_91 : decode cM_put 91 = .ok (.aload_n 0, 1) := by decide +kernel
theorem dM_put_92 : decode cM_put 92 = .ok (.getfield 25, 3) := by decide +kernel
theorem dM_put_95 : decode cM_put 95 = .ok (.iload_n 3, 1) := by decide +kernel
theorem dM_put_96 : decode cM_put 96 = .ok (.aload_n 0, 1) := by decide +kernel
theorem dM_put_97 : decode cM_put 97 = .ok (.getfield 56, 3) := by decide +kernel
theorem dM_put_100 : decode cM_put 100 = .ok (.iastore, 1) := by decide +kernel
theorem dM_put_101 : decode cM_put 101 = .ok (.aload_n 0, 1) := by decide +kernel
theorem dM_put_102 : decode cM_put 102 = .ok (.iload_n 1, 1) := by decide +kernel
theorem dM_put_103 : decode cM_put 103 = .ok (.iconst 1, 1) := by decide +kernel
theorem dM_put_104 : decode cM_put 104 = .ok (.invokevirtual 76, 3) := by decide +kernel
theorem dM_put_107 : decode cM_put 107 = .ok (.aload_n 0, 1) := by decide +kernel
theorem dM_put_108 : decode cM_put 108 = .ok (.iload_n 2, 1) := by decide +kernel
theorem dM_put_109 : decode cM_put 109 = .ok (.bipush 8, 2) := by decide +kernel
theorem dM_put_111 : decode cM_put 111 = .ok (.ishr, 1) := by decide +kernel
theorem dM_put_112 : decode cM_put 112 = .ok (.iconst 0, 1) := by decide +kernel
theorem dM_put_113 : decode cM_put 113 = .ok (.invokevirtual 76, 3) := by decide +kernel
theorem dM_put_116 : decode cM_put 116 = .ok (.aload_n 0, 1) := by decide +kernel
theorem dM_put_117 : decode cM_put 117 = .ok (.iload_n 2, 1) := by decide +kernel
theorem dM_put_118 : decode cM_put 118 = .ok (.iconst 0, 1) := by decide +kernel
theorem dM_put_119 : decode cM_put 119 = .ok (.invokevirtual 76, 3) := by decide +kernel
theorem dM_put_122 : decode cM_put 122 = .ok (.aload_n 0, 1) := by decide +kernel
theorem dM_put_123 : decode cM_put 123 = .ok (.aload_n 0, 1) := by decide +kernel
theorem dM_put_124 : decode cM_put 124 = .ok (.getfield 53, 3) := by decide +kernel
theorem dM_put_127 : decode cM_put 127 = .ok (.bipush 8, 2) := by decide +kernel
theorem dM_put_129 : decode cM_put 129 = .ok (.ishr, 1) := by decide +kernel
theorem dM_put_130 : decode cM_put 130 = .ok (.iconst 0, 1) := by decide +kernel
theorem dM_put_131 : decode cM_put 131 = .ok (.invokevirtual 76, 3) := by decide +kernel
theorem dM_put_134 : decode cM_put 134 = .ok (.aload_n 0, 1) := by decide +kernel
theorem dM_put_135 : decode cM_put 135 = .ok (.aload_n 0, 1) := by decide +kernel
theorem dM_put_136 : decode cM_put 136 = .ok (.getfield 53, 3) := by decide +kernel
theorem dM_put_139 : decode cM_put 139 = .ok (.iconst 0, 1) := by decide +kernel
theorem dM_put_140 : decode cM_put 140 = .ok (.invokevirtual 76, 3) := by decide +kernel
theorem dM_put_143 : decode cM_put 143 = .ok (.aload_n 0, 1) := by decide +kernel
theorem dM_put_144 : decode cM_put 144 = .ok (.getfield 28, 3) := by decide +kernel
theorem dM_put_147 : decode cM_put 147 = .ok (.iload_n 3, 1) := by decide +kernel
theorem dM_put_148 : decode cM_put 148 = .ok (.aload_n 0, 1) := by decide +kernel
theorem dM_put_149 : decode cM_put 149 = .ok (.getfield 56, 3) := by decide +kernel
theorem dM_put_152 : decode cM_put 152 = .ok (.iastore, 1) := by decide +kernel
theorem dM_put_153 : decode cM_put 153 = .ok (.aload_n 0, 1) := by decide +kernel
theorem dM_put_154 : decode cM_put 154 = .ok (.bipush 90, 2) := by decide +kernel
theorem dM_put_156 : decode cM_put 156 = .ok (.iconst 0, 1) := by decide +kernel
theorem dM_put_157 : decode cM_put 157 = .ok (.invokevirtual 76, 3) := by decide +kernel
theorem dM_put_160 : decode cM_put 160 = .ok (.iconst 0, 1) := by decide +kernel
theorem dM_put_161 : decode cM_put 161 = .ok (.istore 4, 2) := by decide +kernel
theorem dM_put_163 : decode cM_put 163 = .ok (.iload 4, 2) := by decide +kernel
theorem dM_put_165 : decode cM_put 165 = .ok (.aload_n 0, 1) := by decide +kernel
theorem dM_put_166 : decode cM_put 166 = .ok (.getfield 53, 3) := by decide +kernel
theorem dM_put_169 : decode cM_put 169 = .ok (.if_icmp .ge 57, 3) := by decide +kernel
theorem dM_put_172 : decode cM_put 172 = .ok (.aload_n 0, 1) := by decide +kernel
theorem dM_put_173 : decode cM_put 173 = .ok (.getfield 31, 3) := by decide +kernel
theorem dM_put_176 : decode cM_put 176 = .ok (.aload_n 0, 1) := by decide +kernel
theorem dM_put_177 : decode cM_put 177 = .ok (.getfield 73, 3) := by decide +kernel
theorem dM_put_180 : decode cM_put 180 = .ok (.aload_n 0, 1) := by decide +kernel
theorem dM_put_181 : decode cM_put 181 = .ok (.getfield 7, 3) := by decide +kernel
theorem dM_put_184 : decode cM_put 184 = .ok (.iload 4, 2) := by decide +kernel
theorem dM_put_186 : decode cM_put 186 = .ok (.iaload, 1) := by decide +kernel
theorem dM_put_187 : decode cM_put 187 = .ok (.iastore, 1) := by decide +kernel
theorem dM_put_188 : decode cM_put 188 = .ok (.aload_n 0, 1) := by decide +kernel
theorem dM_put_189 : decode cM_put 189 = .ok (.dup, 1) := by decide +kernel
theorem dM_put_190 : decode cM_put 190 = .ok (.getfield 73, 3) := by decide +kernel
theorem dM_put_193 : decode cM_put 193 = .ok (.iconst 1, 1) := by decide +kernel
theorem dM_put_194 : decode cM_put 194 = .ok (.iadd, 1) := by decide +kernel
theorem dM_put_195 : decode cM_put 195 = .ok (.putfield 73, 3) := by decide +kernel
theorem dM_put_198 : decode cM_put 198 = .ok (.aload_n 0, 1) := by decide +kernel
theorem dM_put_199 : decode cM_put 199 = .ok (.getfield 28, 3) := by decide +kernel
theorem dM_put_202 : decode cM_put 202 = .ok (.iload_n 3, 1) := by decide +kernel
theorem dM_put_203 : decode cM_put 203 = .ok (.aload_n 0, 1) := by decide +kernel
theorem dM_put_204 : decode cM_put 204 = .ok (.getfield 56, 3) := by decide +kernel
theorem dM_put_207 : decode cM_put 207 = .ok (.iastore, 1) := by decide +kernel
theorem dM_put_208 : decode cM_put 208 = .ok (.aload_n 0, 1) := by decide +kernel
theorem dM_put_209 : decode cM_put 209 = .ok (.aload_n 0, 1) := by decide +kernel
theorem dM_put_210 : decode cM_put 210 = .ok (.getfield 7, 3) := by decide +kernel
theorem dM_put_213 : decode cM_put 213 = .ok (.iload 4, 2) := by decide +kernel
theorem dM_put_215 : decode cM_put 215 = .ok (.iaload, 1) := by decide +kernel
theorem dM_put_216 : decode cM_put 216 = .ok (.iconst 0, 1) := by decide +kernel
theorem dM_put_217 : decode cM_put 217 = .ok (.invokevirtual 76, 3) := by decide +kernel
theorem dM_put_220 : decode cM_put 220 = .ok (.iinc 4 1, 3) := by decide +kernel
theorem dM_put_223 : decode cM_put 223 = .ok (.goto (-60), 3) := by decide +kernel
theorem dM_put_226 : decode cM_put 226 = .ok (.aload_n 0, 1) := by decide +kernel
theorem dM_put_227 : decode cM_put 227 = .ok (.dup, 1) := by decide +kernel
theorem dM_put_228 : decode cM_put 228 = .ok (.getfield 66, 3) := by decide +kernel
theorem dM_put_231 : decode cM_put 231 = .ok (.iconst 1, 1) := by decide +kernel
theorem dM_put_232 : decode cM_put 232 = .ok (.iadd, 1) := by decide +kernel
theorem dM_put_233 : decode cM_put 233 = .ok (.putfield 66, 3) := by decide +kernel
theorem dM_put_236 : decode cM_put 236 = .ok (.aload_n 0, 1) := by decide +kernel
theorem dM_put_237 : decode cM_put 237 = .ok (.iconst 0, 1) := by decide +kernel
theorem dM_put_238 : decode cM_put 238 = .ok (.putfield 53, 3) := by decide +kernel
theorem dM_put_241 : decode cM_put 241 = .ok (.iload_n 3, 1) := by decide +kernel
theorem dM_put_242 : decode cM_put 242 = .ok (.ireturn, 1) := by decide +kernel
theorem dM_close_0 : decode cM_close 0 = .ok (.aload_n 0, 1) := by decide +kernel
theorem dM_close_1 : decode cM_close 1 = .ok (.iconst 0, 1) := by decide +kernel
theorem dM_close_2 : decode cM_close 2 = .ok (.putfield 49, 3) := by decide +kernel
theorem dM_close_5 : decode cM_close 5 = .ok (.aload_n 0, 1) := by decide +kernel
theorem dM_close_6 : decode cM_close 6 = .ok (.getfield 59, 3) := by decide +kernel
theorem dM_close_9 : decode cM_close 9 = .ok (.ifCond .ne 5, 3) := by decide +kernel
theorem dM_close_12 : decode cM_close 12 = .ok (.iconst 0, 1) := by decide +kernel
theorem dM_close_13 : decode cM_close 13 = .ok (.ireturn, 1) := by decide +kernel
theorem dM_close_14 : decode cM_close 14 = .ok (.aload_n 0, 1) := by decide +kernel
theorem dM_close_15 : decode cM_close 15 = .ok (.getfield 59, 3) := by decide +kernel
theorem dM_close_18 : decode cM_close 18 = .ok (.istore_n 1, 1) := by decide +kernel
theorem dM_close_19 : decode cM_close 19 = .ok (.iload_n 1, 1) := by decide +kernel
theorem dM_close_20 : decode cM_close 20 = .ok (.bipush 56, 2) := by decide +kernel
theorem dM_close_22 : decode cM_close 22 = .ok (.if_icmp .ge 24, 3) := by decide +kernel
theorem dM_close_25 : decode cM_close 25 = .ok (.aload_n 0, 1) := by decide +kernel
theorem dM_close_26 : decode cM_close 26 = .ok (.getfield 34, 3) := by decide +kernel
theorem dM_close_29 : decode cM_close 29 = .ok (.bipush 56, 2) := by decide +kernel
theorem dM_close_31 : decode cM_close 31 = .ok (.aload_n 0, 1) := by decide +kernel
theorem dM_close_32 : decode cM_close 32 = .ok (.getfield 56, 3) := by decide +kernel
theorem dM_close_35 : decode cM_close 35 = .ok (.imul, 1) := by decide +kernel
theorem dM_close_36 : decode cM_close 36 = .ok (.iload_n 1, 1) := by decide +kernel
theorem dM_close_37 : decode cM_close 37 = .ok (.iadd, 1) := by decide +kernel
theorem dM_close_38 : decode cM_close 38 = .ok (.iconst 0, 1) := by decide +kernel
theorem dM_close_39 : decode cM_close 39 = .ok (.iastore, 1) := by decide +kernel
theorem dM_close_40 : decode cM_close 40 = .ok (.iinc 1 1, 3) := by decide +kernel
theorem dM_close_43 : decode cM_close 43 = .ok (.goto (-24), 3) := by decide +kernel
theorem dM_close_46 : decode cM_close 46 = .ok (.aload_n 0, 1) := by decide +kernel
theorem dM_close_47 : decode cM_close 47 = .ok (.invokevirtual 62, 3) := by decide +kernel
theorem dM_close_50 : decode cM_close 50 = .ok (.iconst 1, 1) := by decide +kernel
theorem dM_close_51 : decode cM_close 51 = .ok (.ireturn, 1) := by decide +kernel
theorem dM_plain_0 : decode cM_plain 0 = .ok (.iload_n 2, 1) := by decide +kernel
theorem dM_plain_1 : decode cM_plain 1 = .ok (.iconst 2, 1) := by decide +kernel
theorem dM_plain_2 : decode cM_plain 2 = .ok (.if_icmp .ge 20, 3) := by decide +kernel
theorem dM_plain_5 : decode cM_plain 5 = .ok (.iload_n 2, 1) := by decide +kernel
theorem dM_plain_6 : decode cM_plain 6 = .ok (.ifCond .ne 10, 3) := by decide +kernel
theorem dM_plain_9 : decode cM_plain 9 = .ok (.iload_n 1, 1) := by decide +kernel
theorem dM_plain_10 : decode cM_plain 10 = .ok (.bipush 8, 2) := by decide +kernel
theorem dM_plain_12 : decode cM_plain 12 = .ok (.ishr, 1) := by decide +kernel
theorem dM_plain_13 : decode cM_plain 13 = .ok (.goto 8, 3) := by decide +kernel
theorem dM_plain_16 : decode cM_plain 16 = .ok (.iload_n 1, 1) := by decide +kernel
theorem dM_plain_17 : decode cM_plain 17 = .ok (.sipush 255, 3) := by decide +kernel
theorem dM_plain_20 : decode cM_plain 20 = .ok (.iand, 1) := by decide +kernel
theorem dM_plain_21 : decode cM_plain 21 = .ok (.ireturn, 1) := by decide +kernel
theorem dM_plain_22 : decode cM_plain 22 = .ok (.iload_n 2, 1) := by decide +kernel
theorem dM_plain_23 : decode cM_plain 23 = .ok (.iconst 4, 1) := by decide +kernel
theorem dM_plain_24 : decode cM_plain 24 = .ok (.if_icmp .ge 24, 3) := by decide +kernel
theorem dM_plain_27 : decode cM_plain 27 = .ok (.iload_n 2, 1) := by decide +kernel
theorem dM_plain_28 : decode cM_plain 28 = .ok (.iconst 2, 1) := by decide +kernel
theorem dM_plain_29 : decode cM_plain 29 = .ok (.if_icmp .ne 12, 3) := by decide +kernel
theorem dM_plain_32 : decode cM_plain 32 = .ok (.aload_n 0, 1) := by decide +kernel
theorem dM_plain_33 : decode cM_plain 33 = .ok (.getfield 37, 3) := by decide +kernel
theorem dM_plain_36 : decode cM_plain 36 = .ok (.iload_n 1, 1) := by decide +kernel
theorem dM_plain_37 : decode cM_plain 37 = .ok (.iaload, 1) := by decide +kernel
theorem dM_plain_38 : decode cM_plain 38 = .ok (.goto 9, 3) := by decide +kernel
theorem dM_plain_41 : decode cM_plain 41 = .ok (.aload_n 0, 1) := by decide +kernel
theorem dM_plain_42 : decode cM_plain 42 = .ok (.getfield 40, 3) := by decide +kernel
theorem dM_plain_45 : decode cM_plain 45 = .ok (.iload_n 1, 1) := by decide +kernel
theorem dM_plain_46 : decode cM_plain 46 = .ok (.iaload, 1) := by decide +kernel
theorem dM_plain_47 : decode cM_plain 47 = .ok (.ireturn, 1) := by decide +kernel
theorem dM_plain_48 : decode cM_plain 48 = .ok (.aload_n 0, 1) := by decide +kernel
theorem dM_plain_49 : decode cM_plain 49 = .ok (.getfield 34, 3) := by decide +kernel
theorem dM_plain_52 : decode cM_plain 52 = .ok (.bipush 56, 2) := by decide +kernel
theorem dM_plain_54 : decode cM_plain 54 = .ok (.iload_n 1, 1) := by decide +kernel
theorem dM_plain_55 : decode cM_plain 55 = .ok (.imul, 1) := by decide +kernel
theorem dM_plain_56 : decode cM_plain 56 = .ok (.iload_n 2, 1) := by decide +kernel
theorem dM_plain_57 : decode cM_plain 57 = .ok (.iadd, 1) := by decide +kernel
theorem dM_plain_58 : decode cM_plain 58 = .ok (.bipush 8, 2) := by decide +kernel
theorem dM_plain_60 : decode cM_plain 60 = .ok (.isub, 1) := by decide +kernel
theorem dM_plain_61 : decode cM_plain 61 = .ok (.iaload, 1) := by decide +kernel
theorem dM_plain_62 : decode cM_plain 62 = .ok (.ireturn, 1) := by decide +kernel
theorem dM_sum_0 : decode cM_sum 0 = .ok (.iconst (-1), 1) := by decide +kernel
theorem dM_sum_1 : decode cM_sum 1 = .ok (.istore_n 2, 1) := by decide +kernel
theorem dM_sum_2 : decode cM_sum 2 = .ok (.iconst 0, 1) := by decide +kernel
theorem dM_sum_3 : decode cM_sum 3 = .ok (.istore_n 3, 1) := by decide +kernel
theorem dM_sum_4 : decode cM_sum 4 = .ok (.iload_n 3, 1) := by decide +kernel
theorem dM_sum_5 : decode cM_sum 5 = .ok (.bipush 64, 2) := by decide +kernel
theorem dM_sum_7 : decode cM_sum 7 = .ok (.if_icmp .ge 68, 3) := by decide +kernel
theorem dM_sum_10 : decode cM_sum 10 = .ok (.iload_n 3, 1) := by decide +kernel
theorem dM_sum_11 : decode cM_sum 11 = .ok (.iconst 3, 1) := by decide +kernel
theorem dM_sum_12 : decode cM_sum 12 = .ok (.if_icmp .le 12, 3) := by decide +kernel
theorem dM_sum_15 : decode cM_sum 15 = .ok (.iload_n 3, 1) := by decide +kernel
theorem dM_sum_16 : decode cM_sum 16 = .ok (.bipush 8, 2) := by decide +kernel
theorem dM_sum_18 : decode cM_sum 18 = .ok (.if_icmp .ge 6, 3) := by decide +kernel
theorem dM_sum_21 : decode cM_sum 21 = .ok (.goto 48, 3) := by decide +kernel
theorem dM_sum_24 : decode cM_sum 24 = .ok (.iload_n 2, 1) := by decide +kernel
theorem dM_sum_25 : decode cM_sum 25 = .ok (.aload_n 0, 1) := by decide +kernel
theorem dM_sum_26 : decode cM_sum 26 = .ok (.iload_n 1, 1) := by decide +kernel
theorem dM_sum_27 : decode cM_sum 27 = .ok (.iload_n 3, 1) := by decide +kernel
theorem dM_sum_28 : decode cM_sum 28 = .ok (.invokevirtual 80, 3) := by decide +kernel
theorem dM_sum_31 : decode cM_sum 31 = .ok (.ixor, 1) := by decide +kernel
theorem dM_sum_32 : decode cM_sum 32 = .ok (.istore_n 2, 1) := by decide +kernel
theorem dM_sum_33 : decode cM_sum 33 = .ok (.iconst 0, 1) := by decide +kernel
theorem dM_sum_34 : decode cM_sum 34 = .ok (.istore 4, 2) := by decide +kernel
theorem dM_sum_36 : decode cM_sum 36 = .ok (.iload 4, 2) := by decide +kernel
theorem dM_sum_38 : decode cM_sum 38 = .ok (.bipush 8, 2) := by decide +kernel
theorem dM_sum_40 : decode cM_sum 40 = .ok (.if_icmp .ge 29, 3) := by decide +kernel
theorem dM_sum_43 : decode cM_sum 43 = .ok (.iload_n 2, 1) := by decide +kernel
theorem dM_sum_44 : decode cM_sum 44 = .ok (.iconst 1, 1) := by decide +kernel
theorem dM_sum_45 : decode cM_sum 45 = .ok (.iand, 1) := by decide +kernel
theorem dM_sum_46 : decode cM_sum 46 = .ok (.iconst 1, 1) := by decide +kernel
theorem dM_sum_47 : decode cM_sum 47 = .ok (.if_icmp .ne 12, 3) := by decide +kernel
theorem dM_sum_50 : decode cM_sum 50 = .ok (.iload_n 2, 1) := by decide +kernel
theorem dM_sum_51 : decode cM_sum 51 = .ok (.iconst 1, 1) := by decide +kernel
theorem dM_sum_52 : decode cM_sum 52 = .ok (.iushr, 1) := by decide +kernel
theorem dM_sum_53 : decode cM_sum 53 = .ok (.ldc 84, 2) := by decide +kernel
theorem dM_sum_55 : decode cM_sum 55 = .ok (.ixor, 1) := by decide +kernel
theorem dM_sum_56 : decode cM_sum 56 = .ok (.goto 6, 3) := by decide +kernel
theorem dM_sum_59 : decode cM_sum 59 = .ok (.iload_n 2, 1) := by decide +kernel
theorem dM_sum_60 : decode cM_sum 60 = .ok (.iconst 1, 1) := by decide +kernel
theorem dM_sum_61 : decode cM_sum 61 = .ok (.iushr, 1) := by decide +kernel
theorem dM_sum_62 : decode cM_sum 62 = .ok (.istore_n 2, 1) := by decide +kernel
theorem dM_sum_63 : decode cM_sum 63 = .ok (.iinc 4 1, 3) := by decide +kernel
theorem dM_sum_66 : decode cM_sum 66 = .ok (.goto (-30), 3) := by decide +kernel
theorem dM_sum_69 : decode cM_sum 69 = .ok (.iinc 3 1, 3) := by decide +kernel
theorem dM_sum_72 : decode cM_sum 72 = .ok (.goto (-68), 3) := by decide +kernel
theorem dM_sum_75 : decode cM_sum 75 = .ok (.iload_n 2, 1) := by decide +kernel
theorem dM_sum_76 : decode cM_sum 76 = .ok (.iconst (-1), 1) := by decide +kernel
theorem dM_sum_77 : decode cM_sum 77 = .ok (.ixor, 1) := by decide +kernel
theorem dM_sum_78 : decode cM_sum 78 = .ok (.ireturn, 1) := by decide +kernel
theorem dM_isWritten_0 : decode cM_isWritten 0 = .ok (.iload_n 1, 1) := by decide +kernel
theorem dM_isWritten_1 : decode cM_isWritten 1 = .ok (.ifCond .lt 15, 3) := by decide +kernel
theorem dM_isWritten_4 : decode cM_isWritten 4 = .ok (.iload_n 1, 1) := by decide +kernel
theorem dM_isWritten_5 : decode cM_isWritten 5 = .ok (.aload_n 0, 1) := by decide +kernel
theorem dM_isWritten_6 : decode cM_isWritten 6 = .ok (.getfield 56, 3) := by decide +kernel
theorem dM_isWritten_9 : decode cM_isWritten 9 = .ok (.if_icmp .ge 7, 3) := by decide +kernel
theorem dM_isWritten_12 : decode cM_isWritten 12 = .ok (.iconst 1, 1) := by decide +kernel
theorem dM_isWritten_13 : decode cM_isWritten 13 = .ok (.goto 4, 3) := by decide +kernel
theorem dM_isWritten_16 : decode cM_isWritten 16 = .ok (.iconst 0, 1) := by decide +kernel
theorem dM_isWritten_17 : decode cM_isWritten 17 = .ok (.ireturn, 1) := by decide +kernel
theorem dM_byteOf_0 : decode cM_byteOf 0 = .ok (.aload_n 0, 1) := by decide +kernel
theorem dM_byteOf_1 : decode cM_byteOf 1 = .ok (.iconst 0, 1) := by decide +kernel
theorem dM_byteOf_2 : decode cM_byteOf 2 = .ok (.putfield 49, 3) := by decide +kernel
theorem dM_byteOf_5 : decode cM_byteOf 5 = .ok (.aload_n 0, 1) := by decide +kernel
theorem dM_byteOf_6 : decode cM_byteOf 6 = .ok (.iload_n 1, 1) := by decide +kernel
theorem dM_byteOf_7 : decode cM_byteOf 7 = .ok (.invokevirtual 85, 3) := by decide +kernel
theorem dM_byteOf_10 : decode cM_byteOf 10 = .ok (.ifCond .eq 13, 3) := by decide +kernel
theorem dM_byteOf_13 : decode cM_byteOf 13 = .ok (.iload_n 2, 1) := by decide +kernel
theorem dM_byteOf_14 : decode cM_byteOf 14 = .ok (.ifCond .lt 9, 3) := by decide +kernel
theorem dM_byteOf_17 : decode cM_byteOf 17 = .ok (.iload_n 2, 1) := by decide +kernel
theorem dM_byteOf_18 : decode cM_byteOf 18 = .ok (.bipush 63, 2) := by decide +kernel
theorem dM_byteOf_20 : decode cM_byteOf 20 = .ok (.if_icmp .le 5, 3) := by decide +kernel
theorem dM_byteOf_23 : decode cM_byteOf 23 = .ok (.iconst (-1), 1) := by decide +kernel
theorem dM_byteOf_24 : decode cM_byteOf 24 = .ok (.ireturn, 1) := by decide +kernel
theorem dM_byteOf_25 : decode cM_byteOf 25 = .ok (.iload_n 2, 1) := by decide +kernel
theorem dM_byteOf_26 : decode cM_byteOf 26 = .ok (.iconst 3, 1) := by decide +kernel
theorem dM_byteOf_27 : decode cM_byteOf 27 = .ok (.if_icmp .le 29, 3) := by decide +kernel
theorem dM_byteOf_30 : decode cM_byteOf 30 = .ok (.iload_n 2, 1) := by decide +kernel
theorem dM_byteOf_31 : decode cM_byteOf 31 = .ok (.bipush 8, 2) := by decide +kernel
theorem dM_byteOf_33 : decode cM_byteOf 33 = .ok (.if_icmp .ge 23, 3) := by decide +kernel
theorem dM_byteOf_36 : decode cM_byteOf 36 = .ok (.aload_n 0, 1) := by decide +kernel
theorem dM_byteOf_37 : decode cM_byteOf 37 = .ok (.iload_n 1, 1) := by decide +kernel
theorem dM_byteOf_38 : decode cM_byteOf 38 = .ok (.invokevirtual 89, 3) := by decide +kernel
theorem dM_byteOf_41 : decode cM_byteOf 41 = .ok (.bipush 8, 2) := by decide +kernel
theorem dM_byteOf_43 : decode cM_byteOf 43 = .ok (.bipush 7, 2) := by decide +kernel
theorem dM_byteOf_45 : decode cM_byteOf 45 = .ok (.iload_n 2, 1) := by decide +kernel
theorem dM_byteOf_46 : decode cM_byteOf 46 = .ok (.isub, 1) := by decide +kernel
theorem dM_byteOf_47 : decode cM_byteOf 47 = .ok (.imul, 1) := by decide +kernel
theorem dM_byteOf_48 : decode cM_byteOf 48 = .ok (.ishr, 1) := by decide +kernel
theorem dM_byteOf_49 : decode cM_byteOf 49 = .ok (.sipush 255, 3) := by decide +kernel
theorem dM_byteOf_52 : decode cM_byteOf 52 = .ok (.iand, 1) := by decide +kernel
theorem dM_byteOf_53 : decode cM_byteOf 53 = .ok (.goto 9, 3) := by decide +kernel
theorem dM_byteOf_56 : decode cM_byteOf 56 = .ok (.aload_n 0, 1) := by decide +kernel
theorem dM_byteOf_57 : decode cM_byteOf 57 = .ok (.iload_n 1, 1) := by decide +kernel
theorem dM_byteOf_58 : decode cM_byteOf 58 = .ok (.iload_n 2, 1) := by decide +kernel
theorem dM_byteOf_59 : decode cM_byteOf 59 = .ok (.invokevirtual 80, 3) := by decide +kernel
theorem dM_byteOf_62 : decode cM_byteOf 62 = .ok (.istore_n 3, 1) := by decide +kernel
theorem dM_byteOf_63 : decode cM_byteOf 63 = .ok (.aload_n 0, 1) := by decide +kernel
theorem dM_byteOf_64 : decode cM_byteOf 64 = .ok (.getfield 43, 3) := by decide +kernel
theorem dM_byteOf_67 : decode cM_byteOf 67 = .ok (.iload_n 1, 1) := by decide +kernel
theorem dM_byteOf_68 : decode cM_byteOf 68 = .ok (.iaload, 1) := by decide +kernel
theorem dM_byteOf_69 : decode cM_byteOf 69 = .ok (.iload_n 2, 1) := by decide +kernel
theorem dM_byteOf_70 : decode cM_byteOf 70 = .ok (.if_icmp .ne 18, 3) := by decide +kernel
theorem dM_byteOf_73 : decode cM_byteOf 73 = .ok (.iload_n 3, 1) := by decide +kernel
theorem dM_byteOf_74 : decode cM_byteOf 74 = .ok (.aload_n 0, 1) := by decide +kernel
theorem dM_byteOf_75 : decode cM_byteOf 75 = .ok (.getfield 46, 3) := by decide +kernel
theorem dM_byteOf_78 : decode cM_byteOf 78 = .ok (.iload_n 1, 1) := by decide +kernel
theorem dM_byteOf_79 : decode cM_byteOf 79 = .ok (.iaload, 1) := by decide +kernel
theorem dM_byteOf_80 : decode cM_byteOf 80 = .ok (.iadd, 1) := by decide +kernel
theorem dM_byteOf_81 : decode cM_byteOf 81 = .ok (.sipush 255, 3) := by decide +kernel
theorem dM_byteOf_84 : decode cM_byteOf 84 = .ok (.iand, 1) := by decide +kernel
theorem dM_byteOf_85 : decode cM_byteOf 85 = .ok (.goto 4, 3) := by decide +kernel
theorem dM_byteOf_88 : decode cM_byteOf 88 = .ok (.iload_n 3, 1) := by decide +kernel
theorem dM_byteOf_89 : decode cM_byteOf 89 = .ok (.ireturn, 1) := by decide +kernel
theorem dM_spoil_0 : decode cM_spoil 0 = .ok (.aload_n 0, 1) := by decide +kernel
theorem dM_spoil_1 : decode cM_spoil 1 = .ok (.iconst 0, 1) := by decide +kernel
theorem dM_spoil_2 : decode cM_spoil 2 = .ok (.putfield 49, 3) := by decide +kernel
theorem dM_spoil_5 : decode cM_spoil 5 = .ok (.aload_n 0, 1) := by decide +kernel
theorem dM_spoil_6 : decode cM_spoil 6 = .ok (.iload_n 1, 1) := by decide +kernel
theorem dM_spoil_7 : decode cM_spoil 7 = .ok (.invokevirtual 85, 3) := by decide +kernel
theorem dM_spoil_10 : decode cM_spoil 10 = .ok (.ifCond .eq 34, 3) := by decide +kernel
theorem dM_spoil_13 : decode cM_spoil 13 = .ok (.iload_n 2, 1) := by decide +kernel
theorem dM_spoil_14 : decode cM_spoil 14 = .ok (.ifCond .lt 30, 3) := by decide +kernel
theorem dM_spoil_17 : decode cM_spoil 17 = .ok (.iload_n 2, 1) := by decide +kernel
theorem dM_spoil_18 : decode cM_spoil 18 = .ok (.bipush 63, 2) := by decide +kernel
theorem dM_spoil_20 : decode cM_spoil 20 = .ok (.if_icmp .gt 24, 3) := by decide +kernel
theorem dM_spoil_23 : decode cM_spoil 23 = .ok (.iload_n 3, 1) := by decide +kernel
theorem dM_spoil_24 : decode cM_spoil 24 = .ok (.iconst 1, 1) := by decide +kernel
theorem dM_spoil_25 : decode cM_spoil 25 = .ok (.if_icmp .lt 19, 3) := by decide +kernel
theorem dM_spoil_28 : decode cM_spoil 28 = .ok (.iload_n 3, 1) := by decide +kernel
theorem dM_spoil_29 : decode cM_spoil 29 = .ok (.sipush 255, 3) := by decide +kernel
theorem dM_spoil_32 : decode cM_spoil 32 = .ok (.if_icmp .gt 12, 3) := by decide +kernel
theorem dM_spoil_35 : decode cM_spoil 35 = .ok (.aload_n 0, 1) := by decide +kernel
theorem dM_spoil_36 : decode cM_spoil 36 = .ok (.getfield 43, 3) := by decide +kernel
theorem dM_spoil_39 : decode cM_spoil 39 = .ok (.iload_n 1, 1) := by decide +kernel
theorem dM_spoil_40 : decode cM_spoil 40 = .ok (.iaload, 1) := by decide +kernel
theorem dM_spoil_41 : decode cM_spoil 41 = .ok (.ifCond .lt 5, 3) := by decide +kernel
theorem dM_spoil_44 : decode cM_spoil 44 = .ok (.iconst 0, 1) := by decide +kernel
theorem dM_spoil_45 : decode cM_spoil 45 = .ok (.ireturn, 1) := by decide +kernel
theorem dM_spoil_46 : decode cM_spoil 46 = .ok (.aload_n 0, 1) := by decide +kernel
theorem dM_spoil_47 : decode cM_spoil 47 = .ok (.getfield 43, 3) := by decide +kernel
theorem dM_spoil_50 : decode cM_spoil 50 = .ok (.iload_n 1, 1) := by decide +kernel
theorem dM_spoil_51 : decode cM_spoil 51 = .ok (.iload_n 2, 1) := by decide +kernel
theorem dM_spoil_52 : decode cM_spoil 52 = .ok (.iastore, 1) := by decide +kernel
theorem dM_spoil_53 : decode cM_spoil 53 = .ok (.aload_n 0, 1) := by decide +kernel
theorem dM_spoil_54 : decode cM_spoil 54 = .ok (.getfield 46, 3) := by decide +kernel
theorem dM_spoil_57 : decode cM_spoil 57 = .ok (.iload_n 1, 1) := by decide +kernel
theorem dM_spoil_58 : decode cM_spoil 58 = .ok (.iload_n 3, 1) := by decide +kernel
theorem dM_spoil_59 : decode cM_spoil 59 = .ok (.iastore, 1) := by decide +kernel
theorem dM_spoil_60 : decode cM_spoil 60 = .ok (.iconst 1, 1) := by decide +kernel
theorem dM_spoil_61 : decode cM_spoil 61 = .ok (.ireturn, 1) := by decide +kernel
theorem dM_heal_0 : decode cM_heal 0 = .ok (.aload_n 0, 1) := by decide +kernel
theorem dM_heal_1 : decode cM_heal 1 = .ok (.iconst 0, 1) := by decide +kernel
theorem dM_heal_2 : decode cM_heal 2 = .ok (.putfield 49, 3) := by decide +kernel
theorem dM_heal_5 : decode cM_heal 5 = .ok (.aload_n 0, 1) := by decide +kernel
theorem dM_heal_6 : decode cM_heal 6 = .ok (.iload_n 1, 1) := by decide +kernel
theorem dM_heal_7 : decode cM_heal 7 = .ok (.invokevirtual 85, 3) := by decide +kernel
theorem dM_heal_10 : decode cM_heal 10 = .ok (.ifCond .eq 12, 3) := by decide +kernel
theorem dM_heal_13 : decode cM_heal 13 = .ok (.aload_n 0, 1) := by decide +kernel
theorem dM_heal_14 : decode cM_heal 14 = .ok (.getfield 43, 3) := by decide +kernel
theorem dM_heal_17 : decode cM_heal 17 = .ok (.iload_n 1, 1) := by decide +kernel
theorem dM_heal_18 : decode cM_heal 18 = .ok (.iaload, 1) := by decide +kernel
theorem dM_heal_19 : decode cM_heal 19 = .ok (.ifCond .ge 5, 3) := by decide +kernel
theorem dM_heal_22 : decode cM_heal 22 = .ok (.iconst 0, 1) := by decide +kernel
theorem dM_heal_23 : decode cM_heal 23 = .ok (.ireturn, 1) := by decide +kernel
theorem dM_heal_24 : decode cM_heal 24 = .ok (.aload_n 0, 1) := by decide +kernel
theorem dM_heal_25 : decode cM_heal 25 = .ok (.getfield 43, 3) := by decide +kernel
theorem dM_heal_28 : decode cM_heal 28 = .ok (.iload_n 1, 1) := by decide +kernel
theorem dM_heal_29 : decode cM_heal 29 = .ok (.iconst (-1), 1) := by decide +kernel
theorem dM_heal_30 : decode cM_heal 30 = .ok (.iastore, 1) := by decide +kernel
theorem dM_heal_31 : decode cM_heal 31 = .ok (.iconst 1, 1) := by decide +kernel
theorem dM_heal_32 : decode cM_heal 32 = .ok (.ireturn, 1) := by decide +kernel
theorem dM_isGood_0 : decode cM_isGood 0 = .ok (.aload_n 0, 1) := by decide +kernel
theorem dM_isGood_1 : decode cM_isGood 1 = .ok (.iload_n 1, 1) := by decide +kernel
theorem dM_isGood_2 : decode cM_isGood 2 = .ok (.invokevirtual 85, 3) := by decide +kernel
theorem dM_isGood_5 : decode cM_isGood 5 = .ok (.ifCond .eq 16, 3) := by decide +kernel
theorem dM_isGood_8 : decode cM_isGood 8 = .ok (.aload_n 0, 1) := by decide +kernel
theorem dM_isGood_9 : decode cM_isGood 9 = .ok (.getfield 43, 3) := by decide +kernel
theorem dM_isGood_12 : decode cM_isGood 12 = .ok (.iload_n 1, 1) := by decide +kernel
theorem dM_isGood_13 : decode cM_isGood 13 = .ok (.iaload, 1) := by decide +kernel
theorem dM_isGood_14 : decode cM_isGood 14 = .ok (.ifCond .ge 7, 3) := by decide +kernel
theorem dM_isGood_17 : decode cM_isGood 17 = .ok (.iconst 1, 1) := by decide +kernel
theorem dM_isGood_18 : decode cM_isGood 18 = .ok (.goto 4, 3) := by decide +kernel
theorem dM_isGood_21 : decode cM_isGood 21 = .ok (.iconst 0, 1) := by decide +kernel
theorem dM_isGood_22 : decode cM_isGood 22 = .ok (.ireturn, 1) := by decide +kernel
theorem dM_good_0 : decode cM_good 0 = .ok (.aload_n 0, 1) := by decide +kernel
theorem dM_good_1 : decode cM_good 1 = .ok (.iconst 0, 1) := by decide +kernel
theorem dM_good_2 : decode cM_good 2 = .ok (.putfield 49, 3) := by decide +kernel
theorem dM_good_5 : decode cM_good 5 = .ok (.aload_n 0, 1) := by decide +kernel
theorem dM_good_6 : decode cM_good 6 = .ok (.iload_n 1, 1) := by decide +kernel
theorem dM_good_7 : decode cM_good 7 = .ok (.invokevirtual 93, 3) := by decide +kernel
theorem dM_good_10 : decode cM_good 10 = .ok (.ireturn, 1) := by decide +kernel
theorem dM_isRead_0 : decode cM_isRead 0 = .ok (.aload_n 0, 1) := by decide +kernel
theorem dM_isRead_1 : decode cM_isRead 1 = .ok (.getfield 25, 3) := by decide +kernel
theorem dM_isRead_4 : decode cM_isRead 4 = .ok (.iload_n 1, 1) := by decide +kernel
theorem dM_isRead_5 : decode cM_isRead 5 = .ok (.iaload, 1) := by decide +kernel
theorem dM_isRead_6 : decode cM_isRead 6 = .ok (.istore_n 2, 1) := by decide +kernel
theorem dM_isRead_7 : decode cM_isRead 7 = .ok (.iload_n 2, 1) := by decide +kernel
theorem dM_isRead_8 : decode cM_isRead 8 = .ok (.aload_n 0, 1) := by decide +kernel
theorem dM_isRead_9 : decode cM_isRead 9 = .ok (.getfield 28, 3) := by decide +kernel
theorem dM_isRead_12 : decode cM_isRead 12 = .ok (.iload_n 1, 1) := by decide +kernel
theorem dM_isRead_13 : decode cM_isRead 13 = .ok (.iaload, 1) := by decide +kernel
theorem dM_isRead_14 : decode cM_isRead 14 = .ok (.if_icmp .gt 19, 3) := by decide +kernel
theorem dM_isRead_17 : decode cM_isRead 17 = .ok (.aload_n 0, 1) := by decide +kernel
theorem dM_isRead_18 : decode cM_isRead 18 = .ok (.iload_n 2, 1) := by decide +kernel
theorem dM_isRead_19 : decode cM_isRead 19 = .ok (.invokevirtual 93, 3) := by decide +kernel
theorem dM_isRead_22 : decode cM_isRead 22 = .ok (.ifCond .ne 5, 3) := by decide +kernel
theorem dM_isRead_25 : decode cM_isRead 25 = .ok (.iconst 0, 1) := by decide +kernel
theorem dM_isRead_26 : decode cM_isRead 26 = .ok (.ireturn, 1) := by decide +kernel
theorem dM_isRead_27 : decode cM_isRead 27 = .ok (.iinc 2 1, 3) := by decide +kernel
theorem dM_isRead_30 : decode cM_isRead 30 = .ok (.goto (-23), 3) := by decide +kernel
theorem dM_isRead_33 : decode cM_isRead 33 = .ok (.iconst 1, 1) := by decide +kernel
theorem dM_isRead_34 : decode cM_isRead 34 = .ok (.ireturn, 1) := by decide +kernel
theorem dM_read_0 : decode cM_read 0 = .ok (.aload_n 0, 1) := by decide +kernel
theorem dM_read_1 : decode cM_read 1 = .ok (.iconst 0, 1) := by decide +kernel
theorem dM_read_2 : decode cM_read 2 = .ok (.putfield 49, 3) := by decide +kernel
theorem dM_read_5 : decode cM_read 5 = .ok (.iload_n 1, 1) := by decide +kernel
theorem dM_read_6 : decode cM_read 6 = .ok (.istore_n 3, 1) := by decide +kernel
theorem dM_read_7 : decode cM_read 7 = .ok (.iconst 0, 1) := by decide +kernel
theorem dM_read_8 : decode cM_read 8 = .ok (.istore 4, 2) := by decide +kernel
theorem dM_read_10 : decode cM_read 10 = .ok (.iload 4, 2) := by decide +kernel
theorem dM_read_12 : decode cM_read 12 = .ok (.aload_n 0, 1) := by decide +kernel
theorem dM_read_13 : decode cM_read 13 = .ok (.getfield 66, 3) := by decide +kernel
theorem dM_read_16 : decode cM_read 16 = .ok (.if_icmp .ge 137, 3) := by decide +kernel
theorem dM_read_19 : decode cM_read 19 = .ok (.iload_n 3, 1) := by decide +kernel
theorem dM_read_20 : decode cM_read 20 = .ok (.ifCond .lt 133, 3) := by decide +kernel
theorem dM_read_23 : decode cM_read 23 = .ok (.aload_n 0, 1) := by decide +kernel
theorem dM_read_24 : decode cM_read 24 = .ok (.iload 4, 2) := by decide +kernel
theorem dM_read_26 : decode cM_read 26 = .ok (.invokevirtual 96, 3) := by decide +kernel
theorem dM_read_29 : decode cM_read 29 = .ok (.ifCond .ne 6, 3) := by decide +kernel
theorem dM_read_32 : decode cM_read 32 = .ok (.goto 115, 3) := by decide +kernel
theorem dM_read_35 : decode cM_read 35 = .ok (.iinc 3 (-1), 3) := by decide +kernel
theorem dM_read_38 : decode cM_read 38 = .ok (.iload_n 3, 1) := by decide +kernel
theorem dM_read_39 : decode cM_read 39 = .ok (.ifCond .lt 6, 3) := by decide +kernel
theorem dM_read_42 : decode cM_read 42 = .ok (.goto 105, 3) := by decide +kernel
theorem dM_read_45 : decode cM_read 45 = .ok (.iload_n 2, 1) := by decide +kernel
theorem dM_read_46 : decode cM_read 46 = .ok (.tableswitch 62 0 3 #[30, 38, 46, 54], 30) := by decide +kernel
theorem dM_read_76 : decode cM_read 76 = .ok (.aload_n 0, 1) := by decide +kernel
theorem dM_read_77 : decode cM_read 77 = .ok (.getfield 13, 3) := by decide +kernel
theorem dM_read_80 : decode cM_read 80 = .ok (.iload 4, 2) := by decide +kernel
theorem dM_read_82 : decode cM_read 82 = .ok (.iaload, 1) := by decide +kernel
theorem dM_read_83 : decode cM_read 83 = .ok (.ireturn, 1) := by decide +kernel
theorem dM_read_84 : decode cM_read 84 = .ok (.aload_n 0, 1) := by decide +kernel
theorem dM_read_85 : decode cM_read 85 = .ok (.getfield 16, 3) := by decide +kernel
theorem dM_read_88 : decode cM_read 88 = .ok (.iload 4, 2) := by decide +kernel
theorem dM_read_90 : decode cM_read 90 = .ok (.iaload, 1) := by decide +kernel
theorem dM_read_91 : decode cM_read 91 = .ok (.ireturn, 1) := by decide +kernel
theorem dM_read_92 : decode cM_read 92 = .ok (.aload_n 0, 1) := by decide +kernel
theorem dM_read_93 : decode cM_read 93 = .ok (.getfield 19, 3) := by decide +kernel
theorem dM_read_96 : decode cM_read 96 = .ok (.iload 4, 2) := by decide +kernel
theorem dM_read_98 : decode cM_read 98 = .ok (.iaload, 1) := by decide +kernel
theorem dM_read_99 : decode cM_read 99 = .ok (.ireturn, 1) := by decide +kernel
theorem dM_read_100 : decode cM_read 100 = .ok (.aload_n 0, 1) := by decide +kernel
theorem dM_read_101 : decode cM_read 101 = .ok (.getfield 25, 3) := by decide +kernel
theorem dM_read_104 : decode cM_read 104 = .ok (.iload 4, 2) := by decide +kernel
theorem dM_read_106 : decode cM_read 106 = .ok (.iaload, 1) := by decide +kernel
theorem dM_read_107 : decode cM_read 107 = .ok (.ireturn, 1) := by decide +kernel
theorem dM_read_108 : decode cM_read 108 = .ok (.iload_n 2, 1) := by decide +kernel
theorem dM_read_109 : decode cM_read 109 = .ok (.iconst 3, 1) := by decide +kernel
theorem dM_read_110 : decode cM_read 110 = .ok (.if_icmp .le 35, 3) := by decide +kernel
theorem dM_read_113 : decode cM_read 113 = .ok (.iload_n 2, 1) := by decide +kernel
theorem dM_read_114 : decode cM_read 114 = .ok (.iconst 4, 1) := by decide +kernel
theorem dM_read_115 : decode cM_read 115 = .ok (.isub, 1) := by decide +kernel
theorem dM_read_116 : decode cM_read 116 = .ok (.aload_n 0, 1) := by decide +kernel
theorem dM_read_117 : decode cM_read 117 = .ok (.getfield 19, 3) := by decide +kernel
theorem dM_read_120 : decode cM_read 120 = .ok (.iload 4, 2) := by decide +kernel
theorem dM_read_122 : decode cM_read 122 = .ok (.iaload, 1) := by decide +kernel
theorem dM_read_123 : decode cM_read 123 = .ok (.if_icmp .ge 22, 3) := by decide +kernel
theorem dM_read_126 : decode cM_read 126 = .ok (.aload_n 0, 1) := by decide +kernel
theorem dM_read_127 : decode cM_read 127 = .ok (.getfield 31, 3) := by decide +kernel
theorem dM_read_130 : decode cM_read 130 = .ok (.aload_n 0, 1) := by decide +kernel
theorem dM_read_131 : decode cM_read 131 = .ok (.getfield 22, 3) := by decide +kernel
theorem dM_read_134 : decode cM_read 134 = .ok (.iload 4, 2) := by decide +kernel
theorem dM_read_136 : decode cM_read 136 = .ok (.iaload, 1) := by decide +kernel
theorem dM_read_137 : decode cM_read 137 = .ok (.iload_n 2, 1) := by decide +kernel
theorem dM_read_138 : decode cM_read 138 = .ok (.iadd, 1) := by decide +kernel
theorem dM_read_139 : decode cM_read 139 = .ok (.iconst 4, 1) := by decide +kernel
theorem dM_read_140 : decode cM_read 140 = .ok (.isub, 1) := by decide +kernel
theorem dM_read_141 : decode cM_read 141 = .ok (.iaload, 1) := by decide +kernel
theorem dM_read_142 : decode cM_read 142 = .ok (.goto 4, 3) := by decide +kernel
theorem dM_read_145 : decode cM_read 145 = .ok (.iconst (-1), 1) := by decide +kernel
theorem dM_read_146 : decode cM_read 146 = .ok (.ireturn, 1) := by decide +kernel
theorem dM_read_147 : decode cM_read 147 = .ok (.iinc 4 1, 3) := by decide +kernel
theorem dM_read_150 : decode cM_read 150 = .ok (.goto (-140), 3) := by decide +kernel
theorem dM_read_153 : decode cM_read 153 = .ok (.iconst (-1), 1) := by decide +kernel
theorem dM_read_154 : decode cM_read 154 = .ok (.ireturn, 1) := by decide +kernel
theorem dM_verify_0 : decode cM_verify 0 = .ok (.aload_n 0, 1) := by decide +kernel
theorem dM_verify_1 : decode cM_verify 1 = .ok (.iconst 0, 1) := by decide +kernel
theorem dM_verify_2 : decode cM_verify 2 = .ok (.putfield 49, 3) := by decide +kernel
theorem dM_verify_5 : decode cM_verify 5 = .ok (.iload_n 1, 1) := by decide +kernel
theorem dM_verify_6 : decode cM_verify 6 = .ok (.ifCond .ge 7, 3) := by decide +kernel
theorem dM_verify_9 : decode cM_verify 9 = .ok (.iconst 0, 1) := by decide +kernel
theorem dM_verify_10 : decode cM_verify 10 = .ok (.goto 4, 3) := by decide +kernel
theorem dM_verify_13 : decode cM_verify 13 = .ok (.iload_n 1, 1) := by decide +kernel
theorem dM_verify_14 : decode cM_verify 14 = .ok (.istore_n 2, 1) := by decide +kernel
theorem dM_verify_15 : decode cM_verify 15 = .ok (.iload_n 2, 1) := by decide +kernel
theorem dM_verify_16 : decode cM_verify 16 = .ok (.aload_n 0, 1) := by decide +kernel
theorem dM_verify_17 : decode cM_verify 17 = .ok (.getfield 56, 3) := by decide +kernel
theorem dM_verify_20 : decode cM_verify 20 = .ok (.if_icmp .ge 19, 3) := by decide +kernel
theorem dM_verify_23 : decode cM_verify 23 = .ok (.aload_n 0, 1) := by decide +kernel
theorem dM_verify_24 : decode cM_verify 24 = .ok (.iload_n 2, 1) := by decide +kernel
theorem dM_verify_25 : decode cM_verify 25 = .ok (.invokevirtual 93, 3) := by decide +kernel
theorem dM_verify_28 : decode cM_verify 28 = .ok (.ifCond .ne 5, 3) := by decide +kernel
theorem dM_verify_31 : decode cM_verify 31 = .ok (.iload_n 2, 1) := by decide +kernel
theorem dM_verify_32 : decode cM_verify 32 = .ok (.ireturn, 1) := by decide +kernel
theorem dM_verify_33 : decode cM_verify 33 = .ok (.iinc 2 1, 3) := by decide +kernel
theorem dM_verify_36 : decode cM_verify 36 = .ok (.goto (-21), 3) := by decide +kernel
theorem dM_verify_39 : decode cM_verify 39 = .ok (.iconst (-1), 1) := by decide +kernel
theorem dM_verify_40 : decode cM_verify 40 = .ok (.ireturn, 1) := by decide +kernel
theorem dM_count_0 : decode cM_count 0 = .ok (.aload_n 0, 1) := by decide +kernel
theorem dM_count_1 : decode cM_count 1 = .ok (.iconst 0, 1) := by decide +kernel
theorem dM_count_2 : decode cM_count 2 = .ok (.putfield 49, 3) := by decide +kernel
theorem dM_count_5 : decode cM_count 5 = .ok (.iconst 0, 1) := by decide +kernel
theorem dM_count_6 : decode cM_count 6 = .ok (.istore_n 2, 1) := by decide +kernel
theorem dM_count_7 : decode cM_count 7 = .ok (.iload_n 1, 1) := by decide +kernel
theorem dM_count_8 : decode cM_count 8 = .ok (.tableswitch 137 0 6 #[44, 49, 54, 59, 64, 98, 132], 44) := by decide +kernel
theorem dM_count_52 : decode cM_count 52 = .ok (.aload_n 0, 1) := by decide +kernel
theorem dM_count_53 : decode cM_count 53 = .ok (.getfield 53, 3) := by decide +kernel
theorem dM_count_56 : decode cM_count 56 = .ok (.ireturn, 1) := by decide +kernel
theorem dM_count_57 : decode cM_count 57 = .ok (.aload_n 0, 1) := by decide +kernel
theorem dM_count_58 : decode cM_count 58 = .ok (.getfield 66, 3) := by decide +kernel
theorem dM_count_61 : decode cM_count 61 = .ok (.ireturn, 1) := by decide +kernel
theorem dM_count_62 : decode cM_count 62 = .ok (.aload_n 0, 1) := by decide +kernel
theorem dM_count_63 : decode cM_count 63 = .ok (.getfield 56, 3) := by decide +kernel
theorem dM_count_66 : decode cM_count 66 = .ok (.ireturn, 1) := by decide +kernel
theorem dM_count_67 : decode cM_count 67 = .ok (.aload_n 0, 1) := by decide +kernel
theorem dM_count_68 : decode cM_count 68 = .ok (.getfield 59, 3) := by decide +kernel
theorem dM_count_71 : decode cM_count 71 = .ok (.ireturn, 1) := by decide +kernel
theorem dM_count_72 : decode cM_count 72 = .ok (.iconst 0, 1) := by decide +kernel
theorem dM_count_73 : decode cM_count 73 = .ok (.istore_n 3, 1) := by decide +kernel
theorem dM_count_74 : decode cM_count 74 = .ok (.iload_n 3, 1) := by decide +kernel
theorem dM_count_75 : decode cM_count 75 = .ok (.aload_n 0, 1) := by decide +kernel
theorem dM_count_76 : decode cM_count 76 = .ok (.getfield 66, 3) := by decide +kernel
theorem dM_count_79 : decode cM_count 79 = .ok (.if_icmp .ge 25, 3) := by decide +kernel
theorem dM_count_82 : decode cM_count 82 = .ok (.iload_n 2, 1) := by decide +kernel
theorem dM_count_83 : decode cM_count 83 = .ok (.aload_n 0, 1) := by decide +kernel
theorem dM_count_84 : decode cM_count 84 = .ok (.iload_n 3, 1) := by decide +kernel
theorem dM_count_85 : decode cM_count 85 = .ok (.invokevirtual 96, 3) := by decide +kernel
theorem dM_count_88 : decode cM_count 88 = .ok (.ifCond .eq 7, 3) := by decide +kernel
theorem dM_count_91 : decode cM_count 91 = .ok (.iconst 1, 1) := by decide +kernel
theorem dM_count_92 : decode cM_count 92 = .ok (.goto 4, 3) := by decide +kernel
theorem dM_count_95 : decode cM_count 95 = .ok (.iconst 0, 1) := by decide +kernel
theorem dM_count_96 : decode cM_count 96 = .ok (.iadd, 1) := by decide +kernel
theorem dM_count_97 : decode cM_count 97 = .ok (.istore_n 2, 1) := by decide +kernel
theorem dM_count_98 : decode cM_count 98 = .ok (.iinc 3 1, 3) := by decide +kernel
theorem dM_count_101 : decode cM_count 101 = .ok (.goto (-27), 3) := by decide +kernel
theorem dM_count_104 : decode cM_count 104 = .ok (.iload_n 2, 1) := by decide +kernel
theorem dM_count_105 : decode cM_count 105 = .ok (.ireturn, 1) := by decide +kernel
theorem dM_count_106 : decode cM_count 106 = .ok (.iconst 0, 1) := by decide +kernel
theorem dM_count_107 : decode cM_count 107 = .ok (.istore_n 3, 1) := by decide +kernel
theorem dM_count_108 : decode cM_count 108 = .ok (.iload_n 3, 1) := by decide +kernel
theorem dM_count_109 : decode cM_count 109 = .ok (.aload_n 0, 1) := by decide +kernel
theorem dM_count_110 : decode cM_count 110 = .ok (.getfield 56, 3) := by decide +kernel
theorem dM_count_113 : decode cM_count 113 = .ok (.if_icmp .ge 25, 3) := by decide +kernel
theorem dM_count_116 : decode cM_count 116 = .ok (.iload_n 2, 1) := by decide +kernel
theorem dM_count_117 : decode cM_count 117 = .ok (.aload_n 0, 1) := by decide +kernel
theorem dM_count_118 : decode cM_count 118 = .ok (.iload_n 3, 1) := by decide +kernel
theorem dM_count_119 : decode cM_count 119 = .ok (.invokevirtual 93, 3) := by decide +kernel
theorem dM_count_122 : decode cM_count 122 = .ok (.ifCond .eq 7, 3) := by decide +kernel
theorem dM_count_125 : decode cM_count 125 = .ok (.iconst 0, 1) := by decide +kernel
theorem dM_count_126 : decode cM_count 126 = .ok (.goto 4, 3) := by decide +kernel
theorem dM_count_129 : decode cM_count 129 = .ok (.iconst 1, 1) := by decide +kernel
theorem dM_count_130 : decode cM_count 130 = .ok (.iadd, 1) := by decide +kernel
theorem dM_count_131 : decode cM_count 131 = .ok (.istore_n 2, 1) := by decide +kernel
theorem dM_count_132 : decode cM_count 132 = .ok (.iinc 3 1, 3) := by decide +kernel
theorem dM_count_135 : decode cM_count 135 = .ok (.goto (-27), 3) := by decide +kernel
theorem dM_count_138 : decode cM_count 138 = .ok (.iload_n 2, 1) := by decide +kernel
theorem dM_count_139 : decode cM_count 139 = .ok (.ireturn, 1) := by decide +kernel
theorem dM_count_140 : decode cM_count 140 = .ok (.aload_n 0, 1) := by decide +kernel
theorem dM_count_141 : decode cM_count 141 = .ok (.invokevirtual 69, 3) := by decide +kernel
theorem dM_count_144 : decode cM_count 144 = .ok (.ireturn, 1) := by decide +kernel
theorem dM_count_145 : decode cM_count 145 = .ok (.iconst (-1), 1) := by decide +kernel
theorem dM_count_146 : decode cM_count 146 = .ok (.ireturn, 1) := by decide +kernel
