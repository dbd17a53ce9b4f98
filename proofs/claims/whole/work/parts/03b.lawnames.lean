set_option maxRecDepth 20000 in
theorem gT_X0_init : GoodIn lw_tbl wsX0_init := goodIn_r _ [32, 33, 34, 35, 64, 36, 38, 65, 40, 41, 43, 44, 45, 47, 49, 51, 53, 55, 57, 59, 61] (by decide +kernel) (by decide +kernel)
set_option maxRecDepth 20000 in
theorem gT_M_init : GoodIn lw_tbl wsM_init := goodIn_r _ [186, 65, 189, 193, 194, 195, 196, 197, 198, 199, 202, 203, 204, 205, 206, 187, 34, 35, 207, 209, 211, 213, 215, 217, 219, 221, 223, 225, 227, 229, 231, 233, 235, 237, 239, 241, 243] (by decide +kernel) (by decide +kernel)
set_option maxRecDepth 20000 in
theorem gT_X0_feed : GoodIn lw_tbl (wsV RL 13 RX0 yX0_feed wsX0_feed) := goodIn_r _ [66, 67, 68, 25, 69, 37, 36, 45, 47, 49, 51, 53, 55, 57, 59, 61] (by decide +kernel) (by decide +kernel)
set_option maxRecDepth 20000 in
theorem gT_M_feed : GoodIn lw_tbl (wsV RL 17 RX1 yM_feed wsM_feed) := goodIn_r _ [246, 247, 248, 26, 249, 188, 190, 189, 207, 209, 211, 213, 215, 217, 219, 221, 223, 225, 227, 229, 231, 233, 235, 237, 239, 241, 243] (by decide +kernel) (by decide +kernel)
set_option maxRecDepth 20000 in
theorem gT_X0_put : GoodIn lw_tbl (wsV RL 18 RX0 yX0_put wsX0_put) := goodIn_r _ [70, 71, 72, 25, 73, 74, 37, 42, 40, 39, 41, 75, 77, 0, 25, 78, 79, 81, 1, 82, 38, 83, 85, 2, 86, 36, 87, 89, 3, 90, 91, 92, 93, 94, 96, 4, 97, 98, 100, 5, 101, 102, 104, 6, 105, 106, 45, 47, 49, 51, 53, 55, 57, 59, 61] (by decide +kernel) (by decide +kernel)
set_option maxRecDepth 20000 in
theorem gT_M_put : GoodIn lw_tbl (wsV RL 21 RX1 yM_put wsM_put) := goodIn_r _ [250, 251, 252, 26, 253, 188, 254, 191, 190, 193, 194, 195, 196, 192, 197, 200, 198, 199, 189, 255, 257, 16, 26, 258, 201, 259, 261, 17, 262, 204, 205, 202, 263, 265, 18, 266, 203, 207, 209, 211, 213, 215, 217, 219, 221, 223, 225, 227, 229, 231, 233, 235, 237, 239, 241, 243] (by decide +kernel) (by decide +kernel)
set_option maxRecDepth 20000 in
theorem gT_X0_close : GoodIn lw_tbl (wsV RL 22 RX0 yX0_close wsX0_close) := goodIn_r _ [107, 108, 109, 25, 110, 39, 94, 96, 4, 25, 97, 38, 98, 100, 5, 101, 102, 104, 6, 105, 106, 45, 47, 49, 51, 53, 55, 57, 59, 61] (by decide +kernel) (by decide +kernel)
set_option maxRecDepth 20000 in
theorem gT_M_close : GoodIn lw_tbl (wsV RL 26 RX1 yM_close wsM_close) := goodIn_r _ [267, 268, 269, 26, 270, 188, 201, 202, 200, 263, 265, 18, 26, 266, 203, 207, 209, 211, 213, 215, 217, 219, 221, 223, 225, 227, 229, 231, 233, 235, 237, 239, 241, 243] (by decide +kernel) (by decide +kernel)
set_option maxRecDepth 20000 in
theorem gT_X0_spoil : GoodIn lw_tbl (wsV RL 27 RX0 yX0_spoil wsX0_spoil) := goodIn_r _ [111, 112, 113, 25, 114, 43, 44, 115, 117, 7, 25, 118, 119, 121, 8, 122, 39, 123, 124, 125, 126, 128, 9, 129, 38, 45, 47, 49, 51, 53, 55, 57, 59, 61] (by decide +kernel) (by decide +kernel)
set_option maxRecDepth 20000 in
theorem gT_M_spoil : GoodIn lw_tbl (wsV RL 31 RX1 yM_spoil wsM_spoil) := goodIn_r _ [288, 289, 290, 26, 291, 188, 205, 206, 275, 277, 19, 26, 278, 200, 207, 209, 211, 213, 215, 217, 219, 221, 223, 225, 227, 229, 231, 233, 235, 237, 239, 241, 243] (by decide +kernel) (by decide +kernel)
set_option maxRecDepth 20000 in
theorem gT_X0_heal : GoodIn lw_tbl (wsV RL 32 RX0 yX0_heal wsX0_heal) := goodIn_r _ [130, 131, 132, 25, 133, 43, 44, 115, 117, 7, 25, 118, 119, 121, 8, 122, 39, 126, 128, 9, 129, 38, 45, 47, 49, 51, 53, 55, 57, 59, 61] (by decide +kernel) (by decide +kernel)
set_option maxRecDepth 20000 in
theorem gT_M_heal : GoodIn lw_tbl (wsV RL 36 RX1 yM_heal wsM_heal) := goodIn_r _ [292, 293, 294, 26, 295, 188, 205, 275, 277, 19, 26, 278, 200, 207, 209, 211, 213, 215, 217, 219, 221, 223, 225, 227, 229, 231, 233, 235, 237, 239, 241, 243] (by decide +kernel) (by decide +kernel)
set_option maxRecDepth 20000 in
theorem gT_X0_byteOf : GoodIn lw_tbl (wsV RL 37 RX0 yX0_byteOf wsX0_byteOf) := goodIn_r _ [134, 135, 136, 25, 137, 38, 115, 117, 7, 25, 118, 119, 121, 8, 122, 39, 123, 124, 125, 45, 47, 49, 51, 53, 55, 57, 59, 61] (by decide +kernel) (by decide +kernel)
set_option maxRecDepth 20000 in
theorem gT_M_byteOf : GoodIn lw_tbl (wsV RL 40 RX1 yM_byteOf wsM_byteOf) := goodIn_r _ [271, 272, 273, 26, 274, 188, 205, 206, 275, 277, 19, 26, 278, 200, 279, 281, 20, 282, 287, 283, 285, 21, 286, 203, 204, 202, 207, 209, 211, 213, 215, 217, 219, 221, 223, 225, 227, 229, 231, 233, 235, 237, 239, 241, 243] (by decide +kernel) (by decide +kernel)
set_option maxRecDepth 20000 in
theorem gT_X0_good : GoodIn lw_tbl (wsV RL 41 RX0 yX0_good wsX0_good) := goodIn_r _ [138, 139, 140, 25, 141, 43, 115, 117, 7, 25, 118, 119, 121, 8, 122, 39, 45, 47, 49, 51, 53, 55, 57, 59, 61] (by decide +kernel) (by decide +kernel)
set_option maxRecDepth 20000 in
theorem gT_M_good : GoodIn lw_tbl (wsV RL 44 RX1 yM_good wsM_good) := goodIn_r _ [296, 297, 298, 26, 299, 188, 300, 302, 22, 26, 303, 205, 275, 277, 19, 278, 200, 207, 209, 211, 213, 215, 217, 219, 221, 223, 225, 227, 229, 231, 233, 235, 237, 239, 241, 243] (by decide +kernel) (by decide +kernel)
set_option maxRecDepth 20000 in
theorem gT_X0_read : GoodIn lw_tbl (wsV RL 45 RX0 yX0_read wsX0_read) := goodIn_r _ [142, 143, 144, 25, 145, 41, 40, 146, 148, 10, 25, 149, 42, 150, 152, 11, 153, 154, 139, 140, 141, 43, 115, 117, 7, 118, 119, 121, 8, 122, 39, 155, 157, 12, 158, 38, 91, 92, 93, 159, 161, 13, 162, 45, 47, 49, 51, 53, 55, 57, 59, 61] (by decide +kernel) (by decide +kernel)
set_option maxRecDepth 20000 in
theorem gT_M_read : GoodIn lw_tbl (wsV RL 48 RX1 yM_read wsM_read) := goodIn_r _ [304, 305, 306, 26, 307, 188, 191, 193, 194, 195, 197, 199, 196, 308, 310, 23, 26, 311, 198, 300, 302, 22, 303, 205, 275, 277, 19, 278, 200, 207, 209, 211, 213, 215, 217, 219, 221, 223, 225, 227, 229, 231, 233, 235, 237, 239, 241, 243] (by decide +kernel) (by decide +kernel)
set_option maxRecDepth 20000 in
theorem gT_X0_verify : GoodIn lw_tbl (wsV RL 49 RX0 yX0_verify wsX0_verify) := goodIn_r _ [163, 164, 165, 25, 166, 167, 168, 27, 169, 119, 121, 8, 25, 122, 39, 154, 139, 140, 141, 43, 115, 117, 7, 118, 45, 47, 49, 51, 53, 55, 57, 59, 61] (by decide +kernel) (by decide +kernel)
set_option maxRecDepth 20000 in
theorem gT_M_verify : GoodIn lw_tbl (wsV RL 53 RX1 yM_verify wsM_verify) := goodIn_r _ [312, 313, 314, 26, 315, 188, 200, 300, 302, 22, 26, 303, 205, 275, 277, 19, 278, 207, 209, 211, 213, 215, 217, 219, 221, 223, 225, 227, 229, 231, 233, 235, 237, 239, 241, 243] (by decide +kernel) (by decide +kernel)
set_option maxRecDepth 20000 in
theorem gT_X0_count : GoodIn lw_tbl (wsV RL 54 RX0 yX0_count wsX0_count) := goodIn_r _ [170, 171, 172, 25, 173, 37, 42, 39, 119, 121, 8, 25, 122, 174, 176, 14, 177, 150, 152, 11, 153, 40, 41, 154, 139, 140, 141, 43, 115, 117, 7, 118, 178, 180, 15, 181, 75, 77, 0, 78, 45, 47, 49, 51, 53, 55, 57, 59, 61] (by decide +kernel) (by decide +kernel)
set_option maxRecDepth 20000 in
theorem gT_M_count : GoodIn lw_tbl (wsV RL 57 RX1 yM_count wsM_count) := goodIn_r _ [316, 317, 318, 26, 319, 188, 190, 191, 200, 201, 308, 310, 23, 26, 311, 197, 198, 300, 302, 22, 303, 205, 275, 277, 19, 278, 255, 257, 16, 258, 207, 209, 211, 213, 215, 217, 219, 221, 223, 225, 227, 229, 231, 233, 235, 237, 239, 241, 243] (by decide +kernel) (by decide +kernel)
theorem inT0 : ∀ w ∈ wsX00, w ∈ lw_tbl := by decide +kernel
theorem inT1 : ∀ w ∈ wsX10, w ∈ lw_tbl := by decide +kernel
