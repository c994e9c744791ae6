/-! the law's words, by their places among the tables' -/
theorem mem_app {a b big : List Cond} (ha : ∀ w ∈ a, w ∈ big) (hb : ∀ w ∈ b, w ∈ big) : ∀ w ∈ a ++ b, w ∈ big := fun w h => (List.mem_append.mp h).elim (ha w) (hb w)
set_option maxRecDepth 20000 in
theorem wl_1 : ∀ w ∈ wsL_law_r1, w ∈ lw_tbl := fun w h => (goodIn_r wsL_law_r1 [24, 25, 16, 291, 292, 21, 26, 27, 28, 29, 30, 31, 32, 108, 34, 17, 49, 109, 51, 18, 84, 85, 19, 110] (by decide +kernel) (by decide +kernel) w h).1
set_option maxRecDepth 20000 in
theorem wl_2 : ∀ w ∈ wsL_law_r2, w ∈ lw_tbl := fun w h => (goodIn_r wsL_law_r2 [111, 36, 37, 38, 53, 54, 55, 86, 87, 88, 89, 90, 91, 20, 92, 93, 94, 107, 95, 293, 294, 295, 296, 297] (by decide +kernel) (by decide +kernel) w h).1
set_option maxRecDepth 20000 in
theorem wl_3 : ∀ w ∈ wsL_law_r3, w ∈ lw_tbl := fun w h => (goodIn_r wsL_law_r3 [298, 346, 299, 301, 302, 303, 304, 305, 306, 307, 308, 309, 311, 121, 122, 123, 124, 125, 127, 0, 128, 57, 59, 60] (by decide +kernel) (by decide +kernel) w h).1
set_option maxRecDepth 20000 in
theorem wl_4 : ∀ w ∈ wsL_law_r4, w ∈ lw_tbl := fun w h => (goodIn_r wsL_law_r4 [61, 64, 65, 129, 130, 131, 132, 134, 1, 135, 97, 136, 137, 138, 139, 56, 62, 140, 142, 2, 143, 144, 146, 3] (by decide +kernel) (by decide +kernel) w h).1
set_option maxRecDepth 20000 in
theorem wl_5 : ∀ w ∈ wsL_law_r5, w ∈ lw_tbl := fun w h => (goodIn_r wsL_law_r5 [147, 148, 149, 150, 151, 96, 152, 153, 154, 155, 156, 157, 158, 159, 160, 161, 162, 163, 347, 348, 349, 350, 351, 353] (by decide +kernel) (by decide +kernel) w h).1
set_option maxRecDepth 20000 in
theorem wl_6 : ∀ w ∈ wsL_law_r6, w ∈ lw_tbl := fun w h => (goodIn_r wsL_law_r6 [11, 354, 310, 355, 356, 357, 358, 360, 12, 361, 362, 364, 13, 365, 164, 165, 166, 167, 366, 367, 368, 369, 168, 169] (by decide +kernel) (by decide +kernel) w h).1
set_option maxRecDepth 20000 in
theorem wl_7 : ∀ w ∈ wsL_law_r7, w ∈ lw_tbl := fun w h => (goodIn_r wsL_law_r7 [170, 171, 370, 371, 372, 373, 172, 173, 174, 175, 176, 177, 178, 179, 180, 181, 182, 183, 184, 185, 186, 187, 188, 190] (by decide +kernel) (by decide +kernel) w h).1
set_option maxRecDepth 20000 in
theorem wl_8 : ∀ w ∈ wsL_law_r8, w ∈ lw_tbl := fun w h => (goodIn_r wsL_law_r8 [189, 22, 191, 193, 4, 194, 41, 39, 40, 195, 197, 5, 198, 199, 200, 201, 202, 58, 203, 204, 205, 206, 207, 208] (by decide +kernel) (by decide +kernel) w h).1
set_option maxRecDepth 20000 in
theorem wl_9 : ∀ w ∈ wsL_law_r9, w ∈ lw_tbl := fun w h => (goodIn_r wsL_law_r9 [209, 210, 211, 212, 23, 213, 214, 215, 216, 217, 219, 6, 220, 66, 221, 222, 224, 7, 225, 226, 228, 8, 229, 230] (by decide +kernel) (by decide +kernel) w h).1
set_option maxRecDepth 20000 in
theorem wl_10 : ∀ w ∈ wsL_law_r10, w ∈ lw_tbl := fun w h => (goodIn_r wsL_law_r10 [232, 9, 233, 374, 375, 376, 377, 312, 378, 380, 14, 381, 382, 383, 384, 234, 235, 236, 237, 385, 386, 387, 388, 238] (by decide +kernel) (by decide +kernel) w h).1
set_option maxRecDepth 20000 in
theorem wl_11 : ∀ w ∈ wsL_law_r11, w ∈ lw_tbl := fun w h => (goodIn_r wsL_law_r11 [239, 240, 241, 242, 243, 244, 245, 246, 389, 390, 391, 392, 247, 248, 249, 250, 251, 253, 10, 254, 393, 394, 395, 396] (by decide +kernel) (by decide +kernel) w h).1
set_option maxRecDepth 20000 in
theorem wl_12 : ∀ w ∈ wsL_law_r12, w ∈ lw_tbl := fun w h => (goodIn_r wsL_law_r12 [300, 255, 256, 257, 258, 397, 398, 399, 400, 259, 260, 261, 262, 401, 402, 403, 404, 263, 264, 265, 266, 405, 406, 407] (by decide +kernel) (by decide +kernel) w h).1
set_option maxRecDepth 20000 in
theorem wl_13 : ∀ w ∈ wsL_law_r13, w ∈ lw_tbl := fun w h => (goodIn_r wsL_law_r13 [408, 267, 268, 269, 270, 409, 410, 411, 412, 271, 272, 273, 274, 413, 414, 415, 416, 275, 276, 277, 278, 417, 418, 419] (by decide +kernel) (by decide +kernel) w h).1
set_option maxRecDepth 20000 in
theorem wl_14 : ∀ w ∈ wsL_law_r14, w ∈ lw_tbl := fun w h => (goodIn_r wsL_law_r14 [420, 279, 280, 281, 282, 63, 421, 422, 423, 424, 283, 284, 285, 286, 425, 426, 427, 428, 287, 288, 289, 290, 429, 430] (by decide +kernel) (by decide +kernel) w h).1
set_option maxRecDepth 20000 in
theorem wl_15 : ∀ w ∈ wsL_law_r15, w ∈ lw_tbl := fun w h => (goodIn_r wsL_law_r15 [431, 432] (by decide +kernel) (by decide +kernel) w h).1
set_option maxRecDepth 20000 in
theorem inX3 : ∀ w ∈ wsX30, w ∈ lw_tbl := fun w h => (goodIn_r wsX30 [112, 114, 116, 118] (by decide +kernel) (by decide +kernel) w h).1
set_option maxRecDepth 20000 in
theorem inX4 : ∀ w ∈ wsX40, w ∈ lw_tbl := fun w h => (goodIn_r wsX40 [313, 315, 317, 319, 321, 323, 325, 327, 329, 331, 333, 335, 337, 339, 341, 343] (by decide +kernel) (by decide +kernel) w h).1
set_option maxRecDepth 20000 in
theorem inX1 : ∀ w ∈ wsX10, w ∈ lw_tbl := fun w h => (goodIn_r wsX10 [42, 44, 46] (by decide +kernel) (by decide +kernel) w h).1
set_option maxRecDepth 20000 in
theorem inX0 : ∀ w ∈ wsX00, w ∈ lw_tbl := fun w h => (goodIn_r wsX00 [67, 69, 71, 73, 75, 77, 79, 81] (by decide +kernel) (by decide +kernel) w h).1
set_option maxRecDepth 20000 in
theorem inX2 : ∀ w ∈ wsX20, w ∈ lw_tbl := fun w h => (goodIn_r wsX20 [98, 100, 102, 104] (by decide +kernel) (by decide +kernel) w h).1
theorem wsL_law_in : ∀ w ∈ wsL_law, w ∈ lw_tbl := mem_app (mem_app (mem_app (mem_app (mem_app (mem_app (mem_app wl_1 (mem_app wl_2 (mem_app wl_3 (mem_app wl_4 (mem_app wl_5 (mem_app wl_6 (mem_app wl_7 (mem_app wl_8 (mem_app wl_9 (mem_app wl_10 (mem_app wl_11 (mem_app wl_12 (mem_app wl_13 (mem_app wl_14 wl_15)))))))))))))) inX3) inX4) inX1) inX0) inX2) (fun _ h => absurd h List.not_mem_nil)
