/-! ===== THE LAW: its words, chunk by chunk ===== -/
set_option maxRecDepth 20000 in
set_option maxHeartbeats 4000000 in
theorem lwi_1 : ∀ w ∈ wsL_law_r1, w ∈ lw_tbl := lw_mem _ [9, 10, 2, 371, 385, 11, 12, 13, 14, 15, 16, 17, 18, 3, 121, 122, 78, 79, 5, 123, 98, 99, 6, 124] rfl
set_option maxRecDepth 20000 in
set_option maxHeartbeats 4000000 in
theorem lwi_2 : ∀ w ∈ wsL_law_r2, w ∈ lw_tbl := lw_mem _ [19, 20, 21, 22, 23, 24, 4, 61, 63, 25, 26, 27, 28, 59, 29, 31, 60, 34, 36, 37, 41, 80, 81, 82] rfl
set_option maxRecDepth 20000 in
set_option maxHeartbeats 4000000 in
theorem lwi_3 : ∀ w ∈ wsL_law_r3, w ∈ lw_tbl := lw_mem _ [83, 84, 87, 86, 100, 101, 102, 103, 120, 104, 105, 363, 364, 1, 365, 366, 316, 317, 318, 319, 62, 40, 324, 66] rfl
set_option maxRecDepth 20000 in
set_option maxHeartbeats 4000000 in
theorem lwi_4 : ∀ w ∈ wsL_law_r4, w ∈ lw_tbl := lw_mem _ [68, 64, 43, 89, 106, 335, 320, 321, 322, 323, 325, 203, 204, 205, 38, 206, 207, 208, 209, 210, 188, 189, 190, 178] rfl
set_option maxRecDepth 20000 in
set_option maxHeartbeats 4000000 in
theorem lwi_5 : ∀ w ∈ wsL_law_r5, w ∈ lw_tbl := lw_mem _ [179, 180, 181, 183, 184, 185, 186, 191, 192, 193, 194, 326, 327, 328, 329, 65, 67, 298, 330, 331, 332, 333, 334, 39] rfl
set_option maxRecDepth 20000 in
set_option maxHeartbeats 4000000 in
theorem lwi_6 : ∀ w ∈ wsL_law_r6, w ∈ lw_tbl := lw_mem _ [187, 367, 368, 369, 370, 347, 348, 349, 350, 351, 154, 155, 352, 294, 295, 296, 297, 276, 277, 278, 279, 138, 139, 140] rfl
set_option maxRecDepth 20000 in
set_option maxHeartbeats 4000000 in
theorem lwi_7 : ∀ w ∈ wsL_law_r7, w ∈ lw_tbl := lw_mem _ [141, 142, 143, 144, 145, 146, 148, 147, 7, 280, 281, 282, 283, 160, 284, 195, 196, 197, 198, 199, 200, 8, 201, 174] rfl
set_option maxRecDepth 20000 in
set_option maxHeartbeats 4000000 in
theorem lwi_8 : ∀ w ∈ wsL_law_r8, w ∈ lw_tbl := lw_mem _ [175, 176, 177, 182, 157, 158, 159, 166, 167, 168, 169, 170, 171, 172, 173, 211, 213, 0, 214, 215, 216, 217, 218, 90] rfl
set_option maxRecDepth 20000 in
set_option maxHeartbeats 4000000 in
theorem lwi_9 : ∀ w ∈ wsL_law_r9, w ∈ lw_tbl := lw_mem _ [88, 224, 225, 226, 219, 220, 221, 222, 223, 285, 286, 287, 288, 289, 290, 291, 292, 202, 293, 372, 373, 374, 336, 337] rfl
set_option maxRecDepth 20000 in
set_option maxHeartbeats 4000000 in
theorem lwi_10 : ∀ w ∈ wsL_law_r10, w ∈ lw_tbl := lw_mem _ [338, 339, 30, 33, 35, 340, 341, 342, 343, 344, 345, 346, 375, 376, 377, 378, 379, 380, 381, 307, 308, 309, 310, 311] rfl
set_option maxRecDepth 20000 in
set_option maxHeartbeats 4000000 in
theorem lwi_11 : ∀ w ∈ wsL_law_r11, w ∈ lw_tbl := lw_mem _ [312, 313, 314, 315, 360, 361, 362, 353, 354, 355, 356, 357, 358, 359, 134, 135, 136, 137, 149, 150, 151, 152, 161, 156] rfl
set_option maxRecDepth 20000 in
set_option maxHeartbeats 4000000 in
theorem lwi_12 : ∀ w ∈ wsL_law_r12, w ∈ lw_tbl := lw_mem _ [162, 163, 164, 165, 382, 383, 384, 227, 228, 229, 230, 231, 232, 233, 234, 235, 236, 237, 238, 239, 240, 241, 242, 243] rfl
set_option maxRecDepth 20000 in
set_option maxHeartbeats 4000000 in
theorem lwi_13 : ∀ w ∈ wsL_law_r13, w ∈ lw_tbl := lw_mem _ [244, 245, 246, 247, 248, 249, 250, 251, 32, 252, 253, 254, 255, 256, 257, 258, 259, 260, 261, 262, 263, 264, 265, 266] rfl
set_option maxRecDepth 20000 in
set_option maxHeartbeats 4000000 in
theorem lwi_14 : ∀ w ∈ wsL_law_r14, w ∈ lw_tbl := lw_mem _ [267, 268, 269, 270, 271, 42, 272, 273, 274, 275, 299, 300, 301, 302, 303, 304, 305, 306, 386, 387, 388] rfl
theorem lwt_X0 : ∀ w ∈ wsX00, w ∈ lw_tbl := by decide +kernel
theorem lwt_X1 : ∀ w ∈ wsX10, w ∈ lw_tbl := by decide +kernel
theorem lwt_X2 : ∀ w ∈ wsX20, w ∈ lw_tbl := by decide +kernel
theorem lwt_X3 : ∀ w ∈ wsX30, w ∈ lw_tbl := by decide +kernel
theorem lwt_X4 : ∀ w ∈ wsX40, w ∈ lw_tbl := by decide +kernel
theorem lw_mapp {a b : List Cond} {big : List Cond} (h1 : ∀ w ∈ a, w ∈ big) (h2 : ∀ w ∈ b, w ∈ big) : ∀ w ∈ a ++ b, w ∈ big := fun w h => (List.mem_append.mp h).elim (h1 w) (h2 w)
theorem wsL_law_in : ∀ w ∈ wsL_law, w ∈ lw_tbl := lw_mapp (lw_mapp (lw_mapp (lw_mapp (lw_mapp (lw_mapp (lw_mapp lwi_1 (lw_mapp lwi_2 (lw_mapp lwi_3 (lw_mapp lwi_4 (lw_mapp lwi_5 (lw_mapp lwi_6 (lw_mapp lwi_7 (lw_mapp lwi_8 (lw_mapp lwi_9 (lw_mapp lwi_10 (lw_mapp lwi_11 (lw_mapp lwi_12 (lw_mapp lwi_13 lwi_14))))))))))))) lwt_X4) lwt_X3) lwt_X0) lwt_X2) lwt_X1) (fun _ h => absurd h List.not_mem_nil)
theorem inlX0 : ∀ w ∈ wsX00, w ∈ wsL_law := fun _ h => List.mem_append_left _ (List.mem_append_left _ (List.mem_append_left _ (List.mem_append_right _ h)))
theorem inlX1 : ∀ w ∈ wsX10, w ∈ wsL_law := fun _ h => List.mem_append_left _ (List.mem_append_right _ h)
theorem inlX2 : ∀ w ∈ wsX20, w ∈ wsL_law := fun _ h => List.mem_append_left _ (List.mem_append_left _ (List.mem_append_right _ h))
theorem inlX3 : ∀ w ∈ wsX30, w ∈ wsL_law := fun _ h => List.mem_append_left _ (List.mem_append_left _ (List.mem_append_left _ (List.mem_append_left _ (List.mem_append_right _ h))))
theorem inlX4 : ∀ w ∈ wsX40, w ∈ wsL_law := fun _ h => List.mem_append_left _ (List.mem_append_left _ (List.mem_append_left _ (List.mem_append_left _ (List.mem_append_left _ (List.mem_append_right _ h)))))
