/-! ===== THE LAW: its words, chunk by chunk ===== -/
theorem lw_mem {big : List Cond} (ws : List Cond) (ps : List Nat) (h : ws.map some = ps.map (fun i => big[i]?)) : ∀ w ∈ ws, w ∈ big := by
  intro w hw
  have h1 : some w ∈ ws.map some := List.mem_map.mpr ⟨w, hw, rfl⟩
  rw [h] at h1
  obtain ⟨i, -, hi⟩ := List.mem_map.mp h1
  exact List.mem_of_getElem? hi
set_option maxRecDepth 20000 in
set_option maxHeartbeats 4000000 in
theorem lwi_1 : ∀ w ∈ wsL_law_r1, w ∈ lw_tbl := lw_mem _ [39, 40, 27, 534, 535, 32, 41, 42, 43, 44, 45, 46, 47, 48, 28, 156, 157, 108, 109, 30, 158, 128, 129, 31] rfl
set_option maxRecDepth 20000 in
set_option maxHeartbeats 4000000 in
theorem lwi_2 : ∀ w ∈ wsL_law_r2, w ∈ lw_tbl := lw_mem _ [159, 49, 50, 51, 52, 53, 54, 29, 91, 93, 55, 56, 57, 58, 89, 59, 61, 90, 64, 66, 67, 71, 110, 111] rfl
set_option maxRecDepth 20000 in
set_option maxHeartbeats 4000000 in
theorem lwi_3 : ∀ w ∈ wsL_law_r3, w ∈ lw_tbl := lw_mem _ [112, 113, 114, 117, 116, 130, 131, 132, 133, 155, 134, 135, 536, 537, 538, 539, 540, 541, 542, 543, 545, 547, 551, 169] rfl
set_option maxRecDepth 20000 in
set_option maxHeartbeats 4000000 in
theorem lwi_4 : ∀ w ∈ wsL_law_r4, w ∈ lw_tbl := lw_mem _ [170, 171, 172, 173, 174, 175, 176, 95, 97, 177, 178, 179, 180, 181, 183, 182, 33, 68, 184, 185, 186, 187, 69, 195] rfl
set_option maxRecDepth 20000 in
set_option maxHeartbeats 4000000 in
theorem lwi_5 : ∀ w ∈ wsL_law_r5, w ∈ lw_tbl := lw_mem _ [196, 189, 190, 191, 192, 193, 194, 197, 198, 199, 200, 201, 202, 203, 204, 205, 206, 207, 208, 209, 210, 211, 212, 213] rfl
set_option maxRecDepth 20000 in
set_option maxHeartbeats 4000000 in
theorem lwi_6 : ∀ w ∈ wsL_law_r6, w ∈ lw_tbl := lw_mem _ [214, 215, 216, 217, 218, 219, 220, 221, 222, 223, 224, 225, 226, 227, 228, 229, 230, 231, 232, 233, 234, 235, 34, 236] rfl
set_option maxRecDepth 20000 in
set_option maxHeartbeats 4000000 in
theorem lwi_7 : ∀ w ∈ wsL_law_r7, w ∈ lw_tbl := lw_mem _ [237, 238, 239, 240, 241, 242, 243, 244, 245, 246, 248, 0, 249, 250, 251, 252, 253, 120, 118, 259, 260, 261, 254, 255] rfl
set_option maxRecDepth 20000 in
set_option maxHeartbeats 4000000 in
theorem lwi_8 : ∀ w ∈ wsL_law_r8, w ∈ lw_tbl := lw_mem _ [256, 257, 258, 577, 578, 579, 580, 581, 583, 2, 584, 585, 586, 587, 588, 590, 3, 591, 595, 596, 592, 593, 594, 597] rfl
set_option maxRecDepth 20000 in
set_option maxHeartbeats 4000000 in
theorem lwi_9 : ∀ w ∈ wsL_law_r9, w ∈ lw_tbl := lw_mem _ [598, 599, 600, 601, 602, 603, 604, 605, 606, 607, 608, 609, 611, 4, 612, 613, 615, 5, 616, 617, 619, 6, 620, 621] rfl
set_option maxRecDepth 20000 in
set_option maxHeartbeats 4000000 in
theorem lwi_10 : ∀ w ∈ wsL_law_r10, w ∈ lw_tbl := lw_mem _ [623, 7, 624, 625, 627, 8, 628, 544, 262, 263, 264, 265, 266, 267, 268, 269, 270, 271, 272, 273, 274, 275, 276, 277] rfl
set_option maxRecDepth 20000 in
set_option maxHeartbeats 4000000 in
theorem lwi_11 : ∀ w ∈ wsL_law_r11, w ∈ lw_tbl := lw_mem _ [278, 629, 630, 631, 632, 633, 635, 9, 636, 637, 639, 10, 640, 279, 280, 281, 282, 283, 284, 285, 286, 62, 287, 288] rfl
set_option maxRecDepth 20000 in
set_option maxHeartbeats 4000000 in
theorem lwi_12 : ∀ w ∈ wsL_law_r12, w ∈ lw_tbl := lw_mem _ [289, 290, 641, 642, 643, 644, 291, 292, 293, 294, 295, 296, 297, 298, 645, 646, 647, 648, 299, 300, 301, 302, 303, 304] rfl
set_option maxRecDepth 20000 in
set_option maxHeartbeats 4000000 in
theorem lwi_13 : ∀ w ∈ wsL_law_r13, w ∈ lw_tbl := lw_mem _ [305, 306, 72, 307, 308, 309, 310, 649, 650, 651, 652, 311, 312, 313, 314, 315, 316, 317, 318, 319, 653, 654, 655, 656] rfl
set_option maxRecDepth 20000 in
set_option maxHeartbeats 4000000 in
theorem lwi_14 : ∀ w ∈ wsL_law_r14, w ∈ lw_tbl := lw_mem _ [657, 659, 11, 660, 661, 662, 663, 664, 320, 321, 322, 323, 324, 325, 326, 327, 328, 329, 330, 331, 332, 333, 665, 666] rfl
set_option maxRecDepth 20000 in
set_option maxHeartbeats 4000000 in
theorem lwi_15 : ∀ w ∈ wsL_law_r15, w ∈ lw_tbl := lw_mem _ [667, 668, 669, 671, 12, 672, 673, 675, 13, 676, 677, 679, 14, 680, 681, 334, 335, 336, 337, 338, 339, 340, 341, 682] rfl
set_option maxRecDepth 20000 in
set_option maxHeartbeats 4000000 in
theorem lwi_16 : ∀ w ∈ wsL_law_r16, w ∈ lw_tbl := lw_mem _ [683, 684, 685, 686, 688, 15, 689, 342, 343, 344, 345, 119, 346, 347, 348, 349, 350, 690, 691, 692, 693, 351, 352, 353] rfl
set_option maxRecDepth 20000 in
set_option maxHeartbeats 4000000 in
theorem lwi_17 : ∀ w ∈ wsL_law_r17, w ∈ lw_tbl := lw_mem _ [354, 356, 355, 357, 358, 359, 360, 136, 361, 694, 695, 696, 697, 546, 362, 363, 364, 365, 366, 367, 368, 369, 698, 699] rfl
set_option maxRecDepth 20000 in
set_option maxHeartbeats 4000000 in
theorem lwi_18 : ∀ w ∈ wsL_law_r18, w ∈ lw_tbl := lw_mem _ [700, 701, 370, 371, 372, 373, 141, 374, 375, 376, 377, 138, 139, 140, 378, 379, 380, 381, 382, 383, 384, 385, 390, 386] rfl
set_option maxRecDepth 20000 in
set_option maxHeartbeats 4000000 in
theorem lwi_19 : ∀ w ∈ wsL_law_r19, w ∈ lw_tbl := lw_mem _ [387, 388, 389, 391, 392, 393, 394, 395, 396, 397, 398, 399, 400, 401, 402, 403, 410, 411, 412, 413, 414, 415, 416, 35] rfl
set_option maxRecDepth 20000 in
set_option maxHeartbeats 4000000 in
theorem lwi_20 : ∀ w ∈ wsL_law_r20, w ∈ lw_tbl := lw_mem _ [417, 781, 418, 419, 420, 421, 422, 782, 424, 425, 426, 427, 428, 429, 430, 431, 432, 433, 36, 434, 435, 436, 437, 438] rfl
set_option maxRecDepth 20000 in
set_option maxHeartbeats 4000000 in
theorem lwi_21 : ∀ w ∈ wsL_law_r21, w ∈ lw_tbl := lw_mem _ [440, 441, 37, 442, 443, 444, 38, 445, 446, 447, 448, 449, 450, 451, 452, 453, 454, 455, 456, 458, 460, 462, 463, 464] rfl
set_option maxRecDepth 20000 in
set_option maxHeartbeats 4000000 in
theorem lwi_22 : ∀ w ∈ wsL_law_r22, w ∈ lw_tbl := lw_mem _ [465, 466, 468, 1, 469, 470, 471, 472, 473, 702, 703, 704, 705, 548, 706, 708, 16, 709, 549, 710, 712, 17, 713, 714] rfl
set_option maxRecDepth 20000 in
set_option maxHeartbeats 4000000 in
theorem lwi_23 : ∀ w ∈ wsL_law_r23, w ∈ lw_tbl := lw_mem _ [716, 18, 717, 550, 718, 720, 19, 721, 722, 723, 724, 725, 727, 20, 728, 729, 731, 21, 732, 475, 476, 477, 478, 92] rfl
set_option maxRecDepth 20000 in
set_option maxHeartbeats 4000000 in
theorem lwi_24 : ∀ w ∈ wsL_law_r24, w ∈ lw_tbl := lw_mem _ [70, 483, 96, 98, 94, 73, 137, 479, 480, 481, 482, 484, 485, 486, 487, 488, 489, 490, 491, 492, 493, 733, 734, 735] rfl
set_option maxRecDepth 20000 in
set_option maxHeartbeats 4000000 in
theorem lwi_25 : ∀ w ∈ wsL_law_r25, w ∈ lw_tbl := lw_mem _ [736, 737, 739, 22, 740, 741, 743, 23, 744, 745, 747, 24, 748, 749, 751, 25, 752, 494, 495, 496, 497, 60, 63, 65] rfl
set_option maxRecDepth 20000 in
set_option maxHeartbeats 4000000 in
theorem lwi_26 : ∀ w ∈ wsL_law_r26, w ∈ lw_tbl := lw_mem _ [498, 499, 500, 501, 502, 503, 504, 753, 754, 755, 756, 505, 506, 507, 508, 509, 757, 758, 759, 760, 510, 511, 512, 513] rfl
set_option maxRecDepth 20000 in
set_option maxHeartbeats 4000000 in
theorem lwi_27 : ∀ w ∈ wsL_law_r27, w ∈ lw_tbl := lw_mem _ [761, 762, 763, 764, 514, 515, 516, 517, 765, 766, 767, 768, 518, 519, 520, 521, 769, 770, 771, 772, 522, 523, 524, 525] rfl
set_option maxRecDepth 20000 in
set_option maxHeartbeats 4000000 in
theorem lwi_28 : ∀ w ∈ wsL_law_r28, w ∈ lw_tbl := lw_mem _ [526, 527, 528, 529, 773, 774, 775, 776, 530, 531, 532, 533, 777, 778, 779, 780] rfl
theorem lwt_X0 : ∀ w ∈ wsX00, w ∈ lw_tbl := by decide +kernel
theorem lwt_X1 : ∀ w ∈ wsX10, w ∈ lw_tbl := by decide +kernel
theorem lwt_X2 : ∀ w ∈ wsX20, w ∈ lw_tbl := by decide +kernel
theorem lwt_X3 : ∀ w ∈ wsX30, w ∈ lw_tbl := by decide +kernel
theorem lwt_X4 : ∀ w ∈ wsX40, w ∈ lw_tbl := by decide +kernel
theorem lwt_X5 : ∀ w ∈ wsX50, w ∈ lw_tbl := by decide +kernel
theorem lw_mapp {a b : List Cond} {big : List Cond} (h1 : ∀ w ∈ a, w ∈ big) (h2 : ∀ w ∈ b, w ∈ big) : ∀ w ∈ a ++ b, w ∈ big := fun w h => (List.mem_append.mp h).elim (h1 w) (h2 w)
theorem wsL_law_in : ∀ w ∈ wsL_law, w ∈ lw_tbl := lw_mapp (lw_mapp (lw_mapp (lw_mapp (lw_mapp (lw_mapp (lw_mapp (lw_mapp lwi_1 (lw_mapp lwi_2 (lw_mapp lwi_3 (lw_mapp lwi_4 (lw_mapp lwi_5 (lw_mapp lwi_6 (lw_mapp lwi_7 (lw_mapp lwi_8 (lw_mapp lwi_9 (lw_mapp lwi_10 (lw_mapp lwi_11 (lw_mapp lwi_12 (lw_mapp lwi_13 (lw_mapp lwi_14 (lw_mapp lwi_15 (lw_mapp lwi_16 (lw_mapp lwi_17 (lw_mapp lwi_18 (lw_mapp lwi_19 (lw_mapp lwi_20 (lw_mapp lwi_21 (lw_mapp lwi_22 (lw_mapp lwi_23 (lw_mapp lwi_24 (lw_mapp lwi_25 (lw_mapp lwi_26 (lw_mapp lwi_27 lwi_28))))))))))))))))))))))))))) lwt_X4) lwt_X5) lwt_X3) lwt_X0) lwt_X2) lwt_X1) (fun _ h => absurd h List.not_mem_nil)
theorem inlX0 : ∀ w ∈ wsX00, w ∈ wsL_law := fun _ h => List.mem_append_left _ (List.mem_append_left _ (List.mem_append_left _ (List.mem_append_right _ h)))
theorem inlX1 : ∀ w ∈ wsX10, w ∈ wsL_law := fun _ h => List.mem_append_left _ (List.mem_append_right _ h)
theorem inlX2 : ∀ w ∈ wsX20, w ∈ wsL_law := fun _ h => List.mem_append_left _ (List.mem_append_left _ (List.mem_append_right _ h))
theorem inlX3 : ∀ w ∈ wsX30, w ∈ wsL_law := fun _ h => List.mem_append_left _ (List.mem_append_left _ (List.mem_append_left _ (List.mem_append_left _ (List.mem_append_right _ h))))
theorem inlX4 : ∀ w ∈ wsX40, w ∈ wsL_law := fun _ h => List.mem_append_left _ (List.mem_append_left _ (List.mem_append_left _ (List.mem_append_left _ (List.mem_append_left _ (List.mem_append_left _ (List.mem_append_right _ h))))))
theorem inlX5 : ∀ w ∈ wsX50, w ∈ wsL_law := fun _ h => List.mem_append_left _ (List.mem_append_left _ (List.mem_append_left _ (List.mem_append_left _ (List.mem_append_left _ (List.mem_append_right _ h)))))
