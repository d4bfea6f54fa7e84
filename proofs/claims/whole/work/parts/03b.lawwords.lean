theorem wsL_mem {big : List Cond} (ws : List Cond) (ps : List Nat) (hp : ws = ps.filterMap (fun i => big[i]?)) : ∀ w ∈ ws, w ∈ big := by
  intro w hw
  rw [hp] at hw
  obtain ⟨i, -, hi⟩ := List.mem_filterMap.mp hw
  exact List.mem_of_getElem? hi
set_option maxRecDepth 20000 in
theorem wsL_in_r1 : ∀ w ∈ wsL_law0_r1, w ∈ lw_tbl := wsL_mem wsL_law0_r1 [62, 63, 52, 496, 497, 53, 744, 64, 65, 66, 67, 68, 69, 70, 71, 110, 72, 73, 74, 75, 76, 77, 78, 111] (by decide +kernel)
set_option maxRecDepth 20000 in
theorem wsL_in_r2 : ∀ w ∈ wsL_law0_r2, w ∈ lw_tbl := wsL_mem wsL_law0_r2 [79, 80, 81, 82, 498, 499, 500, 501, 504, 505, 506, 507, 508, 509, 510, 502, 204, 205, 51, 206, 207, 208, 209, 210] (by decide +kernel)
set_option maxRecDepth 20000 in
theorem wsL_in_r3 : ∀ w ∈ wsL_law0_r3, w ∈ lw_tbl := wsL_mem wsL_law0_r3 [211, 212, 57, 280, 282, 15, 283, 537, 538, 539, 540, 503, 533, 534, 535, 536, 284, 285, 286, 287, 288, 289, 290, 291] (by decide +kernel)
set_option maxRecDepth 20000 in
theorem wsL_in_r4 : ∀ w ∈ wsL_law0_r4, w ∈ lw_tbl := wsL_mem wsL_law0_r4 [292, 58, 136, 137, 138, 541, 542, 543, 544, 545, 546, 547, 308, 309, 310, 311, 312, 313, 314, 315, 316, 318, 16, 319] (by decide +kernel)
set_option maxRecDepth 20000 in
theorem wsL_in_r5 : ∀ w ∈ wsL_law0_r5, w ∈ lw_tbl := wsL_mem wsL_law0_r5 [320, 59, 336, 338, 17, 339, 548, 549, 550, 551, 552, 554, 26, 555, 556, 558, 27, 559, 342, 343, 344, 345, 346, 347] (by decide +kernel)
set_option maxRecDepth 20000 in
theorem wsL_in_r6 : ∀ w ∈ wsL_law0_r6, w ∈ lw_tbl := wsL_mem wsL_law0_r6 [348, 560, 561, 562, 563, 564, 566, 28, 567, 112, 113, 114, 115, 568, 569, 570, 571, 116, 117, 118, 119, 572, 573, 574] (by decide +kernel)
set_option maxRecDepth 20000 in
theorem wsL_in_r7 : ∀ w ∈ wsL_law0_r7, w ∈ lw_tbl := wsL_mem wsL_law0_r7 [575, 349, 350, 351, 352, 353, 354, 355, 356, 358, 18, 359, 576, 577, 578, 579, 361, 362, 363, 364, 365, 366, 367, 368] (by decide +kernel)
set_option maxRecDepth 20000 in
theorem wsL_in_r8 : ∀ w ∈ wsL_law0_r8, w ∈ lw_tbl := wsL_mem wsL_law0_r8 [370, 19, 371, 150, 151, 152, 580, 581, 582, 583, 584, 586, 29, 587, 588, 590, 30, 591, 592, 594, 31, 595, 596, 598] (by decide +kernel)
set_option maxRecDepth 20000 in
theorem wsL_in_r9 : ∀ w ∈ wsL_law0_r9, w ∈ lw_tbl := wsL_mem wsL_law0_r9 [32, 599, 372, 373, 374, 375, 376, 377, 378, 143, 145, 4, 146, 147, 149, 148, 60, 153, 155, 5, 156, 165, 166, 61] (by decide +kernel)
set_option maxRecDepth 20000 in
theorem wsL_in_r10 : ∀ w ∈ wsL_law0_r10, w ∈ lw_tbl := wsL_mem wsL_law0_r10 [167, 157, 159, 6, 160, 161, 163, 7, 164, 132, 134, 2, 135, 168, 170, 8, 171, 600, 601, 602, 603, 604, 606, 33] (by decide +kernel)
set_option maxRecDepth 20000 in
theorem wsL_in_r11 : ∀ w ∈ wsL_law0_r11, w ∈ lw_tbl := wsL_mem wsL_law0_r11 [607, 608, 610, 34, 611, 612, 614, 35, 615, 616, 618, 36, 619, 620, 622, 37, 623, 379, 380, 381, 382, 383, 384, 385] (by decide +kernel)
set_option maxRecDepth 20000 in
theorem wsL_in_r12 : ∀ w ∈ wsL_law0_r12, w ∈ lw_tbl := wsL_mem wsL_law0_r12 [387, 389, 20, 390, 391, 393, 21, 394, 172, 174, 9, 175, 624, 625, 626, 627, 628, 630, 38, 631, 632, 634, 39, 635] (by decide +kernel)
set_option maxRecDepth 20000 in
theorem wsL_in_r13 : ∀ w ∈ wsL_law0_r13, w ∈ lw_tbl := wsL_mem wsL_law0_r13 [120, 121, 122, 123, 124, 126, 0, 127, 128, 130, 1, 131, 139, 141, 3, 142, 636, 637, 638, 639, 648, 640, 642, 40] (by decide +kernel)
set_option maxRecDepth 20000 in
theorem wsL_in_r14 : ∀ w ∈ wsL_law0_r14, w ∈ lw_tbl := wsL_mem wsL_law0_r14 [643, 644, 646, 41, 647, 649, 651, 42, 652, 653, 655, 43, 656, 176, 177, 178, 179, 657, 658, 659, 660, 395, 396, 397] (by decide +kernel)
set_option maxRecDepth 20000 in
theorem wsL_in_r15 : ∀ w ∈ wsL_law0_r15, w ∈ lw_tbl := wsL_mem wsL_law0_r15 [398, 399, 400, 401, 402, 403, 404, 661, 662, 663, 664, 665, 666, 667, 406, 407, 408, 409, 410, 411, 412, 668, 669, 670] (by decide +kernel)
set_option maxRecDepth 20000 in
theorem wsL_in_r16 : ∀ w ∈ wsL_law0_r16, w ∈ lw_tbl := wsL_mem wsL_law0_r16 [671, 180, 181, 182, 183, 672, 673, 674, 675, 413, 414, 415, 416, 417, 418, 419, 676, 677, 678, 679, 420, 421, 422, 423] (by decide +kernel)
set_option maxRecDepth 20000 in
theorem wsL_in_r17 : ∀ w ∈ wsL_law0_r17, w ∈ lw_tbl := wsL_mem wsL_law0_r17 [424, 425, 426, 427, 429, 22, 430, 680, 681, 682, 683, 684, 686, 44, 687, 431, 432, 433, 434, 435, 436, 437, 688, 689] (by decide +kernel)
set_option maxRecDepth 20000 in
theorem wsL_in_r18 : ∀ w ∈ wsL_law0_r18, w ∈ lw_tbl := wsL_mem wsL_law0_r18 [690, 691, 438, 439, 440, 441, 442, 443, 444, 445, 447, 23, 448, 692, 693, 694, 695, 449, 450, 451, 452, 453, 454, 455] (by decide +kernel)
set_option maxRecDepth 20000 in
theorem wsL_in_r19 : ∀ w ∈ wsL_law0_r19, w ∈ lw_tbl := wsL_mem wsL_law0_r19 [456, 458, 24, 459, 460, 461, 462, 696, 697, 698, 699, 700, 702, 45, 703, 463, 464, 465, 466, 467, 468, 469, 471, 473] (by decide +kernel)
set_option maxRecDepth 20000 in
theorem wsL_in_r20 : ∀ w ∈ wsL_law0_r20, w ∈ lw_tbl := wsL_mem wsL_law0_r20 [25, 474, 704, 705, 706, 707, 708, 710, 46, 711, 712, 714, 47, 715, 716, 718, 48, 719, 720, 722, 49, 723, 475, 476] (by decide +kernel)
set_option maxRecDepth 20000 in
theorem wsL_in_r21 : ∀ w ∈ wsL_law0_r21, w ∈ lw_tbl := wsL_mem wsL_law0_r21 [477, 478, 479, 480, 481, 188, 190, 10, 191, 192, 194, 11, 195, 196, 198, 12, 199, 200, 202, 13, 203, 724, 725, 726] (by decide +kernel)
set_option maxRecDepth 20000 in
theorem wsL_in_r22 : ∀ w ∈ wsL_law0_r22, w ∈ lw_tbl := wsL_mem wsL_law0_r22 [727, 728, 730, 50, 731, 511, 482, 483, 484, 485, 486, 487, 488, 732, 733, 734, 735, 489, 490, 491, 492, 493, 494, 495] (by decide +kernel)
set_option maxRecDepth 20000 in
theorem wsL_in_r23 : ∀ w ∈ wsL_law0_r23, w ∈ lw_tbl := wsL_mem wsL_law0_r23 [736, 737, 738, 739, 184, 185, 186, 187, 740, 741, 742, 743] (by decide +kernel)
theorem wsL_x00 : ∀ w ∈ wsX00, w ∈ lw_tbl := by decide +kernel
theorem wsL_x10 : ∀ w ∈ wsX10, w ∈ lw_tbl := by decide +kernel
theorem wsL_law_in0 : ∀ w ∈ wsL_law0, w ∈ lw_tbl := List.forall_mem_append.mpr ⟨List.forall_mem_append.mpr ⟨List.forall_mem_append.mpr ⟨List.forall_mem_append.mpr ⟨wsL_in_r1, List.forall_mem_append.mpr ⟨wsL_in_r2, List.forall_mem_append.mpr ⟨wsL_in_r3, List.forall_mem_append.mpr ⟨wsL_in_r4, List.forall_mem_append.mpr ⟨wsL_in_r5, List.forall_mem_append.mpr ⟨wsL_in_r6, List.forall_mem_append.mpr ⟨wsL_in_r7, List.forall_mem_append.mpr ⟨wsL_in_r8, List.forall_mem_append.mpr ⟨wsL_in_r9, List.forall_mem_append.mpr ⟨wsL_in_r10, List.forall_mem_append.mpr ⟨wsL_in_r11, List.forall_mem_append.mpr ⟨wsL_in_r12, List.forall_mem_append.mpr ⟨wsL_in_r13, List.forall_mem_append.mpr ⟨wsL_in_r14, List.forall_mem_append.mpr ⟨wsL_in_r15, List.forall_mem_append.mpr ⟨wsL_in_r16, List.forall_mem_append.mpr ⟨wsL_in_r17, List.forall_mem_append.mpr ⟨wsL_in_r18, List.forall_mem_append.mpr ⟨wsL_in_r19, List.forall_mem_append.mpr ⟨wsL_in_r20, List.forall_mem_append.mpr ⟨wsL_in_r21, List.forall_mem_append.mpr ⟨wsL_in_r22, wsL_in_r23⟩⟩⟩⟩⟩⟩⟩⟩⟩⟩⟩⟩⟩⟩⟩⟩⟩⟩⟩⟩⟩⟩, wsL_x00⟩, wsL_x10⟩, fun _ h => absurd h List.not_mem_nil⟩
theorem wsL_law_x0 : ∀ w ∈ (vx_atS RX0 55 "java/lang/IllegalStateException" ["java/lang/RuntimeException", "java/lang/Exception"]).filter goodWord, w ∈ lw_tbl := by decide +kernel
theorem wsL_law_x1 : ∀ w ∈ (vx_atS RX0 65 "java/lang/IllegalArgumentException" ["java/lang/RuntimeException", "java/lang/Exception"]).filter goodWord, w ∈ lw_tbl := by decide +kernel
theorem wsL_law_x2 : ∀ w ∈ (vx_atS RX0 135 "java/lang/IndexOutOfBoundsException" ["java/lang/RuntimeException", "java/lang/Exception"]).filter goodWord, w ∈ lw_tbl := by decide +kernel
theorem wsL_law_in : ∀ w ∈ wsL_law, w ∈ lw_tbl := fun w h => (List.mem_append.mp h).elim (fun h => (List.mem_append.mp h).elim (fun h => (List.mem_append.mp h).elim (fun h => wsL_law_in0 w h) (fun h => wsL_law_x0 w h)) (fun h => wsL_law_x1 w h)) (fun h => wsL_law_x2 w h)
theorem inlX0 : ∀ w ∈ wsX00, w ∈ wsL_law := fun _ h => List.mem_append_left _ (List.mem_append_left _ (List.mem_append_left _ (List.mem_append_left _ (List.mem_append_left _ (List.mem_append_right _ h)))))
theorem inX0 : ∀ w ∈ wsX00, w ∈ lw_tbl := fun w h => wsL_law_in w (inlX0 w h)
theorem inlX1 : ∀ w ∈ wsX10, w ∈ wsL_law := fun _ h => List.mem_append_left _ (List.mem_append_left _ (List.mem_append_left _ (List.mem_append_left _ (List.mem_append_right _ h))))
theorem inX1 : ∀ w ∈ wsX10, w ∈ lw_tbl := fun w h => wsL_law_in w (inlX1 w h)
theorem inJ9 : ∀ w ∈ wsJ90, w ∈ lw_tbl := by decide +kernel
theorem inJ0 : ∀ w ∈ wsJ00, w ∈ lw_tbl := by decide +kernel
theorem inJ10 : ∀ w ∈ wsJ100, w ∈ lw_tbl := by decide +kernel
