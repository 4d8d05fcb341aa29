/-! 33: the words of the law lie in the tables, by their places -/
theorem in_of {ws : List Cond} (ps : List Nat) (h : ws = ps.filterMap (fun i => lw_tbl[i]?)) : ∀ w ∈ ws, w ∈ lw_tbl := by
  intro w hw
  rw [h] at hw
  obtain ⟨i, -, hi⟩ := List.mem_filterMap.mp hw
  exact List.mem_of_getElem? hi
set_option maxRecDepth 20000 in
theorem inL_r1 : ∀ w ∈ wsL_law0_r1, w ∈ lw_tbl := in_of [51, 52, 40, 482, 483, 42, 717, 53, 54, 55, 56, 57, 58, 59, 60, 41, 73, 74, 75, 76, 77, 61, 62, 63] (by decide +kernel)
set_option maxRecDepth 20000 in
theorem inL_r2 : ∀ w ∈ wsL_law0_r2, w ∈ lw_tbl := in_of [64, 72, 65, 66, 484, 485, 486, 487, 489, 490, 491, 493, 494, 497, 206, 207, 39, 208, 209, 210, 211, 212, 213, 214] (by decide +kernel)
set_option maxRecDepth 20000 in
theorem inL_r3 : ∀ w ∈ wsL_law0_r3, w ∈ lw_tbl := in_of [46, 97, 98, 99, 100, 523, 524, 525, 526, 488, 527, 528, 529, 530, 532, 14, 533, 519, 520, 521, 522, 282, 283, 284] (by decide +kernel)
set_option maxRecDepth 20000 in
theorem inL_r4 : ∀ w ∈ wsL_law0_r4, w ∈ lw_tbl := in_of [285, 286, 287, 288, 289, 290, 291, 292, 293, 294, 47, 310, 312, 9, 313, 315, 317, 10, 318, 319, 320, 321, 322, 48] (by decide +kernel)
set_option maxRecDepth 20000 in
theorem inL_r5 : ∀ w ∈ wsL_law0_r5, w ∈ lw_tbl := in_of [128, 106, 107, 108, 146, 114, 115, 116, 534, 535, 536, 537, 538, 539, 540, 541, 543, 15, 544, 545, 547, 16, 548, 338] (by decide +kernel)
set_option maxRecDepth 20000 in
theorem inL_r6 : ∀ w ∈ wsL_law0_r6, w ∈ lw_tbl := in_of [339, 340, 341, 342, 343, 344, 132, 110, 111, 112, 346, 347, 348, 349, 549, 550, 551, 552, 553, 555, 17, 556, 350, 351] (by decide +kernel)
set_option maxRecDepth 20000 in
theorem inL_r7 : ∀ w ∈ wsL_law0_r7, w ∈ lw_tbl := in_of [352, 353, 354, 355, 356, 101, 102, 103, 104, 105, 109, 113, 147, 148, 149, 150, 557, 558, 559, 560, 492, 561, 563, 18] (by decide +kernel)
set_option maxRecDepth 20000 in
theorem inL_r8 : ∀ w ∈ wsL_law0_r8, w ∈ lw_tbl := in_of [564, 565, 567, 19, 568, 357, 358, 359, 360, 361, 362, 363, 117, 118, 119, 120, 569, 570, 571, 572, 573, 575, 20, 576] (by decide +kernel)
set_option maxRecDepth 20000 in
theorem inL_r9 : ∀ w ∈ wsL_law0_r9, w ∈ lw_tbl := in_of [364, 365, 366, 367, 368, 369, 370, 371, 372, 373, 375, 376, 377, 133, 134, 135, 379, 380, 381, 382, 577, 578, 579, 580] (by decide +kernel)
set_option maxRecDepth 20000 in
theorem inL_r10 : ∀ w ∈ wsL_law0_r10, w ∈ lw_tbl := in_of [581, 582, 49, 583, 383, 384, 385, 386, 387, 388, 389, 143, 144, 145, 584, 585, 586, 587, 391, 392, 393, 394, 395, 396] (by decide +kernel)
set_option maxRecDepth 20000 in
theorem inL_r11 : ∀ w ∈ wsL_law0_r11, w ∈ lw_tbl := in_of [397, 398, 399, 400, 401, 402, 588, 589, 590, 591, 403, 404, 405, 406, 407, 408, 409, 125, 126, 127, 129, 130, 131, 136] (by decide +kernel)
set_option maxRecDepth 20000 in
theorem inL_r12 : ∀ w ∈ wsL_law0_r12, w ∈ lw_tbl := in_of [137, 138, 139, 141, 2, 142, 592, 593, 594, 595, 596, 598, 21, 599, 600, 602, 22, 603, 604, 606, 23, 607, 608, 610] (by decide +kernel)
set_option maxRecDepth 20000 in
theorem inL_r13 : ∀ w ∈ wsL_law0_r13, w ∈ lw_tbl := in_of [24, 611, 612, 614, 613, 50, 411, 412, 413, 414, 415, 416, 417, 615, 616, 617, 618, 418, 419, 420, 421, 422, 423, 424] (by decide +kernel)
set_option maxRecDepth 20000 in
theorem inL_r14 : ∀ w ∈ wsL_law0_r14, w ∈ lw_tbl := in_of [425, 426, 427, 182, 184, 6, 185, 186, 187, 188, 619, 620, 621, 622, 623, 625, 25, 626, 627, 629, 26, 630, 429, 430] (by decide +kernel)
set_option maxRecDepth 20000 in
theorem inL_r15 : ∀ w ∈ wsL_law0_r15, w ∈ lw_tbl := in_of [431, 432, 433, 434, 435, 436, 438, 11, 439, 197, 198, 199, 200, 201, 202, 631, 632, 633, 634, 635, 637, 27, 638, 639] (by decide +kernel)
set_option maxRecDepth 20000 in
theorem inL_r16 : ∀ w ∈ wsL_law0_r16, w ∈ lw_tbl := in_of [641, 28, 642, 643, 645, 29, 646, 441, 442, 443, 444, 445, 446, 447, 449, 450, 451, 647, 648, 649, 650, 452, 453, 454] (by decide +kernel)
set_option maxRecDepth 20000 in
theorem inL_r17 : ∀ w ∈ wsL_law0_r17, w ∈ lw_tbl := in_of [455, 456, 457, 458, 203, 204, 205, 651, 652, 653, 654, 655, 657, 30, 658, 459, 460, 461, 462, 463, 464, 465, 121, 123] (by decide +kernel)
set_option maxRecDepth 20000 in
theorem inL_r18 : ∀ w ∈ wsL_law0_r18, w ∈ lw_tbl := in_of [1, 124, 163, 165, 5, 166, 167, 168, 169, 659, 660, 661, 662, 663, 665, 31, 666, 496, 495, 667, 669, 32, 670, 671] (by decide +kernel)
set_option maxRecDepth 20000 in
theorem inL_r19 : ∀ w ∈ wsL_law0_r19, w ∈ lw_tbl := in_of [673, 33, 674, 675, 677, 34, 678, 89, 90, 91, 92, 93, 95, 0, 96, 151, 153, 3, 154, 679, 680, 681, 682, 683] (by decide +kernel)
set_option maxRecDepth 20000 in
theorem inL_r20 : ∀ w ∈ wsL_law0_r20, w ∈ lw_tbl := in_of [685, 35, 686, 687, 689, 36, 690, 155, 156, 157, 158, 159, 161, 4, 162, 691, 692, 693, 694, 695, 697, 37, 698, 466] (by decide +kernel)
set_option maxRecDepth 20000 in
theorem inL_r21 : ∀ w ∈ wsL_law0_r21, w ∈ lw_tbl := in_of [467, 468, 469, 470, 471, 472, 474, 476, 12, 477, 478, 480, 13, 481, 699, 700, 701, 702, 703, 705, 38, 706, 170, 171] (by decide +kernel)
set_option maxRecDepth 20000 in
theorem inL_r22 : ∀ w ∈ wsL_law0_r22, w ∈ lw_tbl := in_of [172, 173, 174, 175, 176, 707, 708, 709, 710, 177, 178, 179, 180, 181, 189, 190, 191, 192, 193, 195, 7, 196, 711, 712] (by decide +kernel)
set_option maxRecDepth 20000 in
theorem inL_r23 : ∀ w ∈ wsL_law0_r23, w ∈ lw_tbl := in_of [713, 714, 715, 716] (by decide +kernel)
set_option maxRecDepth 20000 in
theorem inL_X0 : ∀ w ∈ wsX00, w ∈ lw_tbl := in_of [67, 69] (by decide +kernel)
set_option maxRecDepth 20000 in
theorem inL_X1 : ∀ w ∈ wsX10, w ∈ lw_tbl := in_of [78, 80, 82, 84, 86] (by decide +kernel)
set_option maxRecDepth 20000 in
theorem inL_X2 : ∀ w ∈ wsX20, w ∈ lw_tbl := in_of [498, 500, 502, 504, 506, 508, 510, 512, 514, 516] (by decide +kernel)
set_option maxRecDepth 20000 in
theorem inL_x0 : ∀ w ∈ (vx_atS RX1 33 "java/lang/IllegalArgumentException" ["java/lang/RuntimeException", "java/lang/Exception"]).filter goodWord, w ∈ lw_tbl := by decide +kernel
set_option maxRecDepth 20000 in
theorem inL_x1 : ∀ w ∈ (vx_atS RX1 179 "java/lang/IndexOutOfBoundsException" ["java/lang/RuntimeException", "java/lang/Exception"]).filter goodWord, w ∈ lw_tbl := by decide +kernel
set_option maxRecDepth 20000 in
theorem inL_x2 : ∀ w ∈ (vx_atS RX1 65 "java/lang/IllegalStateException" ["java/lang/RuntimeException", "java/lang/Exception"]).filter goodWord, w ∈ lw_tbl := by decide +kernel
theorem inL_law0 : ∀ w ∈ wsL_law0, w ∈ lw_tbl := List.forall_mem_append.mpr ⟨List.forall_mem_append.mpr ⟨List.forall_mem_append.mpr ⟨List.forall_mem_append.mpr ⟨List.forall_mem_append.mpr ⟨inL_r1, List.forall_mem_append.mpr ⟨inL_r2, List.forall_mem_append.mpr ⟨inL_r3, List.forall_mem_append.mpr ⟨inL_r4, List.forall_mem_append.mpr ⟨inL_r5, List.forall_mem_append.mpr ⟨inL_r6, List.forall_mem_append.mpr ⟨inL_r7, List.forall_mem_append.mpr ⟨inL_r8, List.forall_mem_append.mpr ⟨inL_r9, List.forall_mem_append.mpr ⟨inL_r10, List.forall_mem_append.mpr ⟨inL_r11, List.forall_mem_append.mpr ⟨inL_r12, List.forall_mem_append.mpr ⟨inL_r13, List.forall_mem_append.mpr ⟨inL_r14, List.forall_mem_append.mpr ⟨inL_r15, List.forall_mem_append.mpr ⟨inL_r16, List.forall_mem_append.mpr ⟨inL_r17, List.forall_mem_append.mpr ⟨inL_r18, List.forall_mem_append.mpr ⟨inL_r19, List.forall_mem_append.mpr ⟨inL_r20, List.forall_mem_append.mpr ⟨inL_r21, List.forall_mem_append.mpr ⟨inL_r22, inL_r23⟩⟩⟩⟩⟩⟩⟩⟩⟩⟩⟩⟩⟩⟩⟩⟩⟩⟩⟩⟩⟩⟩, inL_X1⟩, inL_X2⟩, inL_X0⟩, fun _ h => absurd h List.not_mem_nil⟩
theorem inL_law : ∀ w ∈ wsL_law, w ∈ lw_tbl := List.forall_mem_append.mpr ⟨List.forall_mem_append.mpr ⟨List.forall_mem_append.mpr ⟨inL_law0, inL_x0⟩, inL_x1⟩, inL_x2⟩
theorem inl_X0 : ∀ w ∈ wsX00, w ∈ wsL_law := fun _ h => List.mem_append_left _ (List.mem_append_left _ (List.mem_append_left _ (List.mem_append_left _ (List.mem_append_right _ h))))
theorem inl_X1 : ∀ w ∈ wsX10, w ∈ wsL_law := fun _ h => List.mem_append_left _ (List.mem_append_left _ (List.mem_append_left _ (List.mem_append_left _ (List.mem_append_left _ (List.mem_append_left _ (List.mem_append_right _ h))))))
theorem inl_X2 : ∀ w ∈ wsX20, w ∈ wsL_law := fun _ h => List.mem_append_left _ (List.mem_append_left _ (List.mem_append_left _ (List.mem_append_left _ (List.mem_append_left _ (List.mem_append_right _ h)))))
