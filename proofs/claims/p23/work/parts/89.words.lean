/-! 89: the words of the law lie in the tables, by their places -/
theorem in_of {ws : List Cond} (ps : List Nat) (h : ws = ps.filterMap (fun i => lw_tbl[i]?)) : ∀ w ∈ ws, w ∈ lw_tbl := by
  intro w hw
  rw [h] at hw
  obtain ⟨i, -, hi⟩ := List.mem_filterMap.mp hw
  exact List.mem_of_getElem? hi
set_option maxRecDepth 20000 in
theorem inL_r1 : ∀ w ∈ wsL_law0_r1, w ∈ lw_tbl := in_of [22, 23, 12, 472, 43, 409, 298, 21, 299, 24, 25, 26, 27, 28, 29, 30, 31, 13, 44, 45, 46, 47, 48, 32] (by decide +kernel)
set_option maxRecDepth 20000 in
theorem inL_r2 : ∀ w ∈ wsL_law0_r2, w ∈ lw_tbl := in_of [33, 34, 35, 36, 37, 446, 447, 11, 448, 449, 450, 14, 458, 471, 452, 453, 454, 457, 455, 459, 350, 351, 352, 353] (by decide +kernel)
set_option maxRecDepth 20000 in
theorem inL_r3 : ∀ w ∈ wsL_law0_r3, w ∈ lw_tbl := in_of [346, 347, 348, 349, 466, 467, 468, 469, 191, 18, 248, 249, 250, 251, 354, 355, 356, 357, 460, 358, 359, 360, 361, 321] (by decide +kernel)
set_option maxRecDepth 20000 in
theorem inL_r4 : ∀ w ∈ wsL_law0_r4, w ∈ lw_tbl := in_of [322, 362, 363, 364, 365, 64, 65, 66, 67, 19, 366, 368, 10, 369, 135, 137, 1, 138, 371, 372, 373, 374, 20, 139] (by decide +kernel)
set_option maxRecDepth 20000 in
theorem inL_r5 : ∀ w ∈ wsL_law0_r5, w ∈ lw_tbl := in_of [140, 141, 142, 252, 237, 238, 239, 390, 318, 319, 391, 392, 393, 394, 147, 148, 149, 150, 396, 397, 398, 399, 400, 342] (by decide +kernel)
set_option maxRecDepth 20000 in
theorem inL_r6 : ∀ w ∈ wsL_law0_r6, w ∈ lw_tbl := in_of [343, 401, 402, 403, 404, 268, 269, 270, 271, 234, 235, 236, 230, 231, 232, 233, 405, 406, 407, 408, 272, 273, 274, 275] (by decide +kernel)
set_option maxRecDepth 20000 in
theorem inL_r7 : ∀ w ∈ wsL_law0_r7, w ∈ lw_tbl := in_of [410, 411, 412, 413, 143, 144, 145, 414, 415, 416, 184, 185, 186, 418, 419, 420, 421, 422, 423, 424, 425, 426, 427, 428] (by decide +kernel)
set_option maxRecDepth 20000 in
theorem inL_r8 : ∀ w ∈ wsL_law0_r8, w ∈ lw_tbl := in_of [166, 167, 168, 430, 431, 432, 433, 434, 435, 436, 437, 438, 439, 311, 312, 297, 440, 315, 316, 317, 320, 441, 442, 443] (by decide +kernel)
set_option maxRecDepth 20000 in
theorem inL_r9 : ∀ w ∈ wsL_law0_r9, w ∈ lw_tbl := in_of [444, 217, 218, 219, 220, 221, 222, 223, 224, 225, 244, 246, 5, 247, 151, 152, 153, 154, 155, 156, 157, 159, 161, 2] (by decide +kernel)
set_option maxRecDepth 20000 in
theorem inL_r10 : ∀ w ∈ wsL_law0_r10, w ∈ lw_tbl := in_of [162, 163, 164, 165, 169, 170, 171, 172, 173, 175, 3, 176, 178, 179, 180, 181, 182, 183, 187, 188, 189, 190, 207, 208] (by decide +kernel)
set_option maxRecDepth 20000 in
theorem inL_r11 : ∀ w ∈ wsL_law0_r11, w ∈ lw_tbl := in_of [209, 210, 211, 212, 213, 214, 215, 216, 60, 61, 62, 63, 226, 227, 228, 229, 240, 242, 4, 243, 253, 255, 6, 256] (by decide +kernel)
set_option maxRecDepth 20000 in
theorem inL_r12 : ∀ w ∈ wsL_law0_r12, w ∈ lw_tbl := in_of [257, 258, 259, 260, 261, 262, 263, 264, 266, 7, 267, 276, 278, 8, 279, 280, 281, 282, 283, 284, 286, 9, 287, 288] (by decide +kernel)
set_option maxRecDepth 20000 in
theorem inL_r13 : ∀ w ∈ wsL_law0_r13, w ∈ lw_tbl := in_of [289, 290, 291, 292, 293, 294, 295, 296, 300, 301, 302, 303, 304, 305, 306, 307, 308, 309, 310, 313, 314, 323, 324, 325] (by decide +kernel)
set_option maxRecDepth 20000 in
theorem inL_r14 : ∀ w ∈ wsL_law0_r14, w ∈ lw_tbl := in_of [326, 327, 328, 329, 330, 331, 332, 333, 334, 335, 336, 337, 338, 339, 340, 341, 344, 345] (by decide +kernel)
set_option maxRecDepth 20000 in
theorem inL_X0 : ∀ w ∈ wsX00, w ∈ lw_tbl := in_of [38, 40] (by decide +kernel)
set_option maxRecDepth 20000 in
theorem inL_X1 : ∀ w ∈ wsX10, w ∈ lw_tbl := in_of [49, 51, 53, 55, 57] (by decide +kernel)
set_option maxRecDepth 20000 in
theorem inL_X2 : ∀ w ∈ wsX20, w ∈ lw_tbl := in_of [461, 463] (by decide +kernel)
set_option maxRecDepth 20000 in
theorem inL_x0 : ∀ w ∈ (vx_atS RX1 33 "java/lang/IllegalArgumentException" ["java/lang/RuntimeException", "java/lang/Exception"]).filter goodWord, w ∈ lw_tbl := by decide +kernel
set_option maxRecDepth 20000 in
theorem inL_x1 : ∀ w ∈ (vx_atS RX1 179 "java/lang/IndexOutOfBoundsException" ["java/lang/RuntimeException", "java/lang/Exception"]).filter goodWord, w ∈ lw_tbl := by decide +kernel
set_option maxRecDepth 20000 in
theorem inL_x2 : ∀ w ∈ (vx_atS RX1 65 "java/lang/IllegalStateException" ["java/lang/RuntimeException", "java/lang/Exception"]).filter goodWord, w ∈ lw_tbl := by decide +kernel
theorem inL_law0 : ∀ w ∈ wsL_law0, w ∈ lw_tbl := List.forall_mem_append.mpr ⟨List.forall_mem_append.mpr ⟨List.forall_mem_append.mpr ⟨List.forall_mem_append.mpr ⟨List.forall_mem_append.mpr ⟨inL_r1, List.forall_mem_append.mpr ⟨inL_r2, List.forall_mem_append.mpr ⟨inL_r3, List.forall_mem_append.mpr ⟨inL_r4, List.forall_mem_append.mpr ⟨inL_r5, List.forall_mem_append.mpr ⟨inL_r6, List.forall_mem_append.mpr ⟨inL_r7, List.forall_mem_append.mpr ⟨inL_r8, List.forall_mem_append.mpr ⟨inL_r9, List.forall_mem_append.mpr ⟨inL_r10, List.forall_mem_append.mpr ⟨inL_r11, List.forall_mem_append.mpr ⟨inL_r12, List.forall_mem_append.mpr ⟨inL_r13, inL_r14⟩⟩⟩⟩⟩⟩⟩⟩⟩⟩⟩⟩⟩, inL_X1⟩, inL_X0⟩, inL_X2⟩, fun _ h => absurd h List.not_mem_nil⟩
theorem inL_law : ∀ w ∈ wsL_law, w ∈ lw_tbl := List.forall_mem_append.mpr ⟨List.forall_mem_append.mpr ⟨List.forall_mem_append.mpr ⟨inL_law0, inL_x0⟩, inL_x1⟩, inL_x2⟩
theorem inl_X2 : ∀ w ∈ wsX20, w ∈ wsL_law := fun _ h => List.mem_append_left _ (List.mem_append_left _ (List.mem_append_left _ (List.mem_append_left _ (List.mem_append_right _ h))))
theorem inl_X1 : ∀ w ∈ wsX10, w ∈ wsL_law := fun _ h => List.mem_append_left _ (List.mem_append_left _ (List.mem_append_left _ (List.mem_append_left _ (List.mem_append_left _ (List.mem_append_left _ (List.mem_append_right _ h))))))
theorem inl_X0 : ∀ w ∈ wsX00, w ∈ wsL_law := fun _ h => List.mem_append_left _ (List.mem_append_left _ (List.mem_append_left _ (List.mem_append_left _ (List.mem_append_left _ (List.mem_append_right _ h)))))
