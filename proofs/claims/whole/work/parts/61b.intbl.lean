theorem po_in {big ws : List Cond} (ps : List Nat) (hp : ws = ps.filterMap (fun i => big[i]?)) : ∀ w ∈ ws, w ∈ big := by
  intro w hw
  rw [hp] at hw
  obtain ⟨i, -, hi⟩ := List.mem_filterMap.mp hw
  first | exact List.mem_of_getElem? hi | exact List.getElem?_mem hi
set_option maxRecDepth 20000 in
theorem po_0 : ∀ w ∈ wsL_law0_r1, w ∈ lw_tbl := po_in [33, 34, 18, 502, 503, 23, 685, 35, 36, 37, 38, 39, 40, 41, 42, 19, 171, 83, 84, 20, 172, 116, 117, 21] rfl
set_option maxRecDepth 20000 in
theorem po_1 : ∀ w ∈ wsL_law0_r2, w ∈ lw_tbl := po_in [173, 139, 140, 22, 174, 175, 176, 44, 45, 46, 80, 52, 81, 53, 55, 82, 57, 59, 61, 86, 87, 88, 92, 95] rfl
set_option maxRecDepth 20000 in
theorem po_2 : ∀ w ∈ wsL_law0_r3, w ∈ lw_tbl := po_in [97, 100, 101, 119, 120, 121, 124, 126, 128, 141, 142, 143, 144, 146, 147, 148, 149, 151, 152, 153, 145, 504, 505, 506] rfl
set_option maxRecDepth 20000 in
theorem po_3 : ∀ w ∈ wsL_law0_r4, w ∈ lw_tbl := po_in [507, 508, 509, 510, 511, 512, 513, 515, 516, 517, 518, 521, 522, 523, 524, 525, 526, 528, 529, 530, 531, 190, 191, 192] rfl
set_option maxRecDepth 20000 in
theorem po_4 : ∀ w ∈ wsL_law0_r5, w ∈ lw_tbl := po_in [193, 194, 195, 196, 197, 198, 199, 200, 201, 202, 203, 204, 205, 50, 206, 207, 208, 209, 47, 210, 211, 212, 213, 54] rfl
set_option maxRecDepth 20000 in
theorem po_5 : ∀ w ∈ wsL_law0_r6, w ∈ lw_tbl := po_in [214, 215, 216, 217, 218, 219, 220, 221, 588, 589, 590, 591, 532, 592, 593, 594, 596, 10, 597, 514, 222, 223, 224, 225] rfl
set_option maxRecDepth 20000 in
theorem po_6 : ∀ w ∈ wsL_law0_r7, w ∈ lw_tbl := po_in [226, 598, 599, 600, 601, 389, 390, 17, 391, 392, 393, 394, 395, 396, 397, 398, 399, 27, 468, 28, 485, 29, 90, 58] rfl
set_option maxRecDepth 20000 in
theorem po_7 : ∀ w ∈ wsL_law0_r8, w ∈ lw_tbl := po_in [231, 241, 343, 324, 325, 326, 360, 362, 8, 363, 56, 364, 365, 366, 367, 89, 368, 310, 311, 312, 48, 313, 233, 234] rfl
set_option maxRecDepth 20000 in
theorem po_8 : ∀ w ∈ wsL_law0_r9, w ∈ lw_tbl := po_in [235, 314, 316, 1, 317, 318, 243, 244, 245, 319, 321, 2, 322, 323, 369, 370, 371, 372, 297, 298, 299, 300, 91, 102] rfl
set_option maxRecDepth 20000 in
theorem po_9 : ∀ w ∈ wsL_law0_r10, w ∈ lw_tbl := po_in [98, 93, 96, 301, 302, 303, 304, 305, 306, 30, 307, 308, 309, 373, 374, 375, 376, 327, 329, 3, 330, 602, 603, 604] rfl
set_option maxRecDepth 20000 in
theorem po_10 : ∀ w ∈ wsL_law0_r11, w ∈ lw_tbl := po_in [605, 519, 606, 608, 11, 609, 610, 612, 12, 613, 614, 616, 13, 617, 618, 620, 14, 621, 622, 624, 15, 625, 626, 584] rfl
set_option maxRecDepth 20000 in
theorem po_11 : ∀ w ∈ wsL_law0_r12, w ∈ lw_tbl := po_in [585, 586, 587, 227, 228, 229, 230, 236, 232, 627, 628, 629, 630, 237, 238, 239, 240, 242, 246, 247, 248, 631, 632, 633] rfl
set_option maxRecDepth 20000 in
theorem po_12 : ∀ w ∈ wsL_law0_r13, w ∈ lw_tbl := po_in [634, 635, 637, 16, 638, 249, 250, 251, 252, 49, 253, 254, 255, 256, 639, 640, 641, 642, 257, 258, 259, 260, 261, 262] rfl
set_option maxRecDepth 20000 in
theorem po_13 : ∀ w ∈ wsL_law0_r14, w ∈ lw_tbl := po_in [263, 264, 643, 644, 645, 646, 265, 266, 267, 268, 60, 647, 648, 649, 650, 269, 270, 271, 272, 123, 273, 274, 275, 276] rfl
set_option maxRecDepth 20000 in
theorem po_14 : ∀ w ∈ wsL_law0_r15, w ∈ lw_tbl := po_in [122, 277, 279, 0, 280, 651, 652, 653, 654, 527, 655, 281, 282, 283, 284, 125, 127, 285, 286, 287, 31, 288, 129, 656] rfl
set_option maxRecDepth 20000 in
theorem po_15 : ∀ w ∈ wsL_law0_r16, w ∈ lw_tbl := po_in [657, 658, 659, 660, 661, 289, 290, 291, 292, 662, 663, 664, 665, 293, 294, 295, 296, 99, 94, 331, 332, 333, 334, 335] rfl
set_option maxRecDepth 20000 in
theorem po_16 : ∀ w ∈ wsL_law0_r17, w ∈ lw_tbl := po_in [337, 4, 338, 666, 667, 668, 669, 520, 670, 672, 671, 32, 339, 340, 341, 342, 344, 345, 346, 347, 348, 350, 5, 351] rfl
set_option maxRecDepth 20000 in
theorem po_17 : ∀ w ∈ wsL_law0_r18, w ∈ lw_tbl := po_in [51, 62, 352, 354, 6, 355, 356, 358, 7, 359, 673, 674, 675, 676, 377, 378, 379, 380, 381, 382, 383, 384, 677, 678] rfl
set_option maxRecDepth 20000 in
theorem po_18 : ∀ w ∈ wsL_law0_r19, w ∈ lw_tbl := po_in [679, 680, 385, 386, 387, 388, 150, 681, 682, 683, 684] rfl
set_option maxRecDepth 20000 in
theorem po_19 : ∀ w ∈ wsX00, w ∈ lw_tbl := po_in [103, 105, 107, 109, 111, 113] rfl
set_option maxRecDepth 20000 in
theorem po_20 : ∀ w ∈ wsX10, w ∈ lw_tbl := po_in [63, 65, 67, 69, 71, 73, 75, 77] rfl
set_option maxRecDepth 20000 in
theorem po_21 : ∀ w ∈ wsX20, w ∈ lw_tbl := po_in [130, 132, 134, 136] rfl
set_option maxRecDepth 20000 in
theorem po_22 : ∀ w ∈ wsX30, w ∈ lw_tbl := po_in [154, 156, 158, 160, 162, 164, 166, 168] rfl
set_option maxRecDepth 20000 in
theorem po_23 : ∀ w ∈ wsX40, w ∈ lw_tbl := po_in [177, 179, 181, 183, 185, 187] rfl
set_option maxRecDepth 20000 in
theorem po_24 : ∀ w ∈ wsX50, w ∈ lw_tbl := po_in [533, 535, 537, 539, 541, 543, 545, 547, 549, 551, 553, 555, 557, 559, 561, 563, 565, 567, 569, 571, 573, 575, 577, 579, 581] rfl
set_option maxRecDepth 20000 in
theorem po_25 : ∀ w ∈ ((vx_atS RX4 73 "java/lang/IndexOutOfBoundsException" ["java/lang/RuntimeException", "java/lang/Exception"]).filter goodWord), w ∈ lw_tbl := po_in [24, 421, 430, 434, 437, 439, 422, 423, 39, 40, 424, 429, 435, 455, 411, 456, 413, 457, 415, 425, 427, 417, 451, 452, 454, 417, 442, 443, 444, 445, 445, 446, 447, 448, 448, 449, 450, 451, 441, 400, 408, 409, 410, 412, 414, 416, 420, 419, 418] rfl
set_option maxRecDepth 20000 in
theorem po_26 : ∀ w ∈ ((vx_atS RX4 92 "java/lang/IllegalArgumentException" ["java/lang/RuntimeException", "java/lang/Exception"]).filter goodWord), w ∈ lw_tbl := po_in [24, 421, 430, 434, 437, 439, 422, 423, 39, 40, 424, 429, 435, 455, 411, 456, 413, 457, 415, 425, 427, 417, 451, 452, 454, 417, 479, 480, 481, 445, 445, 446, 447, 448, 448, 449, 450, 451, 478, 469, 471, 432, 472, 473, 474, 475, 420, 419, 476] rfl
set_option maxRecDepth 20000 in
theorem po_27 : ∀ w ∈ ((vx_atS RX4 103 "java/lang/IllegalStateException" ["java/lang/RuntimeException", "java/lang/Exception"]).filter goodWord), w ∈ lw_tbl := po_in [24, 421, 430, 434, 437, 439, 422, 423, 39, 40, 424, 429, 435, 455, 411, 456, 413, 457, 415, 425, 427, 417, 451, 452, 454, 417, 496, 497, 498, 445, 445, 446, 447, 448, 448, 449, 450, 451, 495, 486, 488, 433, 489, 490, 491, 492, 420, 419, 493] rfl
theorem wsL_law_in0 : ∀ w ∈ wsL_law0, w ∈ lw_tbl := fun w h => (List.mem_append.mp h).elim (fun h => (List.mem_append.mp h).elim (fun h => (List.mem_append.mp h).elim (fun h => (List.mem_append.mp h).elim (fun h => (List.mem_append.mp h).elim (fun h => (List.mem_append.mp h).elim (fun h => (List.mem_append.mp h).elim (fun h => (List.mem_append.mp h).elim (fun h => po_0 w h) (fun h => (List.mem_append.mp h).elim (fun h => po_1 w h) (fun h => (List.mem_append.mp h).elim (fun h => po_2 w h) (fun h => (List.mem_append.mp h).elim (fun h => po_3 w h) (fun h => (List.mem_append.mp h).elim (fun h => po_4 w h) (fun h => (List.mem_append.mp h).elim (fun h => po_5 w h) (fun h => (List.mem_append.mp h).elim (fun h => po_6 w h) (fun h => (List.mem_append.mp h).elim (fun h => po_7 w h) (fun h => (List.mem_append.mp h).elim (fun h => po_8 w h) (fun h => (List.mem_append.mp h).elim (fun h => po_9 w h) (fun h => (List.mem_append.mp h).elim (fun h => po_10 w h) (fun h => (List.mem_append.mp h).elim (fun h => po_11 w h) (fun h => (List.mem_append.mp h).elim (fun h => po_12 w h) (fun h => (List.mem_append.mp h).elim (fun h => po_13 w h) (fun h => (List.mem_append.mp h).elim (fun h => po_14 w h) (fun h => (List.mem_append.mp h).elim (fun h => po_15 w h) (fun h => (List.mem_append.mp h).elim (fun h => po_16 w h) (fun h => (List.mem_append.mp h).elim (fun h => po_17 w h) (fun h => po_18 w h))))))))))))))))))) (fun h => po_23 w h)) (fun h => po_24 w h)) (fun h => po_20 w h)) (fun h => po_19 w h)) (fun h => po_21 w h)) (fun h => po_22 w h)) (fun h => absurd h List.not_mem_nil)
theorem wsL_law_in : ∀ w ∈ wsL_law, w ∈ lw_tbl := fun w h => (List.mem_append.mp h).elim (fun h => (List.mem_append.mp h).elim (fun h => (List.mem_append.mp h).elim (fun h => wsL_law_in0 w h) (fun h => po_25 w h)) (fun h => po_26 w h)) (fun h => po_27 w h)
theorem inlX0 : ∀ w ∈ wsX00, w ∈ wsL_law := fun _ h => List.mem_append_left _ (List.mem_append_left _ (List.mem_append_left _ (List.mem_append_left _ (List.mem_append_left _ (List.mem_append_left _ (List.mem_append_right _ h))))))
theorem inX0 : ∀ w ∈ wsX00, w ∈ lw_tbl := fun w h => wsL_law_in w (inlX0 w h)
theorem inlX1 : ∀ w ∈ wsX10, w ∈ wsL_law := fun _ h => List.mem_append_left _ (List.mem_append_left _ (List.mem_append_left _ (List.mem_append_left _ (List.mem_append_left _ (List.mem_append_left _ (List.mem_append_left _ (List.mem_append_right _ h)))))))
theorem inX1 : ∀ w ∈ wsX10, w ∈ lw_tbl := fun w h => wsL_law_in w (inlX1 w h)
theorem inlX2 : ∀ w ∈ wsX20, w ∈ wsL_law := fun _ h => List.mem_append_left _ (List.mem_append_left _ (List.mem_append_left _ (List.mem_append_left _ (List.mem_append_left _ (List.mem_append_right _ h)))))
theorem inX2 : ∀ w ∈ wsX20, w ∈ lw_tbl := fun w h => wsL_law_in w (inlX2 w h)
theorem inlX3 : ∀ w ∈ wsX30, w ∈ wsL_law := fun _ h => List.mem_append_left _ (List.mem_append_left _ (List.mem_append_left _ (List.mem_append_left _ (List.mem_append_right _ h))))
theorem inX3 : ∀ w ∈ wsX30, w ∈ lw_tbl := fun w h => wsL_law_in w (inlX3 w h)
theorem inlX4 : ∀ w ∈ wsX40, w ∈ wsL_law := fun _ h => List.mem_append_left _ (List.mem_append_left _ (List.mem_append_left _ (List.mem_append_left _ (List.mem_append_left _ (List.mem_append_left _ (List.mem_append_left _ (List.mem_append_left _ (List.mem_append_left _ (List.mem_append_right _ h)))))))))
theorem inX4 : ∀ w ∈ wsX40, w ∈ lw_tbl := fun w h => wsL_law_in w (inlX4 w h)
theorem inlX5 : ∀ w ∈ wsX50, w ∈ wsL_law := fun _ h => List.mem_append_left _ (List.mem_append_left _ (List.mem_append_left _ (List.mem_append_left _ (List.mem_append_left _ (List.mem_append_left _ (List.mem_append_left _ (List.mem_append_left _ (List.mem_append_right _ h))))))))
theorem inX5 : ∀ w ∈ wsX50, w ∈ lw_tbl := fun w h => wsL_law_in w (inlX5 w h)
theorem inJ9 : ∀ w ∈ wsJ90, w ∈ lw_tbl := by decide +kernel
theorem inJ0 : ∀ w ∈ wsJ00, w ∈ lw_tbl := by decide +kernel
theorem inJ10 : ∀ w ∈ wsJ100, w ∈ lw_tbl := by decide +kernel
theorem inJ7 : ∀ w ∈ wsJ70, w ∈ lw_tbl := by decide +kernel
