theorem po_in {big ws : List Cond} (ps : List Nat) (hp : ws = ps.filterMap (fun i => big[i]?)) : ∀ w ∈ ws, w ∈ big := by
  intro w hw
  rw [hp] at hw
  obtain ⟨i, -, hi⟩ := List.mem_filterMap.mp hw
  first | exact List.mem_of_getElem? hi | exact List.getElem?_mem hi
set_option maxRecDepth 20000 in
theorem po_0 : ∀ w ∈ wsL_law0_r1, w ∈ lw_tbl := po_in [34, 35, 19, 513, 514, 24, 696, 36, 37, 38, 39, 40, 41, 42, 43, 20, 178, 84, 85, 21, 179, 117, 118, 22] rfl
set_option maxRecDepth 20000 in
theorem po_1 : ∀ w ∈ wsL_law0_r2, w ∈ lw_tbl := po_in [180, 140, 141, 23, 181, 182, 183, 45, 46, 47, 81, 53, 82, 54, 56, 83, 58, 60, 62, 87, 88, 89, 93, 96] rfl
set_option maxRecDepth 20000 in
theorem po_2 : ∀ w ∈ wsL_law0_r3, w ∈ lw_tbl := po_in [98, 101, 102, 120, 121, 122, 125, 127, 129, 142, 143, 144, 145, 147, 148, 149, 150, 152, 153, 154, 155, 146, 515, 516] rfl
set_option maxRecDepth 20000 in
theorem po_3 : ∀ w ∈ wsL_law0_r4, w ∈ lw_tbl := po_in [517, 518, 519, 520, 521, 522, 523, 524, 526, 527, 528, 529, 532, 533, 534, 535, 536, 537, 539, 540, 541, 542, 197, 198] rfl
set_option maxRecDepth 20000 in
theorem po_4 : ∀ w ∈ wsL_law0_r5, w ∈ lw_tbl := po_in [199, 200, 201, 202, 203, 204, 205, 206, 207, 208, 209, 210, 211, 212, 51, 213, 214, 215, 216, 48, 217, 218, 219, 220] rfl
set_option maxRecDepth 20000 in
theorem po_5 : ∀ w ∈ wsL_law0_r6, w ∈ lw_tbl := po_in [221, 222, 223, 224, 225, 226, 227, 228, 55, 599, 600, 601, 602, 543, 603, 604, 605, 607, 11, 608, 525, 229, 230, 231] rfl
set_option maxRecDepth 20000 in
theorem po_6 : ∀ w ∈ wsL_law0_r7, w ∈ lw_tbl := po_in [232, 233, 609, 610, 611, 612, 400, 401, 18, 402, 403, 404, 405, 406, 407, 408, 409, 410, 28, 479, 29, 496, 30, 91] rfl
set_option maxRecDepth 20000 in
theorem po_7 : ∀ w ∈ wsL_law0_r8, w ∈ lw_tbl := po_in [59, 238, 354, 335, 336, 337, 371, 373, 9, 374, 57, 375, 376, 377, 378, 90, 379, 317, 318, 319, 156, 320, 240, 241] rfl
set_option maxRecDepth 20000 in
theorem po_8 : ∀ w ∈ wsL_law0_r9, w ∈ lw_tbl := po_in [242, 314, 321, 323, 1, 324, 325, 327, 2, 328, 49, 329, 249, 250, 251, 330, 332, 3, 333, 334, 380, 381, 382, 383] rfl
set_option maxRecDepth 20000 in
theorem po_9 : ∀ w ∈ wsL_law0_r10, w ∈ lw_tbl := po_in [303, 304, 305, 306, 92, 103, 99, 94, 97, 307, 308, 309, 310, 311, 312, 31, 313, 315, 316, 384, 385, 386, 387, 338] rfl
set_option maxRecDepth 20000 in
theorem po_10 : ∀ w ∈ wsL_law0_r11, w ∈ lw_tbl := po_in [340, 4, 341, 613, 614, 615, 616, 530, 617, 619, 12, 620, 621, 623, 13, 624, 625, 627, 14, 628, 629, 631, 15, 632] rfl
set_option maxRecDepth 20000 in
theorem po_11 : ∀ w ∈ wsL_law0_r12, w ∈ lw_tbl := po_in [633, 635, 16, 636, 637, 595, 596, 597, 598, 234, 235, 236, 237, 243, 239, 638, 639, 640, 641, 244, 245, 246, 247, 248] rfl
set_option maxRecDepth 20000 in
theorem po_12 : ∀ w ∈ wsL_law0_r13, w ∈ lw_tbl := po_in [252, 253, 254, 642, 643, 644, 645, 646, 648, 17, 649, 255, 256, 257, 258, 50, 259, 260, 261, 262, 650, 651, 652, 653] rfl
set_option maxRecDepth 20000 in
theorem po_13 : ∀ w ∈ wsL_law0_r14, w ∈ lw_tbl := po_in [263, 264, 265, 266, 267, 268, 269, 270, 654, 655, 656, 657, 271, 272, 273, 274, 61, 658, 659, 660, 661, 275, 276, 277] rfl
set_option maxRecDepth 20000 in
theorem po_14 : ∀ w ∈ wsL_law0_r15, w ∈ lw_tbl := po_in [278, 124, 279, 280, 281, 282, 123, 283, 285, 0, 286, 662, 663, 664, 665, 538, 666, 287, 288, 289, 290, 126, 128, 291] rfl
set_option maxRecDepth 20000 in
theorem po_15 : ∀ w ∈ wsL_law0_r16, w ∈ lw_tbl := po_in [292, 293, 32, 294, 130, 667, 668, 669, 670, 671, 672, 295, 296, 297, 298, 673, 674, 675, 676, 299, 300, 301, 302, 100] rfl
set_option maxRecDepth 20000 in
theorem po_16 : ∀ w ∈ wsL_law0_r17, w ∈ lw_tbl := po_in [95, 342, 343, 344, 345, 346, 348, 5, 349, 677, 678, 679, 680, 531, 681, 683, 682, 33, 350, 351, 352, 353, 355, 356] rfl
set_option maxRecDepth 20000 in
theorem po_17 : ∀ w ∈ wsL_law0_r18, w ∈ lw_tbl := po_in [357, 358, 359, 361, 6, 362, 52, 63, 363, 365, 7, 366, 367, 369, 8, 370, 684, 685, 686, 687, 388, 389, 390, 391] rfl
set_option maxRecDepth 20000 in
theorem po_18 : ∀ w ∈ wsL_law0_r19, w ∈ lw_tbl := po_in [392, 393, 394, 395, 688, 689, 690, 691, 396, 397, 398, 399, 151, 692, 693, 694, 695] rfl
set_option maxRecDepth 20000 in
theorem po_19 : ∀ w ∈ wsX00, w ∈ lw_tbl := po_in [104, 106, 108, 110, 112, 114] rfl
set_option maxRecDepth 20000 in
theorem po_20 : ∀ w ∈ wsX10, w ∈ lw_tbl := po_in [64, 66, 68, 70, 72, 74, 76, 78] rfl
set_option maxRecDepth 20000 in
theorem po_21 : ∀ w ∈ wsX20, w ∈ lw_tbl := po_in [131, 133, 135, 137] rfl
set_option maxRecDepth 20000 in
theorem po_22 : ∀ w ∈ wsX30, w ∈ lw_tbl := po_in [157, 159, 161, 163, 165, 167, 169, 171, 173, 175] rfl
set_option maxRecDepth 20000 in
theorem po_23 : ∀ w ∈ wsX40, w ∈ lw_tbl := po_in [184, 186, 188, 190, 192, 194] rfl
set_option maxRecDepth 20000 in
theorem po_24 : ∀ w ∈ wsX50, w ∈ lw_tbl := po_in [544, 546, 548, 550, 552, 554, 556, 558, 560, 562, 564, 566, 568, 570, 572, 574, 576, 578, 580, 582, 584, 586, 588, 590, 592] rfl
set_option maxRecDepth 20000 in
theorem po_25 : ∀ w ∈ ((vx_atS RX4 76 "java/lang/IndexOutOfBoundsException" ["java/lang/RuntimeException", "java/lang/Exception"]).filter goodWord), w ∈ lw_tbl := po_in [25, 432, 441, 445, 448, 450, 433, 434, 40, 41, 435, 440, 446, 466, 422, 467, 424, 468, 426, 436, 438, 428, 462, 463, 465, 428, 453, 454, 455, 456, 456, 457, 458, 459, 459, 460, 461, 462, 452, 411, 419, 420, 421, 423, 425, 427, 431, 430, 429] rfl
set_option maxRecDepth 20000 in
theorem po_26 : ∀ w ∈ ((vx_atS RX4 92 "java/lang/IllegalArgumentException" ["java/lang/RuntimeException", "java/lang/Exception"]).filter goodWord), w ∈ lw_tbl := po_in [25, 432, 441, 445, 448, 450, 433, 434, 40, 41, 435, 440, 446, 466, 422, 467, 424, 468, 426, 436, 438, 428, 462, 463, 465, 428, 490, 491, 492, 456, 456, 457, 458, 459, 459, 460, 461, 462, 489, 480, 482, 443, 483, 484, 485, 486, 431, 430, 487] rfl
set_option maxRecDepth 20000 in
theorem po_27 : ∀ w ∈ ((vx_atS RX4 103 "java/lang/IllegalStateException" ["java/lang/RuntimeException", "java/lang/Exception"]).filter goodWord), w ∈ lw_tbl := po_in [25, 432, 441, 445, 448, 450, 433, 434, 40, 41, 435, 440, 446, 466, 422, 467, 424, 468, 426, 436, 438, 428, 462, 463, 465, 428, 507, 508, 509, 456, 456, 457, 458, 459, 459, 460, 461, 462, 506, 497, 499, 444, 500, 501, 502, 503, 431, 430, 504] rfl
theorem wsL_law_in0 : ∀ w ∈ wsL_law0, w ∈ lw_tbl := fun w h => (List.mem_append.mp h).elim (fun h => (List.mem_append.mp h).elim (fun h => (List.mem_append.mp h).elim (fun h => (List.mem_append.mp h).elim (fun h => (List.mem_append.mp h).elim (fun h => (List.mem_append.mp h).elim (fun h => (List.mem_append.mp h).elim (fun h => (List.mem_append.mp h).elim (fun h => po_0 w h) (fun h => (List.mem_append.mp h).elim (fun h => po_1 w h) (fun h => (List.mem_append.mp h).elim (fun h => po_2 w h) (fun h => (List.mem_append.mp h).elim (fun h => po_3 w h) (fun h => (List.mem_append.mp h).elim (fun h => po_4 w h) (fun h => (List.mem_append.mp h).elim (fun h => po_5 w h) (fun h => (List.mem_append.mp h).elim (fun h => po_6 w h) (fun h => (List.mem_append.mp h).elim (fun h => po_7 w h) (fun h => (List.mem_append.mp h).elim (fun h => po_8 w h) (fun h => (List.mem_append.mp h).elim (fun h => po_9 w h) (fun h => (List.mem_append.mp h).elim (fun h => po_10 w h) (fun h => (List.mem_append.mp h).elim (fun h => po_11 w h) (fun h => (List.mem_append.mp h).elim (fun h => po_12 w h) (fun h => (List.mem_append.mp h).elim (fun h => po_13 w h) (fun h => (List.mem_append.mp h).elim (fun h => po_14 w h) (fun h => (List.mem_append.mp h).elim (fun h => po_15 w h) (fun h => (List.mem_append.mp h).elim (fun h => po_16 w h) (fun h => (List.mem_append.mp h).elim (fun h => po_17 w h) (fun h => po_18 w h))))))))))))))))))) (fun h => po_23 w h)) (fun h => po_24 w h)) (fun h => po_20 w h)) (fun h => po_19 w h)) (fun h => po_21 w h)) (fun h => po_22 w h)) (fun h => absurd h List.not_mem_nil)
theorem wsL_law_in : ∀ w ∈ wsL_law, w ∈ lw_tbl := fun w h => (List.mem_append.mp h).elim (fun h => (List.mem_append.mp h).elim (fun h => (List.mem_append.mp h).elim (fun h => wsL_law_in0 w h) (fun h => po_25 w h)) (fun h => po_26 w h)) (fun h => po_27 w h)
theorem inlX0 : ∀ w ∈ wsX00, w ∈ wsL_law := fun _ h => List.mem_append_left _ (List.mem_append_left _ (List.mem_append_left _ (List.mem_append_left _ (List.mem_append_left _ (List.mem_append_left _ (List.mem_append_right _ h))))))
theorem inX0 : ∀ w ∈ wsX00, w ∈ lw_tbl := fun w h => wsL_law_in w (inlX0 w h)
theorem inlX1 : ∀ w ∈ wsX10, w ∈ wsL_law := fun _ h => List.mem_append_left _ (List.mem_append_left _ (List.mem_append_left _ (List.mem_append_left _ (List.mem_append_left _ (List.mem_append_left _ (List.mem_append_left _ (List.mem_append_right _ h)))))))
theorem inX1 : ∀ w ∈ wsX10, w ∈ lw_tbl := fun w h => wsL_law_in w (inlX1 w h)
theorem inlX2 : ∀ w ∈ wsX20, w ∈ wsL_law := fun _ h => List.mem_append_left _ (List.mem_append_left _ (List.mem_append_left _ (List.mem_append_left _ (List.mem_append_left _ (List.mem_append_right _ h)))))
theorem inX2 : ∀ w ∈ wsX20, w ∈ lw_tbl := fun w h => wsL_law_in w (inlX2 w h)
theorem inlX3 : ∀ w ∈ wsX30, w ∈ wsL_law := fun _ h => List.mem_append_left _ (List.mem_append_left _ (List.mem_append_left _ (List.mem_append_left _ (List.mem_append_right _ h))))
theorem inX3 : ∀ w ∈ wsX30, w ∈ lw_tbl := fun w h => wsL_law_in w (inlX3 w h)
theorem inlX4 : ∀ w ∈ wsX40, w ∈ wsL_law := fun _ h => List.mem_append_left _ (List.mem_append_left _ (List.mem_append_left _ (List.mem_append_left _ (List.mem_append_left _ (List.mem_append_left _ (List.mem_append_left _ (List.mem_append_left _ (List.mem_append_left _ (List.mem_append_right _ h)))))))))
theorem inX4 : ∀ w ∈ wsX40, w ∈ lw_tbl := fun w h => wsL_law_in w (inlX4 w h)
theorem inlX5 : ∀ w ∈ wsX50, w ∈ wsL_law := fun _ h => List.mem_append_left _ (List.mem_append_left _ (List.mem_append_left _ (List.mem_append_left _ (List.mem_append_left _ (List.mem_append_left _ (List.mem_append_left _ (List.mem_append_left _ (List.mem_append_right _ h))))))))
theorem inX5 : ∀ w ∈ wsX50, w ∈ lw_tbl := fun w h => wsL_law_in w (inlX5 w h)
theorem inJ9 : ∀ w ∈ wsJ90, w ∈ lw_tbl := by decide +kernel
theorem inJ0 : ∀ w ∈ wsJ00, w ∈ lw_tbl := by decide +kernel
theorem inJ10 : ∀ w ∈ wsJ100, w ∈ lw_tbl := by decide +kernel
theorem inJ7 : ∀ w ∈ wsJ70, w ∈ lw_tbl := by decide +kernel
