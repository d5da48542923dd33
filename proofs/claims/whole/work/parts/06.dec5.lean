theorem dX5_init_0 : decode cX5_init 0 = .ok (.aload_n 0, 1) := by decide +kernel
theorem dX5_init_1 : decode cX5_init 1 = .ok (.invokespecial 1, 3) := by decide +kernel
theorem dX5_init_4 : decode cX5_init 4 = .ok (.aload_n 0, 1) := by decide +kernel
theorem dX5_init_5 : decode cX5_init 5 = .ok (.bipush 48, 2) := by decide +kernel
theorem dX5_init_7 : decode cX5_init 7 = .ok (.newarray .int, 2) := by decide +kernel
theorem dX5_init_9 : decode cX5_init 9 = .ok (.putfield 9, 3) := by decide +kernel
theorem dX5_init_12 : decode cX5_init 12 = .ok (.aload_n 0, 1) := by decide +kernel
theorem dX5_init_13 : decode cX5_init 13 = .ok (.bipush 48, 2) := by decide +kernel
theorem dX5_init_15 : decode cX5_init 15 = .ok (.newarray .long, 2) := by decide +kernel
theorem dX5_init_17 : decode cX5_init 17 = .ok (.putfield 13, 3) := by decide +kernel
theorem dX5_init_20 : decode cX5_init 20 = .ok (.aload_n 0, 1) := by decide +kernel
theorem dX5_init_21 : decode cX5_init 21 = .ok (.bipush 48, 2) := by decide +kernel
theorem dX5_init_23 : decode cX5_init 23 = .ok (.newarray .long, 2) := by decide +kernel
theorem dX5_init_25 : decode cX5_init 25 = .ok (.putfield 17, 3) := by decide +kernel
theorem dX5_init_28 : decode cX5_init 28 = .ok (.aload_n 0, 1) := by decide +kernel
theorem dX5_init_29 : decode cX5_init 29 = .ok (.bipush 48, 2) := by decide +kernel
theorem dX5_init_31 : decode cX5_init 31 = .ok (.newarray .int, 2) := by decide +kernel
theorem dX5_init_33 : decode cX5_init 33 = .ok (.putfield 20, 3) := by decide +kernel
theorem dX5_init_36 : decode cX5_init 36 = .ok (.aload_n 0, 1) := by decide +kernel
theorem dX5_init_37 : decode cX5_init 37 = .ok (.bipush 48, 2) := by decide +kernel
theorem dX5_init_39 : decode cX5_init 39 = .ok (.newarray .int, 2) := by decide +kernel
theorem dX5_init_41 : decode cX5_init 41 = .ok (.putfield 23, 3) := by decide +kernel
theorem dX5_init_44 : decode cX5_init 44 = .ok (.aload_n 0, 1) := by decide +kernel
theorem dX5_init_45 : decode cX5_init 45 = .ok (.bipush 48, 2) := by decide +kernel
theorem dX5_init_47 : decode cX5_init 47 = .ok (.newarray .boolean, 2) := by decide +kernel
theorem dX5_init_49 : decode cX5_init 49 = .ok (.putfield 26, 3) := by decide +kernel
theorem dX5_init_52 : decode cX5_init 52 = .ok (.aload_n 0, 1) := by decide +kernel
theorem dX5_init_53 : decode cX5_init 53 = .ok (.sipush 401, 3) := by decide +kernel
theorem dX5_init_56 : decode cX5_init 56 = .ok (.newarray .int, 2) := by decide +kernel
theorem dX5_init_58 : decode cX5_init 58 = .ok (.putfield 30, 3) := by decide +kernel
theorem dX5_init_61 : decode cX5_init 61 = .ok (.aload_n 0, 1) := by decide +kernel
theorem dX5_init_62 : decode cX5_init 62 = .ok (.sipush 401, 3) := by decide +kernel
theorem dX5_init_65 : decode cX5_init 65 = .ok (.newarray .int, 2) := by decide +kernel
theorem dX5_init_67 : decode cX5_init 67 = .ok (.putfield 33, 3) := by decide +kernel
theorem dX5_init_70 : decode cX5_init 70 = .ok (.aload_n 0, 1) := by decide +kernel
theorem dX5_init_71 : decode cX5_init 71 = .ok (.sipush 401, 3) := by decide +kernel
theorem dX5_init_74 : decode cX5_init 74 = .ok (.newarray .long, 2) := by decide +kernel
theorem dX5_init_76 : decode cX5_init 76 = .ok (.putfield 36, 3) := by decide +kernel
theorem dX5_init_79 : decode cX5_init 79 = .ok (.aload_n 0, 1) := by decide +kernel
theorem dX5_init_80 : decode cX5_init 80 = .ok (.sipush 401, 3) := by decide +kernel
theorem dX5_init_83 : decode cX5_init 83 = .ok (.newarray .long, 2) := by decide +kernel
theorem dX5_init_85 : decode cX5_init 85 = .ok (.putfield 39, 3) := by decide +kernel
theorem dX5_init_88 : decode cX5_init 88 = .ok (.aload_n 0, 1) := by decide +kernel
theorem dX5_init_89 : decode cX5_init 89 = .ok (.sipush 2304, 3) := by decide +kernel
theorem dX5_init_92 : decode cX5_init 92 = .ok (.newarray .long, 2) := by decide +kernel
theorem dX5_init_94 : decode cX5_init 94 = .ok (.putfield 42, 3) := by decide +kernel
theorem dX5_init_97 : decode cX5_init 97 = .ok (.aload_n 0, 1) := by decide +kernel
theorem dX5_init_98 : decode cX5_init 98 = .ok (.sipush 2304, 3) := by decide +kernel
theorem dX5_init_101 : decode cX5_init 101 = .ok (.newarray .boolean, 2) := by decide +kernel
theorem dX5_init_103 : decode cX5_init 103 = .ok (.putfield 45, 3) := by decide +kernel
theorem dX5_init_106 : decode cX5_init 106 = .ok (.aload_n 0, 1) := by decide +kernel
theorem dX5_init_107 : decode cX5_init 107 = .ok (.sipush 2304, 3) := by decide +kernel
theorem dX5_init_110 : decode cX5_init 110 = .ok (.newarray .long, 2) := by decide +kernel
theorem dX5_init_112 : decode cX5_init 112 = .ok (.putfield 48, 3) := by decide +kernel
theorem dX5_init_115 : decode cX5_init 115 = .ok (.aload_n 0, 1) := by decide +kernel
theorem dX5_init_116 : decode cX5_init 116 = .ok (.bipush 48, 2) := by decide +kernel
theorem dX5_init_118 : decode cX5_init 118 = .ok (.newarray .long, 2) := by decide +kernel
theorem dX5_init_120 : decode cX5_init 120 = .ok (.putfield 51, 3) := by decide +kernel
theorem dX5_init_123 : decode cX5_init 123 = .ok (.aload_n 0, 1) := by decide +kernel
theorem dX5_init_124 : decode cX5_init 124 = .ok (.bipush 48, 2) := by decide +kernel
theorem dX5_init_126 : decode cX5_init 126 = .ok (.newarray .long, 2) := by decide +kernel
theorem dX5_init_128 : decode cX5_init 128 = .ok (.putfield 54, 3) := by decide +kernel
theorem dX5_init_131 : decode cX5_init 131 = .ok (.aload_n 0, 1) := by decide +kernel
theorem dX5_init_132 : decode cX5_init 132 = .ok (.sipush 401, 3) := by decide +kernel
theorem dX5_init_135 : decode cX5_init 135 = .ok (.newarray .int, 2) := by decide +kernel
theorem dX5_init_137 : decode cX5_init 137 = .ok (.putfield 57, 3) := by decide +kernel
theorem dX5_init_140 : decode cX5_init 140 = .ok (.aload_n 0, 1) := by decide +kernel
theorem dX5_init_141 : decode cX5_init 141 = .ok (.bipush 48, 2) := by decide +kernel
theorem dX5_init_143 : decode cX5_init 143 = .ok (.newarray .int, 2) := by decide +kernel
theorem dX5_init_145 : decode cX5_init 145 = .ok (.putfield 60, 3) := by decide +kernel
theorem dX5_init_148 : decode cX5_init 148 = .ok (.aload_n 0, 1) := by decide +kernel
theorem dX5_init_149 : decode cX5_init 149 = .ok (.bipush 48, 2) := by decide +kernel
theorem dX5_init_151 : decode cX5_init 151 = .ok (.newarray .int, 2) := by decide +kernel
theorem dX5_init_153 : decode cX5_init 153 = .ok (.putfield 63, 3) := by decide +kernel
theorem dX5_init_156 : decode cX5_init 156 = .ok (.aload_n 0, 1) := by decide +kernel
theorem dX5_init_157 : decode cX5_init 157 = .ok (.bipush 48, 2) := by decide +kernel
theorem dX5_init_159 : decode cX5_init 159 = .ok (.newarray .long, 2) := by decide +kernel
theorem dX5_init_161 : decode cX5_init 161 = .ok (.putfield 66, 3) := by decide +kernel
theorem dX5_init_164 : decode cX5_init 164 = .ok (.aload_n 0, 1) := by decide +kernel
theorem dX5_init_165 : decode cX5_init 165 = .ok (.bipush 48, 2) := by decide +kernel
theorem dX5_init_167 : decode cX5_init 167 = .ok (.newarray .int, 2) := by decide +kernel
theorem dX5_init_169 : decode cX5_init 169 = .ok (.putfield 69, 3) := by decide +kernel
theorem dX5_init_172 : decode cX5_init 172 = .ok (.return_, 1) := by decide +kernel
theorem dX5_thrown_0 : decode cX5_thrown 0 = .ok (.aload_n 0, 1) := by decide +kernel
theorem dX5_thrown_1 : decode cX5_thrown 1 = .ok (.getfield 72, 3) := by decide +kernel
theorem dX5_thrown_4 : decode cX5_thrown 4 = .ok (.ireturn, 1) := by decide +kernel
theorem dX5_isNode_0 : decode cX5_isNode 0 = .ok (.iload_n 1, 1) := by decide +kernel
theorem dX5_isNode_1 : decode cX5_isNode 1 = .ok (.ifCond .lt 15, 3) := by decide +kernel
theorem dX5_isNode_4 : decode cX5_isNode 4 = .ok (.iload_n 1, 1) := by decide +kernel
theorem dX5_isNode_5 : decode cX5_isNode 5 = .ok (.aload_n 0, 1) := by decide +kernel
theorem dX5_isNode_6 : decode cX5_isNode 6 = .ok (.getfield 76, 3) := by decide +kernel
theorem dX5_isNode_9 : decode cX5_isNode 9 = .ok (.if_icmp .ge 7, 3) := by decide +kernel
theorem dX5_isNode_12 : decode cX5_isNode 12 = .ok (.iconst 1, 1) := by decide +kernel
theorem dX5_isNode_13 : decode cX5_isNode 13 = .ok (.goto 4, 3) := by decide +kernel
theorem dX5_isNode_16 : decode cX5_isNode 16 = .ok (.iconst 0, 1) := by decide +kernel
theorem dX5_isNode_17 : decode cX5_isNode 17 = .ok (.ireturn, 1) := by decide +kernel
theorem dX5_isLot_0 : decode cX5_isLot 0 = .ok (.aload_n 0, 1) := by decide +kernel
theorem dX5_isLot_1 : decode cX5_isLot 1 = .ok (.iload_n 1, 1) := by decide +kernel
theorem dX5_isLot_2 : decode cX5_isLot 2 = .ok (.invokevirtual 79, 3) := by decide +kernel
theorem dX5_isLot_5 : decode cX5_isLot 5 = .ok (.ifCond .eq 17, 3) := by decide +kernel
theorem dX5_isLot_8 : decode cX5_isLot 8 = .ok (.aload_n 0, 1) := by decide +kernel
theorem dX5_isLot_9 : decode cX5_isLot 9 = .ok (.getfield 9, 3) := by decide +kernel
theorem dX5_isLot_12 : decode cX5_isLot 12 = .ok (.iload_n 1, 1) := by decide +kernel
theorem dX5_isLot_13 : decode cX5_isLot 13 = .ok (.iaload, 1) := by decide +kernel
theorem dX5_isLot_14 : decode cX5_isLot 14 = .ok (.iconst (-1), 1) := by decide +kernel
theorem dX5_isLot_15 : decode cX5_isLot 15 = .ok (.if_icmp .ne 7, 3) := by decide +kernel
theorem dX5_isLot_18 : decode cX5_isLot 18 = .ok (.iconst 1, 1) := by decide +kernel
theorem dX5_isLot_19 : decode cX5_isLot 19 = .ok (.goto 4, 3) := by decide +kernel
theorem dX5_isLot_22 : decode cX5_isLot 22 = .ok (.iconst 0, 1) := by decide +kernel
theorem dX5_isLot_23 : decode cX5_isLot 23 = .ok (.ireturn, 1) := by decide +kernel
theorem dX5_make_0 : decode cX5_make 0 = .ok (.aload_n 0, 1) := by decide +kernel
theorem dX5_make_1 : decode cX5_make 1 = .ok (.getfield 76, 3) := by decide +kernel
theorem dX5_make_4 : decode cX5_make 4 = .ok (.bipush 48, 2) := by decide +kernel
theorem dX5_make_6 : decode cX5_make 6 = .ok (.if_icmp .ne 6, 3) := by decide +kernel
theorem dX5_make_9 : decode cX5_make 9 = .ok (.bipush (-2), 2) := by decide +kernel
theorem dX5_make_11 : decode cX5_make 11 = .ok (.ireturn, 1) := by decide +kernel
theorem dX5_make_12 : decode cX5_make 12 = .ok (.aload_n 0, 1) := by decide +kernel
theorem dX5_make_13 : decode cX5_make 13 = .ok (.getfield 9, 3) := by decide +kernel
theorem dX5_make_16 : decode cX5_make 16 = .ok (.aload_n 0, 1) := by decide +kernel
theorem dX5_make_17 : decode cX5_make 17 = .ok (.getfield 76, 3) := by decide +kernel
theorem dX5_make_20 : decode cX5_make 20 = .ok (.iload_n 1, 1) := by decide +kernel
theorem dX5_make_21 : decode cX5_make 21 = .ok (.iastore, 1) := by decide +kernel
theorem dX5_make_22 : decode cX5_make 22 = .ok (.aload_n 0, 1) := by decide +kernel
theorem dX5_make_23 : decode cX5_make 23 = .ok (.getfield 13, 3) := by decide +kernel
theorem dX5_make_26 : decode cX5_make 26 = .ok (.aload_n 0, 1) := by decide +kernel
theorem dX5_make_27 : decode cX5_make 27 = .ok (.getfield 76, 3) := by decide +kernel
theorem dX5_make_30 : decode cX5_make 30 = .ok (.lload_n 2, 1) := by decide +kernel
theorem dX5_make_31 : decode cX5_make 31 = .ok (.lastore, 1) := by decide +kernel
theorem dX5_make_32 : decode cX5_make 32 = .ok (.aload_n 0, 1) := by decide +kernel
theorem dX5_make_33 : decode cX5_make 33 = .ok (.getfield 17, 3) := by decide +kernel
theorem dX5_make_36 : decode cX5_make 36 = .ok (.aload_n 0, 1) := by decide +kernel
theorem dX5_make_37 : decode cX5_make 37 = .ok (.getfield 76, 3) := by decide +kernel
theorem dX5_make_40 : decode cX5_make 40 = .ok (.lload 4, 2) := by decide +kernel
theorem dX5_make_42 : decode cX5_make 42 = .ok (.lastore, 1) := by decide +kernel
theorem dX5_make_43 : decode cX5_make 43 = .ok (.aload_n 0, 1) := by decide +kernel
theorem dX5_make_44 : decode cX5_make 44 = .ok (.getfield 20, 3) := by decide +kernel
theorem dX5_make_47 : decode cX5_make 47 = .ok (.aload_n 0, 1) := by decide +kernel
theorem dX5_make_48 : decode cX5_make 48 = .ok (.getfield 76, 3) := by decide +kernel
theorem dX5_make_51 : decode cX5_make 51 = .ok (.iconst (-1), 1) := by decide +kernel
theorem dX5_make_52 : decode cX5_make 52 = .ok (.iastore, 1) := by decide +kernel
theorem dX5_make_53 : decode cX5_make 53 = .ok (.aload_n 0, 1) := by decide +kernel
theorem dX5_make_54 : decode cX5_make 54 = .ok (.getfield 23, 3) := by decide +kernel
theorem dX5_make_57 : decode cX5_make 57 = .ok (.aload_n 0, 1) := by decide +kernel
theorem dX5_make_58 : decode cX5_make 58 = .ok (.getfield 76, 3) := by decide +kernel
theorem dX5_make_61 : decode cX5_make 61 = .ok (.iconst (-1), 1) := by decide +kernel
theorem dX5_make_62 : decode cX5_make 62 = .ok (.iastore, 1) := by decide +kernel
theorem dX5_make_63 : decode cX5_make 63 = .ok (.aload_n 0, 1) := by decide +kernel
theorem dX5_make_64 : decode cX5_make 64 = .ok (.getfield 26, 3) := by decide +kernel
theorem dX5_make_67 : decode cX5_make 67 = .ok (.aload_n 0, 1) := by decide +kernel
theorem dX5_make_68 : decode cX5_make 68 = .ok (.getfield 76, 3) := by decide +kernel
theorem dX5_make_71 : decode cX5_make 71 = .ok (.iconst 0, 1) := by decide +kernel
theorem dX5_make_72 : decode cX5_make 72 = .ok (.bastore, 1) := by decide +kernel
theorem dX5_make_73 : decode cX5_make 73 = .ok (.aload_n 0, 1) := by decide +kernel
theorem dX5_make_74 : decode cX5_make 74 = .ok (.dup, 1) := by decide +kernel
theorem dX5_make_75 : decode cX5_make 75 = .ok (.getfield 76, 3) := by decide +kernel
theorem dX5_make_78 : decode cX5_make 78 = .ok (.iconst 1, 1) := by decide +kernel
theorem dX5_make_79 : decode cX5_make 79 = .ok (.iadd, 1) := by decide +kernel
theorem dX5_make_80 : decode cX5_make 80 = .ok (.putfield 76, 3) := by decide +kernel
theorem dX5_make_83 : decode cX5_make 83 = .ok (.aload_n 0, 1) := by decide +kernel
theorem dX5_make_84 : decode cX5_make 84 = .ok (.getfield 76, 3) := by decide +kernel
theorem dX5_make_87 : decode cX5_make 87 = .ok (.iconst 1, 1) := by decide +kernel
theorem dX5_make_88 : decode cX5_make 88 = .ok (.isub, 1) := by decide +kernel
theorem dX5_make_89 : decode cX5_make 89 = .ok (.ireturn, 1) := by decide +kernel
theorem dX5_lot_0 : decode cX5_lot 0 = .ok (.aload_n 0, 1) := by decide +kernel
theorem dX5_lot_1 : decode cX5_lot 1 = .ok (.iconst 0, 1) := by decide +kernel
theorem dX5_lot_2 : decode cX5_lot 2 = .ok (.putfield 72, 3) := by decide +kernel
theorem dX5_lot_5 : decode cX5_lot 5 = .ok (.lload_n 1, 1) := by decide +kernel
theorem dX5_lot_6 : decode cX5_lot 6 = .ok (.lconst 1, 1) := by decide +kernel
theorem dX5_lot_7 : decode cX5_lot 7 = .ok (.lcmp, 1) := by decide +kernel
theorem dX5_lot_8 : decode cX5_lot 8 = .ok (.ifCond .lt 25, 3) := by decide +kernel
theorem dX5_lot_11 : decode cX5_lot 11 = .ok (.lload_n 1, 1) := by decide +kernel
theorem dX5_lot_12 : decode cX5_lot 12 = .ok (.ldc2_w 83, 3) := by decide +kernel
theorem dX5_lot_15 : decode cX5_lot 15 = .ok (.lcmp, 1) := by decide +kernel
theorem dX5_lot_16 : decode cX5_lot 16 = .ok (.ifCond .gt 17, 3) := by decide +kernel
theorem dX5_lot_19 : decode cX5_lot 19 = .ok (.lload_n 3, 1) := by decide +kernel
theorem dX5_lot_20 : decode cX5_lot 20 = .ok (.lconst 0, 1) := by decide +kernel
theorem dX5_lot_21 : decode cX5_lot 21 = .ok (.lcmp, 1) := by decide +kernel
theorem dX5_lot_22 : decode cX5_lot 22 = .ok (.ifCond .lt 11, 3) := by decide +kernel
theorem dX5_lot_25 : decode cX5_lot 25 = .ok (.lload_n 3, 1) := by decide +kernel
theorem dX5_lot_26 : decode cX5_lot 26 = .ok (.ldc2_w 85, 3) := by decide +kernel
theorem dX5_lot_29 : decode cX5_lot 29 = .ok (.lcmp, 1) := by decide +kernel
theorem dX5_lot_30 : decode cX5_lot 30 = .ok (.ifCond .le 7, 3) := by decide +kernel
theorem dX5_lot_33 : decode cX5_lot 33 = .ok (.iconst (-1), 1) := by decide +kernel
theorem dX5_lot_34 : decode cX5_lot 34 = .ok (.goto 10, 3) := by decide +kernel
theorem dX5_lot_37 : decode cX5_lot 37 = .ok (.aload_n 0, 1) := by decide +kernel
theorem dX5_lot_38 : decode cX5_lot 38 = .ok (.iconst (-1), 1) := by decide +kernel
theorem dX5_lot_39 : decode cX5_lot 39 = .ok (.lload_n 1, 1) := by decide +kernel
theorem dX5_lot_40 : decode cX5_lot 40 = .ok (.lload_n 3, 1) := by decide +kernel
theorem dX5_lot_41 : decode cX5_lot 41 = .ok (.invokevirtual 87, 3) := by decide +kernel
theorem dX5_lot_44 : decode cX5_lot 44 = .ok (.ireturn, 1) := by decide +kernel
theorem dX5_thing_0 : decode cX5_thing 0 = .ok (.aload_n 0, 1) := by decide +kernel
theorem dX5_thing_1 : decode cX5_thing 1 = .ok (.iconst 0, 1) := by decide +kernel
theorem dX5_thing_2 : decode cX5_thing 2 = .ok (.putfield 72, 3) := by decide +kernel
theorem dX5_thing_5 : decode cX5_thing 5 = .ok (.iload_n 1, 1) := by decide +kernel
theorem dX5_thing_6 : decode cX5_thing 6 = .ok (.ifCond .lt 8, 3) := by decide +kernel
theorem dX5_thing_9 : decode cX5_thing 9 = .ok (.iload_n 1, 1) := by decide +kernel
theorem dX5_thing_10 : decode cX5_thing 10 = .ok (.iconst 4, 1) := by decide +kernel
theorem dX5_thing_11 : decode cX5_thing 11 = .ok (.if_icmp .le 7, 3) := by decide +kernel
theorem dX5_thing_14 : decode cX5_thing 14 = .ok (.iconst (-1), 1) := by decide +kernel
theorem dX5_thing_15 : decode cX5_thing 15 = .ok (.goto 10, 3) := by decide +kernel
theorem dX5_thing_18 : decode cX5_thing 18 = .ok (.aload_n 0, 1) := by decide +kernel
theorem dX5_thing_19 : decode cX5_thing 19 = .ok (.iload_n 1, 1) := by decide +kernel
theorem dX5_thing_20 : decode cX5_thing 20 = .ok (.lconst 0, 1) := by decide +kernel
theorem dX5_thing_21 : decode cX5_thing 21 = .ok (.lconst 0, 1) := by decide +kernel
theorem dX5_thing_22 : decode cX5_thing 22 = .ok (.invokevirtual 87, 3) := by decide +kernel
theorem dX5_thing_25 : decode cX5_thing 25 = .ok (.ireturn, 1) := by decide +kernel
theorem dX5_part_0 : decode cX5_part 0 = .ok (.lload_n 2, 1) := by decide +kernel
theorem dX5_part_1 : decode cX5_part 1 = .ok (.lstore 6, 2) := by decide +kernel
theorem dX5_part_3 : decode cX5_part 3 = .ok (.iconst 0, 1) := by decide +kernel
theorem dX5_part_4 : decode cX5_part 4 = .ok (.istore 8, 2) := by decide +kernel
theorem dX5_part_6 : decode cX5_part 6 = .ok (.iload 8, 2) := by decide +kernel
theorem dX5_part_8 : decode cX5_part 8 = .ok (.aload_n 0, 1) := by decide +kernel
theorem dX5_part_9 : decode cX5_part 9 = .ok (.getfield 76, 3) := by decide +kernel
theorem dX5_part_12 : decode cX5_part 12 = .ok (.if_icmp .ge 63, 3) := by decide +kernel
theorem dX5_part_15 : decode cX5_part 15 = .ok (.aload_n 0, 1) := by decide +kernel
theorem dX5_part_16 : decode cX5_part 16 = .ok (.getfield 42, 3) := by decide +kernel
theorem dX5_part_19 : decode cX5_part 19 = .ok (.bipush 48, 2) := by decide +kernel
theorem dX5_part_21 : decode cX5_part 21 = .ok (.iload_n 1, 1) := by decide +kernel
theorem dX5_part_22 : decode cX5_part 22 = .ok (.imul, 1) := by decide +kernel
theorem dX5_part_23 : decode cX5_part 23 = .ok (.iload 8, 2) := by decide +kernel
theorem dX5_part_25 : decode cX5_part 25 = .ok (.iadd, 1) := by decide +kernel
theorem dX5_part_26 : decode cX5_part 26 = .ok (.laload, 1) := by decide +kernel
theorem dX5_part_27 : decode cX5_part 27 = .ok (.lstore 9, 2) := by decide +kernel
theorem dX5_part_29 : decode cX5_part 29 = .ok (.aload_n 0, 1) := by decide +kernel
theorem dX5_part_30 : decode cX5_part 30 = .ok (.getfield 54, 3) := by decide +kernel
theorem dX5_part_33 : decode cX5_part 33 = .ok (.iload 8, 2) := by decide +kernel
theorem dX5_part_35 : decode cX5_part 35 = .ok (.lload 9, 2) := by decide +kernel
theorem dX5_part_37 : decode cX5_part 37 = .ok (.lload_n 2, 1) := by decide +kernel
theorem dX5_part_38 : decode cX5_part 38 = .ok (.lmul, 1) := by decide +kernel
theorem dX5_part_39 : decode cX5_part 39 = .ok (.lload 4, 2) := by decide +kernel
theorem dX5_part_41 : decode cX5_part 41 = .ok (.ldiv, 1) := by decide +kernel
theorem dX5_part_42 : decode cX5_part 42 = .ok (.lastore, 1) := by decide +kernel
theorem dX5_part_43 : decode cX5_part 43 = .ok (.aload_n 0, 1) := by decide +kernel
theorem dX5_part_44 : decode cX5_part 44 = .ok (.getfield 51, 3) := by decide +kernel
theorem dX5_part_47 : decode cX5_part 47 = .ok (.iload 8, 2) := by decide +kernel
theorem dX5_part_49 : decode cX5_part 49 = .ok (.lload 9, 2) := by decide +kernel
theorem dX5_part_51 : decode cX5_part 51 = .ok (.lload_n 2, 1) := by decide +kernel
theorem dX5_part_52 : decode cX5_part 52 = .ok (.lmul, 1) := by decide +kernel
theorem dX5_part_53 : decode cX5_part 53 = .ok (.lload 4, 2) := by decide +kernel
theorem dX5_part_55 : decode cX5_part 55 = .ok (.lrem, 1) := by decide +kernel
theorem dX5_part_56 : decode cX5_part 56 = .ok (.lastore, 1) := by decide +kernel
theorem dX5_part_57 : decode cX5_part 57 = .ok (.lload 6, 2) := by decide +kernel
theorem dX5_part_59 : decode cX5_part 59 = .ok (.aload_n 0, 1) := by decide +kernel
theorem dX5_part_60 : decode cX5_part 60 = .ok (.getfield 54, 3) := by decide +kernel
theorem dX5_part_63 : decode cX5_part 63 = .ok (.iload 8, 2) := by decide +kernel
theorem dX5_part_65 : decode cX5_part 65 = .ok (.laload, 1) := by decide +kernel
theorem dX5_part_66 : decode cX5_part 66 = .ok (.lsub, 1) := by decide +kernel
theorem dX5_part_67 : decode cX5_part 67 = .ok (.lstore 6, 2) := by decide +kernel
theorem dX5_part_69 : decode cX5_part 69 = .ok (.iinc 8 1, 3) := by decide +kernel
theorem dX5_part_72 : decode cX5_part 72 = .ok (.goto (-66), 3) := by decide +kernel
theorem dX5_part_75 : decode cX5_part 75 = .ok (.lload 6, 2) := by decide +kernel
theorem dX5_part_77 : decode cX5_part 77 = .ok (.lconst 0, 1) := by decide +kernel
theorem dX5_part_78 : decode cX5_part 78 = .ok (.lcmp, 1) := by decide +kernel
theorem dX5_part_79 : decode cX5_part 79 = .ok (.ifCond .le 81, 3) := by decide +kernel
theorem dX5_part_82 : decode cX5_part 82 = .ok (.iconst 0, 1) := by decide +kernel
theorem dX5_part_83 : decode cX5_part 83 = .ok (.istore 8, 2) := by decide +kernel
theorem dX5_part_85 : decode cX5_part 85 = .ok (.iconst 1, 1) := by decide +kernel
theorem dX5_part_86 : decode cX5_part 86 = .ok (.istore 9, 2) := by decide +kernel
theorem dX5_part_88 : decode cX5_part 88 = .ok (.iload 9, 2) := by decide +kernel
theorem dX5_part_90 : decode cX5_part 90 = .ok (.aload_n 0, 1) := by decide +kernel
theorem dX5_part_91 : decode cX5_part 91 = .ok (.getfield 76, 3) := by decide +kernel
theorem dX5_part_94 : decode cX5_part 94 = .ok (.if_icmp .ge 36, 3) := by decide +kernel
theorem dX5_part_97 : decode cX5_part 97 = .ok (.aload_n 0, 1) := by decide +kernel
theorem dX5_part_98 : decode cX5_part 98 = .ok (.getfield 51, 3) := by decide +kernel
theorem dX5_part_101 : decode cX5_part 101 = .ok (.iload 9, 2) := by decide +kernel
theorem dX5_part_103 : decode cX5_part 103 = .ok (.laload, 1) := by decide +kernel
theorem dX5_part_104 : decode cX5_part 104 = .ok (.aload_n 0, 1) := by decide +kernel
theorem dX5_part_105 : decode cX5_part 105 = .ok (.getfield 51, 3) := by decide +kernel
theorem dX5_part_108 : decode cX5_part 108 = .ok (.iload 8, 2) := by decide +kernel
theorem dX5_part_110 : decode cX5_part 110 = .ok (.laload, 1) := by decide +kernel
theorem dX5_part_111 : decode cX5_part 111 = .ok (.lcmp, 1) := by decide +kernel
theorem dX5_part_112 : decode cX5_part 112 = .ok (.ifCond .le 8, 3) := by decide +kernel
theorem dX5_part_115 : decode cX5_part 115 = .ok (.iload 9, 2) := by decide +kernel
theorem dX5_part_117 : decode cX5_part 117 = .ok (.goto 5, 3) := by decide +kernel
theorem dX5_part_120 : decode cX5_part 120 = .ok (.iload 8, 2) := by decide +kernel
theorem dX5_part_122 : decode cX5_part 122 = .ok (.istore 8, 2) := by decide +kernel
theorem dX5_part_124 : decode cX5_part 124 = .ok (.iinc 9 1, 3) := by decide +kernel
theorem dX5_part_127 : decode cX5_part 127 = .ok (.goto (-39), 3) := by decide +kernel
theorem dX5_part_130 : decode cX5_part 130 = .ok (.aload_n 0, 1) := by decide +kernel
theorem dX5_part_131 : decode cX5_part 131 = .ok (.getfield 54, 3) := by decide +kernel
theorem dX5_part_134 : decode cX5_part 134 = .ok (.iload 8, 2) := by decide +kernel
theorem dX5_part_136 : decode cX5_part 136 = .ok (.dup2, 1) := by decide +kernel
theorem dX5_part_137 : decode cX5_part 137 = .ok (.laload, 1) := by decide +kernel
theorem dX5_part_138 : decode cX5_part 138 = .ok (.lconst 1, 1) := by decide +kernel
theorem dX5_part_139 : decode cX5_part 139 = .ok (.ladd, 1) := by decide +kernel
theorem dX5_part_140 : decode cX5_part 140 = .ok (.lastore, 1) := by decide +kernel
theorem dX5_part_141 : decode cX5_part 141 = .ok (.aload_n 0, 1) := by decide +kernel
theorem dX5_part_142 : decode cX5_part 142 = .ok (.getfield 51, 3) := by decide +kernel
theorem dX5_part_145 : decode cX5_part 145 = .ok (.iload 8, 2) := by decide +kernel
theorem dX5_part_147 : decode cX5_part 147 = .ok (.ldc2_w 91, 3) := by decide +kernel
theorem dX5_part_150 : decode cX5_part 150 = .ok (.lastore, 1) := by decide +kernel
theorem dX5_part_151 : decode cX5_part 151 = .ok (.lload 6, 2) := by decide +kernel
theorem dX5_part_153 : decode cX5_part 153 = .ok (.lconst 1, 1) := by decide +kernel
theorem dX5_part_154 : decode cX5_part 154 = .ok (.lsub, 1) := by decide +kernel
theorem dX5_part_155 : decode cX5_part 155 = .ok (.lstore 6, 2) := by decide +kernel
theorem dX5_part_157 : decode cX5_part 157 = .ok (.goto (-82), 3) := by decide +kernel
theorem dX5_part_160 : decode cX5_part 160 = .ok (.return_, 1) := by decide +kernel
theorem dX5_walk_0 : decode cX5_walk 0 = .ok (.iconst 0, 1) := by decide +kernel
theorem dX5_walk_1 : decode cX5_walk 1 = .ok (.istore_n 1, 1) := by decide +kernel
theorem dX5_walk_2 : decode cX5_walk 2 = .ok (.iload_n 1, 1) := by decide +kernel
theorem dX5_walk_3 : decode cX5_walk 3 = .ok (.aload_n 0, 1) := by decide +kernel
theorem dX5_walk_4 : decode cX5_walk 4 = .ok (.getfield 76, 3) := by decide +kernel
theorem dX5_walk_7 : decode cX5_walk 7 = .ok (.if_icmp .ge 83, 3) := by decide +kernel
theorem dX5_walk_10 : decode cX5_walk 10 = .ok (.iconst 0, 1) := by decide +kernel
theorem dX5_walk_11 : decode cX5_walk 11 = .ok (.istore_n 2, 1) := by decide +kernel
theorem dX5_walk_12 : decode cX5_walk 12 = .ok (.iload_n 2, 1) := by decide +kernel
theorem dX5_walk_13 : decode cX5_walk 13 = .ok (.aload_n 0, 1) := by decide +kernel
theorem dX5_walk_14 : decode cX5_walk 14 = .ok (.getfield 76, 3) := by decide +kernel
theorem dX5_walk_17 : decode cX5_walk 17 = .ok (.if_icmp .ge 67, 3) := by decide +kernel
theorem dX5_walk_20 : decode cX5_walk 20 = .ok (.iload_n 1, 1) := by decide +kernel
theorem dX5_walk_21 : decode cX5_walk 21 = .ok (.iload_n 2, 1) := by decide +kernel
theorem dX5_walk_22 : decode cX5_walk 22 = .ok (.if_icmp .ne 17, 3) := by decide +kernel
theorem dX5_walk_25 : decode cX5_walk 25 = .ok (.aload_n 0, 1) := by decide +kernel
theorem dX5_walk_26 : decode cX5_walk 26 = .ok (.getfield 9, 3) := by decide +kernel
theorem dX5_walk_29 : decode cX5_walk 29 = .ok (.iload_n 1, 1) := by decide +kernel
theorem dX5_walk_30 : decode cX5_walk 30 = .ok (.iaload, 1) := by decide +kernel
theorem dX5_walk_31 : decode cX5_walk 31 = .ok (.iconst (-1), 1) := by decide +kernel
theorem dX5_walk_32 : decode cX5_walk 32 = .ok (.if_icmp .ne 7, 3) := by decide +kernel
theorem dX5_walk_35 : decode cX5_walk 35 = .ok (.iconst 1, 1) := by decide +kernel
theorem dX5_walk_36 : decode cX5_walk 36 = .ok (.goto 4, 3) := by decide +kernel
theorem dX5_walk_39 : decode cX5_walk 39 = .ok (.iconst 0, 1) := by decide +kernel
theorem dX5_walk_40 : decode cX5_walk 40 = .ok (.istore_n 3, 1) := by decide +kernel
theorem dX5_walk_41 : decode cX5_walk 41 = .ok (.aload_n 0, 1) := by decide +kernel
theorem dX5_walk_42 : decode cX5_walk 42 = .ok (.getfield 42, 3) := by decide +kernel
theorem dX5_walk_45 : decode cX5_walk 45 = .ok (.bipush 48, 2) := by decide +kernel
theorem dX5_walk_47 : decode cX5_walk 47 = .ok (.iload_n 1, 1) := by decide +kernel
theorem dX5_walk_48 : decode cX5_walk 48 = .ok (.imul, 1) := by decide +kernel
theorem dX5_walk_49 : decode cX5_walk 49 = .ok (.iload_n 2, 1) := by decide +kernel
theorem dX5_walk_50 : decode cX5_walk 50 = .ok (.iadd, 1) := by decide +kernel
theorem dX5_walk_51 : decode cX5_walk 51 = .ok (.iload_n 3, 1) := by decide +kernel
theorem dX5_walk_52 : decode cX5_walk 52 = .ok (.ifCond .eq 12, 3) := by decide +kernel
theorem dX5_walk_55 : decode cX5_walk 55 = .ok (.aload_n 0, 1) := by decide +kernel
theorem dX5_walk_56 : decode cX5_walk 56 = .ok (.getfield 13, 3) := by decide +kernel
theorem dX5_walk_59 : decode cX5_walk 59 = .ok (.iload_n 1, 1) := by decide +kernel
theorem dX5_walk_60 : decode cX5_walk 60 = .ok (.laload, 1) := by decide +kernel
theorem dX5_walk_61 : decode cX5_walk 61 = .ok (.goto 4, 3) := by decide +kernel
theorem dX5_walk_64 : decode cX5_walk 64 = .ok (.lconst 0, 1) := by decide +kernel
theorem dX5_walk_65 : decode cX5_walk 65 = .ok (.lastore, 1) := by decide +kernel
theorem dX5_walk_66 : decode cX5_walk 66 = .ok (.aload_n 0, 1) := by decide +kernel
theorem dX5_walk_67 : decode cX5_walk 67 = .ok (.getfield 45, 3) := by decide +kernel
theorem dX5_walk_70 : decode cX5_walk 70 = .ok (.bipush 48, 2) := by decide +kernel
theorem dX5_walk_72 : decode cX5_walk 72 = .ok (.iload_n 1, 1) := by decide +kernel
theorem dX5_walk_73 : decode cX5_walk 73 = .ok (.imul, 1) := by decide +kernel
theorem dX5_walk_74 : decode cX5_walk 74 = .ok (.iload_n 2, 1) := by decide +kernel
theorem dX5_walk_75 : decode cX5_walk 75 = .ok (.iadd, 1) := by decide +kernel
theorem dX5_walk_76 : decode cX5_walk 76 = .ok (.iload_n 3, 1) := by decide +kernel
theorem dX5_walk_77 : decode cX5_walk 77 = .ok (.bastore, 1) := by decide +kernel
theorem dX5_walk_78 : decode cX5_walk 78 = .ok (.iinc 2 1, 3) := by decide +kernel
theorem dX5_walk_81 : decode cX5_walk 81 = .ok (.goto (-69), 3) := by decide +kernel
theorem dX5_walk_84 : decode cX5_walk 84 = .ok (.iinc 1 1, 3) := by decide +kernel
theorem dX5_walk_87 : decode cX5_walk 87 = .ok (.goto (-85), 3) := by decide +kernel
theorem dX5_walk_90 : decode cX5_walk 90 = .ok (.iconst 0, 1) := by decide +kernel
theorem dX5_walk_91 : decode cX5_walk 91 = .ok (.istore_n 1, 1) := by decide +kernel
theorem dX5_walk_92 : decode cX5_walk 92 = .ok (.iload_n 1, 1) := by decide +kernel
theorem dX5_walk_93 : decode cX5_walk 93 = .ok (.aload_n 0, 1) := by decide +kernel
theorem dX5_walk_94 : decode cX5_walk 94 = .ok (.getfield 93, 3) := by decide +kernel
theorem dX5_walk_97 : decode cX5_walk 97 = .ok (.if_icmp .ge 65, 3) := by decide +kernel
theorem dX5_walk_100 : decode cX5_walk 100 = .ok (.iload_n 1, 1) := by decide +kernel
theorem dX5_walk_101 : decode cX5_walk 101 = .ok (.istore_n 2, 1) := by decide +kernel
theorem dX5_walk_102 : decode cX5_walk 102 = .ok (.iload_n 2, 1) := by decide +kernel
theorem dX5_walk_103 : decode cX5_walk 103 = .ok (.ifCond .le 46, 3) := by decide +kernel
theorem dX5_walk_106 : decode cX5_walk 106 = .ok (.aload_n 0, 1) := by decide +kernel
theorem dX5_walk_107 : decode cX5_walk 107 = .ok (.getfield 39, 3) := by decide +kernel
theorem dX5_walk_110 : decode cX5_walk 110 = .ok (.aload_n 0, 1) := by decide +kernel
theorem dX5_walk_111 : decode cX5_walk 111 = .ok (.getfield 57, 3) := by decide +kernel
theorem dX5_walk_114 : decode cX5_walk 114 = .ok (.iload_n 2, 1) := by decide +kernel
theorem dX5_walk_115 : decode cX5_walk 115 = .ok (.iconst 1, 1) := by decide +kernel
theorem dX5_walk_116 : decode cX5_walk 116 = .ok (.isub, 1) := by decide +kernel
theorem dX5_walk_117 : decode cX5_walk 117 = .ok (.iaload, 1) := by decide +kernel
theorem dX5_walk_118 : decode cX5_walk 118 = .ok (.laload, 1) := by decide +kernel
theorem dX5_walk_119 : decode cX5_walk 119 = .ok (.aload_n 0, 1) := by decide +kernel
theorem dX5_walk_120 : decode cX5_walk 120 = .ok (.getfield 39, 3) := by decide +kernel
theorem dX5_walk_123 : decode cX5_walk 123 = .ok (.iload_n 1, 1) := by decide +kernel
theorem dX5_walk_124 : decode cX5_walk 124 = .ok (.laload, 1) := by decide +kernel
theorem dX5_walk_125 : decode cX5_walk 125 = .ok (.lcmp, 1) := by decide +kernel
theorem dX5_walk_126 : decode cX5_walk 126 = .ok (.ifCond .le 23, 3) := by decide +kernel
theorem dX5_walk_129 : decode cX5_walk 129 = .ok (.aload_n 0, 1) := by decide +kernel
theorem dX5_walk_130 : decode cX5_walk 130 = .ok (.getfield 57, 3) := by decide +kernel
theorem dX5_walk_133 : decode cX5_walk 133 = .ok (.iload_n 2, 1) := by decide +kernel
theorem dX5_walk_134 : decode cX5_walk 134 = .ok (.aload_n 0, 1) := by decide +kernel
theorem dX5_walk_135 : decode cX5_walk 135 = .ok (.getfield 57, 3) := by decide +kernel
theorem dX5_walk_138 : decode cX5_walk 138 = .ok (.iload_n 2, 1) := by decide +kernel
theorem dX5_walk_139 : decode cX5_walk 139 = .ok (.iconst 1, 1) := by decide +kernel
theorem dX5_walk_140 : decode cX5_walk 140 = .ok (.isub, 1) := by decide +kernel
theorem dX5_walk_141 : decode cX5_walk 141 = .ok (.iaload, 1) := by decide +kernel
theorem dX5_walk_142 : decode cX5_walk 142 = .ok (.iastore, 1) := by decide +kernel
theorem dX5_walk_143 : decode cX5_walk 143 = .ok (.iinc 2 (-1), 3) := by decide +kernel
theorem dX5_walk_146 : decode cX5_walk 146 = .ok (.goto (-44), 3) := by decide +kernel
theorem dX5_walk_149 : decode cX5_walk 149 = .ok (.aload_n 0, 1) := by decide +kernel
theorem dX5_walk_150 : decode cX5_walk 150 = .ok (.getfield 57, 3) := by decide +kernel
theorem dX5_walk_153 : decode cX5_walk 153 = .ok (.iload_n 2, 1) := by decide +kernel
theorem dX5_walk_154 : decode cX5_walk 154 = .ok (.iload_n 1, 1) := by decide +kernel
theorem dX5_walk_155 : decode cX5_walk 155 = .ok (.iastore, 1) := by decide +kernel
theorem dX5_walk_156 : decode cX5_walk 156 = .ok (.iinc 1 1, 3) := by decide +kernel
theorem dX5_walk_159 : decode cX5_walk 159 = .ok (.goto (-67), 3) := by decide +kernel
theorem dX5_walk_162 : decode cX5_walk 162 = .ok (.iconst 0, 1) := by decide +kernel
theorem dX5_walk_163 : decode cX5_walk 163 = .ok (.istore_n 1, 1) := by decide +kernel
theorem dX5_walk_164 : decode cX5_walk 164 = .ok (.iload_n 1, 1) := by decide +kernel
theorem dX5_walk_165 : decode cX5_walk 165 = .ok (.aload_n 0, 1) := by decide +kernel
theorem dX5_walk_166 : decode cX5_walk 166 = .ok (.getfield 93, 3) := by decide +kernel
theorem dX5_walk_169 : decode cX5_walk 169 = .ok (.if_icmp .ge 215, 3) := by decide +kernel
theorem dX5_walk_172 : decode cX5_walk 172 = .ok (.aload_n 0, 1) := by decide +kernel
theorem dX5_walk_173 : decode cX5_walk 173 = .ok (.getfield 57, 3) := by decide +kernel
theorem dX5_walk_176 : decode cX5_walk 176 = .ok (.iload_n 1, 1) := by decide +kernel
theorem dX5_walk_177 : decode cX5_walk 177 = .ok (.iaload, 1) := by decide +kernel
theorem dX5_walk_178 : decode cX5_walk 178 = .ok (.istore_n 2, 1) := by decide +kernel
theorem dX5_walk_179 : decode cX5_walk 179 = .ok (.aload_n 0, 1) := by decide +kernel
theorem dX5_walk_180 : decode cX5_walk 180 = .ok (.getfield 30, 3) := by decide +kernel
theorem dX5_walk_183 : decode cX5_walk 183 = .ok (.iload_n 2, 1) := by decide +kernel
theorem dX5_walk_184 : decode cX5_walk 184 = .ok (.iaload, 1) := by decide +kernel
theorem dX5_walk_185 : decode cX5_walk 185 = .ok (.istore_n 3, 1) := by decide +kernel
theorem dX5_walk_186 : decode cX5_walk 186 = .ok (.aload_n 0, 1) := by decide +kernel
theorem dX5_walk_187 : decode cX5_walk 187 = .ok (.iload_n 3, 1) := by decide +kernel
theorem dX5_walk_188 : decode cX5_walk 188 = .ok (.invokevirtual 96, 3) := by decide +kernel
theorem dX5_walk_191 : decode cX5_walk 191 = .ok (.lstore 4, 2) := by decide +kernel
theorem dX5_walk_193 : decode cX5_walk 193 = .ok (.aload_n 0, 1) := by decide +kernel
theorem dX5_walk_194 : decode cX5_walk 194 = .ok (.getfield 36, 3) := by decide +kernel
theorem dX5_walk_197 : decode cX5_walk 197 = .ok (.iload_n 2, 1) := by decide +kernel
theorem dX5_walk_198 : decode cX5_walk 198 = .ok (.laload, 1) := by decide +kernel
theorem dX5_walk_199 : decode cX5_walk 199 = .ok (.lload 4, 2) := by decide +kernel
theorem dX5_walk_201 : decode cX5_walk 201 = .ok (.lcmp, 1) := by decide +kernel
theorem dX5_walk_202 : decode cX5_walk 202 = .ok (.ifCond .gt 29, 3) := by decide +kernel
theorem dX5_walk_205 : decode cX5_walk 205 = .ok (.aload_n 0, 1) := by decide +kernel
theorem dX5_walk_206 : decode cX5_walk 206 = .ok (.getfield 9, 3) := by decide +kernel
theorem dX5_walk_209 : decode cX5_walk 209 = .ok (.iload_n 3, 1) := by decide +kernel
theorem dX5_walk_210 : decode cX5_walk 210 = .ok (.iaload, 1) := by decide +kernel
theorem dX5_walk_211 : decode cX5_walk 211 = .ok (.iconst (-1), 1) := by decide +kernel
theorem dX5_walk_212 : decode cX5_walk 212 = .ok (.if_icmp .ne 21, 3) := by decide +kernel
theorem dX5_walk_215 : decode cX5_walk 215 = .ok (.aload_n 0, 1) := by decide +kernel
theorem dX5_walk_216 : decode cX5_walk 216 = .ok (.getfield 39, 3) := by decide +kernel
theorem dX5_walk_219 : decode cX5_walk 219 = .ok (.iload_n 2, 1) := by decide +kernel
theorem dX5_walk_220 : decode cX5_walk 220 = .ok (.laload, 1) := by decide +kernel
theorem dX5_walk_221 : decode cX5_walk 221 = .ok (.aload_n 0, 1) := by decide +kernel
theorem dX5_walk_222 : decode cX5_walk 222 = .ok (.getfield 17, 3) := by decide +kernel
theorem dX5_walk_225 : decode cX5_walk 225 = .ok (.iload_n 3, 1) := by decide +kernel
theorem dX5_walk_226 : decode cX5_walk 226 = .ok (.laload, 1) := by decide +kernel
theorem dX5_walk_227 : decode cX5_walk 227 = .ok (.lcmp, 1) := by decide +kernel
theorem dX5_walk_228 : decode cX5_walk 228 = .ok (.ifCond .ge 5, 3) := by decide +kernel
theorem dX5_walk_231 : decode cX5_walk 231 = .ok (.iconst 0, 1) := by decide +kernel
theorem dX5_walk_232 : decode cX5_walk 232 = .ok (.ireturn, 1) := by decide +kernel
theorem dX5_walk_233 : decode cX5_walk 233 = .ok (.aload_n 0, 1) := by decide +kernel
theorem dX5_walk_234 : decode cX5_walk 234 = .ok (.getfield 36, 3) := by decide +kernel
theorem dX5_walk_237 : decode cX5_walk 237 = .ok (.iload_n 2, 1) := by decide +kernel
theorem dX5_walk_238 : decode cX5_walk 238 = .ok (.laload, 1) := by decide +kernel
theorem dX5_walk_239 : decode cX5_walk 239 = .ok (.lconst 0, 1) := by decide +kernel
theorem dX5_walk_240 : decode cX5_walk 240 = .ok (.lcmp, 1) := by decide +kernel
theorem dX5_walk_241 : decode cX5_walk 241 = .ok (.ifCond .le 137, 3) := by decide +kernel
theorem dX5_walk_244 : decode cX5_walk 244 = .ok (.aload_n 0, 1) := by decide +kernel
theorem dX5_walk_245 : decode cX5_walk 245 = .ok (.iload_n 3, 1) := by decide +kernel
theorem dX5_walk_246 : decode cX5_walk 246 = .ok (.aload_n 0, 1) := by decide +kernel
theorem dX5_walk_247 : decode cX5_walk 247 = .ok (.getfield 36, 3) := by decide +kernel
theorem dX5_walk_250 : decode cX5_walk 250 = .ok (.iload_n 2, 1) := by decide +kernel
theorem dX5_walk_251 : decode cX5_walk 251 = .ok (.laload, 1) := by decide +kernel
theorem dX5_walk_252 : decode cX5_walk 252 = .ok (.lload 4, 2) := by decide +kernel
theorem dX5_walk_254 : decode cX5_walk 254 = .ok (.invokevirtual 100, 3) := by decide +kernel
theorem dX5_walk_257 : decode cX5_walk 257 = .ok (.iconst 0, 1) := by decide +kernel
theorem dX5_walk_258 : decode cX5_walk 258 = .ok (.istore 6, 2) := by decide +kernel
theorem dX5_walk_260 : decode cX5_walk 260 = .ok (.iload 6, 2) := by decide +kernel
theorem dX5_walk_262 : decode cX5_walk 262 = .ok (.aload_n 0, 1) := by decide +kernel
theorem dX5_walk_263 : decode cX5_walk 263 = .ok (.getfield 76, 3) := by decide +kernel
theorem dX5_walk_266 : decode cX5_walk 266 = .ok (.if_icmp .ge 112, 3) := by decide +kernel
theorem dX5_walk_269 : decode cX5_walk 269 = .ok (.aload_n 0, 1) := by decide +kernel
theorem dX5_walk_270 : decode cX5_walk 270 = .ok (.getfield 42, 3) := by decide +kernel
theorem dX5_walk_273 : decode cX5_walk 273 = .ok (.bipush 48, 2) := by decide +kernel
theorem dX5_walk_275 : decode cX5_walk 275 = .ok (.iload_n 3, 1) := by decide +kernel
theorem dX5_walk_276 : decode cX5_walk 276 = .ok (.imul, 1) := by decide +kernel
theorem dX5_walk_277 : decode cX5_walk 277 = .ok (.iload 6, 2) := by decide +kernel
theorem dX5_walk_279 : decode cX5_walk 279 = .ok (.iadd, 1) := by decide +kernel
theorem dX5_walk_280 : decode cX5_walk 280 = .ok (.dup2, 1) := by decide +kernel
theorem dX5_walk_281 : decode cX5_walk 281 = .ok (.laload, 1) := by decide +kernel
theorem dX5_walk_282 : decode cX5_walk 282 = .ok (.aload_n 0, 1) := by decide +kernel
theorem dX5_walk_283 : decode cX5_walk 283 = .ok (.getfield 54, 3) := by decide +kernel
theorem dX5_walk_286 : decode cX5_walk 286 = .ok (.iload 6, 2) := by decide +kernel
theorem dX5_walk_288 : decode cX5_walk 288 = .ok (.laload, 1) := by decide +kernel
theorem dX5_walk_289 : decode cX5_walk 289 = .ok (.lsub, 1) := by decide +kernel
theorem dX5_walk_290 : decode cX5_walk 290 = .ok (.lastore, 1) := by decide +kernel
theorem dX5_walk_291 : decode cX5_walk 291 = .ok (.aload_n 0, 1) := by decide +kernel
theorem dX5_walk_292 : decode cX5_walk 292 = .ok (.getfield 42, 3) := by decide +kernel
theorem dX5_walk_295 : decode cX5_walk 295 = .ok (.bipush 48, 2) := by decide +kernel
theorem dX5_walk_297 : decode cX5_walk 297 = .ok (.aload_n 0, 1) := by decide +kernel
theorem dX5_walk_298 : decode cX5_walk 298 = .ok (.getfield 33, 3) := by decide +kernel
theorem dX5_walk_301 : decode cX5_walk 301 = .ok (.iload_n 2, 1) := by decide +kernel
theorem dX5_walk_302 : decode cX5_walk 302 = .ok (.iaload, 1) := by decide +kernel
theorem dX5_walk_303 : decode cX5_walk 303 = .ok (.imul, 1) := by decide +kernel
theorem dX5_walk_304 : decode cX5_walk 304 = .ok (.iload 6, 2) := by decide +kernel
theorem dX5_walk_306 : decode cX5_walk 306 = .ok (.iadd, 1) := by decide +kernel
theorem dX5_walk_307 : decode cX5_walk 307 = .ok (.dup2, 1) := by decide +kernel
theorem dX5_walk_308 : decode cX5_walk 308 = .ok (.laload, 1) := by decide +kernel
theorem dX5_walk_309 : decode cX5_walk 309 = .ok (.aload_n 0, 1) := by decide +kernel
theorem dX5_walk_310 : decode cX5_walk 310 = .ok (.getfield 54, 3) := by decide +kernel
theorem dX5_walk_313 : decode cX5_walk 313 = .ok (.iload 6, 2) := by decide +kernel
theorem dX5_walk_315 : decode cX5_walk 315 = .ok (.laload, 1) := by decide +kernel
theorem dX5_walk_316 : decode cX5_walk 316 = .ok (.ladd, 1) := by decide +kernel
theorem dX5_walk_317 : decode cX5_walk 317 = .ok (.lastore, 1) := by decide +kernel
theorem dX5_walk_318 : decode cX5_walk 318 = .ok (.aload_n 0, 1) := by decide +kernel
theorem dX5_walk_319 : decode cX5_walk 319 = .ok (.getfield 45, 3) := by decide +kernel
theorem dX5_walk_322 : decode cX5_walk 322 = .ok (.bipush 48, 2) := by decide +kernel
theorem dX5_walk_324 : decode cX5_walk 324 = .ok (.aload_n 0, 1) := by decide +kernel
theorem dX5_walk_325 : decode cX5_walk 325 = .ok (.getfield 33, 3) := by decide +kernel
theorem dX5_walk_328 : decode cX5_walk 328 = .ok (.iload_n 2, 1) := by decide +kernel
theorem dX5_walk_329 : decode cX5_walk 329 = .ok (.iaload, 1) := by decide +kernel
theorem dX5_walk_330 : decode cX5_walk 330 = .ok (.imul, 1) := by decide +kernel
theorem dX5_walk_331 : decode cX5_walk 331 = .ok (.iload 6, 2) := by decide +kernel
theorem dX5_walk_333 : decode cX5_walk 333 = .ok (.iadd, 1) := by decide +kernel
theorem dX5_walk_334 : decode cX5_walk 334 = .ok (.aload_n 0, 1) := by decide +kernel
theorem dX5_walk_335 : decode cX5_walk 335 = .ok (.getfield 45, 3) := by decide +kernel
theorem dX5_walk_338 : decode cX5_walk 338 = .ok (.bipush 48, 2) := by decide +kernel
theorem dX5_walk_340 : decode cX5_walk 340 = .ok (.aload_n 0, 1) := by decide +kernel
theorem dX5_walk_341 : decode cX5_walk 341 = .ok (.getfield 33, 3) := by decide +kernel
theorem dX5_walk_344 : decode cX5_walk 344 = .ok (.iload_n 2, 1) := by decide +kernel
theorem dX5_walk_345 : decode cX5_walk 345 = .ok (.iaload, 1) := by decide +kernel
theorem dX5_walk_346 : decode cX5_walk 346 = .ok (.imul, 1) := by decide +kernel
theorem dX5_walk_347 : decode cX5_walk 347 = .ok (.iload 6, 2) := by decide +kernel
theorem dX5_walk_349 : decode cX5_walk 349 = .ok (.iadd, 1) := by decide +kernel
theorem dX5_walk_350 : decode cX5_walk 350 = .ok (.baload, 1) := by decide +kernel
theorem dX5_walk_351 : decode cX5_walk 351 = .ok (.ifCond .ne 15, 3) := by decide +kernel
theorem dX5_walk_354 : decode cX5_walk 354 = .ok (.aload_n 0, 1) := by decide +kernel
theorem dX5_walk_355 : decode cX5_walk 355 = .ok (.getfield 54, 3) := by decide +kernel
theorem dX5_walk_358 : decode cX5_walk 358 = .ok (.iload 6, 2) := by decide +kernel
theorem dX5_walk_360 : decode cX5_walk 360 = .ok (.laload, 1) := by decide +kernel
theorem dX5_walk_361 : decode cX5_walk 361 = .ok (.lconst 0, 1) := by decide +kernel
theorem dX5_walk_362 : decode cX5_walk 362 = .ok (.lcmp, 1) := by decide +kernel
theorem dX5_walk_363 : decode cX5_walk 363 = .ok (.ifCond .le 7, 3) := by decide +kernel
theorem dX5_walk_366 : decode cX5_walk 366 = .ok (.iconst 1, 1) := by decide +kernel
theorem dX5_walk_367 : decode cX5_walk 367 = .ok (.goto 4, 3) := by decide +kernel
theorem dX5_walk_370 : decode cX5_walk 370 = .ok (.iconst 0, 1) := by decide +kernel
theorem dX5_walk_371 : decode cX5_walk 371 = .ok (.bastore, 1) := by decide +kernel
theorem dX5_walk_372 : decode cX5_walk 372 = .ok (.iinc 6 1, 3) := by decide +kernel
theorem dX5_walk_375 : decode cX5_walk 375 = .ok (.goto (-115), 3) := by decide +kernel
theorem dX5_walk_378 : decode cX5_walk 378 = .ok (.iinc 1 1, 3) := by decide +kernel
theorem dX5_walk_381 : decode cX5_walk 381 = .ok (.goto (-217), 3) := by decide +kernel
theorem dX5_walk_384 : decode cX5_walk 384 = .ok (.iconst 1, 1) := by decide +kernel
theorem dX5_walk_385 : decode cX5_walk 385 = .ok (.ireturn, 1) := by decide +kernel
theorem dX5_sum_0 : decode cX5_sum 0 = .ok (.lconst 0, 1) := by decide +kernel
theorem dX5_sum_1 : decode cX5_sum 1 = .ok (.lstore_n 2, 1) := by decide +kernel
theorem dX5_sum_2 : decode cX5_sum 2 = .ok (.iconst 0, 1) := by decide +kernel
theorem dX5_sum_3 : decode cX5_sum 3 = .ok (.istore 4, 2) := by decide +kernel
theorem dX5_sum_5 : decode cX5_sum 5 = .ok (.iload 4, 2) := by decide +kernel
theorem dX5_sum_7 : decode cX5_sum 7 = .ok (.aload_n 0, 1) := by decide +kernel
theorem dX5_sum_8 : decode cX5_sum 8 = .ok (.getfield 76, 3) := by decide +kernel
theorem dX5_sum_11 : decode cX5_sum 11 = .ok (.if_icmp .ge 24, 3) := by decide +kernel
theorem dX5_sum_14 : decode cX5_sum 14 = .ok (.lload_n 2, 1) := by decide +kernel
theorem dX5_sum_15 : decode cX5_sum 15 = .ok (.aload_n 0, 1) := by decide +kernel
theorem dX5_sum_16 : decode cX5_sum 16 = .ok (.getfield 42, 3) := by decide +kernel
theorem dX5_sum_19 : decode cX5_sum 19 = .ok (.bipush 48, 2) := by decide +kernel
theorem dX5_sum_21 : decode cX5_sum 21 = .ok (.iload_n 1, 1) := by decide +kernel
theorem dX5_sum_22 : decode cX5_sum 22 = .ok (.imul, 1) := by decide +kernel
theorem dX5_sum_23 : decode cX5_sum 23 = .ok (.iload 4, 2) := by decide +kernel
theorem dX5_sum_25 : decode cX5_sum 25 = .ok (.iadd, 1) := by decide +kernel
theorem dX5_sum_26 : decode cX5_sum 26 = .ok (.laload, 1) := by decide +kernel
theorem dX5_sum_27 : decode cX5_sum 27 = .ok (.ladd, 1) := by decide +kernel
theorem dX5_sum_28 : decode cX5_sum 28 = .ok (.lstore_n 2, 1) := by decide +kernel
theorem dX5_sum_29 : decode cX5_sum 29 = .ok (.iinc 4 1, 3) := by decide +kernel
theorem dX5_sum_32 : decode cX5_sum 32 = .ok (.goto (-27), 3) := by decide +kernel
theorem dX5_sum_35 : decode cX5_sum 35 = .ok (.lload_n 2, 1) := by decide +kernel
theorem dX5_sum_36 : decode cX5_sum 36 = .ok (.lreturn, 1) := by decide +kernel
theorem dX5_flow_0 : decode cX5_flow 0 = .ok (.aload_n 0, 1) := by decide +kernel
theorem dX5_flow_1 : decode cX5_flow 1 = .ok (.iconst 0, 1) := by decide +kernel
theorem dX5_flow_2 : decode cX5_flow 2 = .ok (.putfield 72, 3) := by decide +kernel
theorem dX5_flow_5 : decode cX5_flow 5 = .ok (.aload_n 0, 1) := by decide +kernel
theorem dX5_flow_6 : decode cX5_flow 6 = .ok (.iload_n 1, 1) := by decide +kernel
theorem dX5_flow_7 : decode cX5_flow 7 = .ok (.invokevirtual 79, 3) := by decide +kernel
theorem dX5_flow_10 : decode cX5_flow 10 = .ok (.ifCond .eq 21, 3) := by decide +kernel
theorem dX5_flow_13 : decode cX5_flow 13 = .ok (.aload_n 0, 1) := by decide +kernel
theorem dX5_flow_14 : decode cX5_flow 14 = .ok (.iload_n 2, 1) := by decide +kernel
theorem dX5_flow_15 : decode cX5_flow 15 = .ok (.invokevirtual 79, 3) := by decide +kernel
theorem dX5_flow_18 : decode cX5_flow 18 = .ok (.ifCond .eq 13, 3) := by decide +kernel
theorem dX5_flow_21 : decode cX5_flow 21 = .ok (.aload_n 0, 1) := by decide +kernel
theorem dX5_flow_22 : decode cX5_flow 22 = .ok (.getfield 93, 3) := by decide +kernel
theorem dX5_flow_25 : decode cX5_flow 25 = .ok (.sipush 400, 3) := by decide +kernel
theorem dX5_flow_28 : decode cX5_flow 28 = .ok (.if_icmp .ne 11, 3) := by decide +kernel
theorem dX5_flow_31 : decode cX5_flow 31 = .ok (.aload_n 0, 1) := by decide +kernel
theorem dX5_flow_32 : decode cX5_flow 32 = .ok (.iconst 1, 1) := by decide +kernel
theorem dX5_flow_33 : decode cX5_flow 33 = .ok (.putfield 72, 3) := by decide +kernel
theorem dX5_flow_36 : decode cX5_flow 36 = .ok (.goto 113, 3) := by decide +kernel
theorem dX5_flow_39 : decode cX5_flow 39 = .ok (.aload_n 0, 1) := by decide +kernel
theorem dX5_flow_40 : decode cX5_flow 40 = .ok (.getfield 9, 3) := by decide +kernel
theorem dX5_flow_43 : decode cX5_flow 43 = .ok (.iload_n 2, 1) := by decide +kernel
theorem dX5_flow_44 : decode cX5_flow 44 = .ok (.iaload, 1) := by decide +kernel
theorem dX5_flow_45 : decode cX5_flow 45 = .ok (.iconst (-1), 1) := by decide +kernel
theorem dX5_flow_46 : decode cX5_flow 46 = .ok (.if_icmp .eq 47, 3) := by decide +kernel
theorem dX5_flow_49 : decode cX5_flow 49 = .ok (.aload_n 0, 1) := by decide +kernel
theorem dX5_flow_50 : decode cX5_flow 50 = .ok (.getfield 9, 3) := by decide +kernel
theorem dX5_flow_53 : decode cX5_flow 53 = .ok (.iload_n 1, 1) := by decide +kernel
theorem dX5_flow_54 : decode cX5_flow 54 = .ok (.iaload, 1) := by decide +kernel
theorem dX5_flow_55 : decode cX5_flow 55 = .ok (.ifCond .eq 38, 3) := by decide +kernel
theorem dX5_flow_58 : decode cX5_flow 58 = .ok (.iload_n 1, 1) := by decide +kernel
theorem dX5_flow_59 : decode cX5_flow 59 = .ok (.iload_n 2, 1) := by decide +kernel
theorem dX5_flow_60 : decode cX5_flow 60 = .ok (.if_icmp .eq 33, 3) := by decide +kernel
theorem dX5_flow_63 : decode cX5_flow 63 = .ok (.lload_n 3, 1) := by decide +kernel
theorem dX5_flow_64 : decode cX5_flow 64 = .ok (.lconst 1, 1) := by decide +kernel
theorem dX5_flow_65 : decode cX5_flow 65 = .ok (.lcmp, 1) := by decide +kernel
theorem dX5_flow_66 : decode cX5_flow 66 = .ok (.ifCond .lt 27, 3) := by decide +kernel
theorem dX5_flow_69 : decode cX5_flow 69 = .ok (.lload_n 3, 1) := by decide +kernel
theorem dX5_flow_70 : decode cX5_flow 70 = .ok (.ldc2_w 83, 3) := by decide +kernel
theorem dX5_flow_73 : decode cX5_flow 73 = .ok (.lcmp, 1) := by decide +kernel
theorem dX5_flow_74 : decode cX5_flow 74 = .ok (.ifCond .gt 19, 3) := by decide +kernel
theorem dX5_flow_77 : decode cX5_flow 77 = .ok (.lload 5, 2) := by decide +kernel
theorem dX5_flow_79 : decode cX5_flow 79 = .ok (.lconst 0, 1) := by decide +kernel
theorem dX5_flow_80 : decode cX5_flow 80 = .ok (.lcmp, 1) := by decide +kernel
theorem dX5_flow_81 : decode cX5_flow 81 = .ok (.ifCond .lt 12, 3) := by decide +kernel
theorem dX5_flow_84 : decode cX5_flow 84 = .ok (.lload 5, 2) := by decide +kernel
theorem dX5_flow_86 : decode cX5_flow 86 = .ok (.ldc2_w 85, 3) := by decide +kernel
theorem dX5_flow_89 : decode cX5_flow 89 = .ok (.lcmp, 1) := by decide +kernel
theorem dX5_flow_90 : decode cX5_flow 90 = .ok (.ifCond .le 11, 3) := by decide +kernel
theorem dX5_flow_93 : decode cX5_flow 93 = .ok (.aload_n 0, 1) := by decide +kernel
theorem dX5_flow_94 : decode cX5_flow 94 = .ok (.iconst 2, 1) := by decide +kernel
theorem dX5_flow_95 : decode cX5_flow 95 = .ok (.putfield 72, 3) := by decide +kernel
theorem dX5_flow_98 : decode cX5_flow 98 = .ok (.goto 51, 3) := by decide +kernel
theorem dX5_flow_101 : decode cX5_flow 101 = .ok (.aload_n 0, 1) := by decide +kernel
theorem dX5_flow_102 : decode cX5_flow 102 = .ok (.getfield 26, 3) := by decide +kernel
theorem dX5_flow_105 : decode cX5_flow 105 = .ok (.iload_n 1, 1) := by decide +kernel
theorem dX5_flow_106 : decode cX5_flow 106 = .ok (.baload, 1) := by decide +kernel
theorem dX5_flow_107 : decode cX5_flow 107 = .ok (.ifCond .eq 11, 3) := by decide +kernel
theorem dX5_flow_110 : decode cX5_flow 110 = .ok (.aload_n 0, 1) := by decide +kernel
theorem dX5_flow_111 : decode cX5_flow 111 = .ok (.iconst 3, 1) := by decide +kernel
theorem dX5_flow_112 : decode cX5_flow 112 = .ok (.putfield 72, 3) := by decide +kernel
theorem dX5_flow_115 : decode cX5_flow 115 = .ok (.goto 34, 3) := by decide +kernel
theorem dX5_flow_118 : decode cX5_flow 118 = .ok (.aload_n 0, 1) := by decide +kernel
theorem dX5_flow_119 : decode cX5_flow 119 = .ok (.iload_n 1, 1) := by decide +kernel
theorem dX5_flow_120 : decode cX5_flow 120 = .ok (.iload_n 2, 1) := by decide +kernel
theorem dX5_flow_121 : decode cX5_flow 121 = .ok (.lload_n 3, 1) := by decide +kernel
theorem dX5_flow_122 : decode cX5_flow 122 = .ok (.lload 5, 2) := by decide +kernel
theorem dX5_flow_124 : decode cX5_flow 124 = .ok (.invokevirtual 104, 3) := by decide +kernel
theorem dX5_flow_127 : decode cX5_flow 127 = .ok (.aload_n 0, 1) := by decide +kernel
theorem dX5_flow_128 : decode cX5_flow 128 = .ok (.invokevirtual 108, 3) := by decide +kernel
theorem dX5_flow_131 : decode cX5_flow 131 = .ok (.ifCond .ne 18, 3) := by decide +kernel
theorem dX5_flow_134 : decode cX5_flow 134 = .ok (.aload_n 0, 1) := by decide +kernel
theorem dX5_flow_135 : decode cX5_flow 135 = .ok (.dup, 1) := by decide +kernel
theorem dX5_flow_136 : decode cX5_flow 136 = .ok (.getfield 93, 3) := by decide +kernel
theorem dX5_flow_139 : decode cX5_flow 139 = .ok (.iconst 1, 1) := by decide +kernel
theorem dX5_flow_140 : decode cX5_flow 140 = .ok (.isub, 1) := by decide +kernel
theorem dX5_flow_141 : decode cX5_flow 141 = .ok (.putfield 93, 3) := by decide +kernel
theorem dX5_flow_144 : decode cX5_flow 144 = .ok (.aload_n 0, 1) := by decide +kernel
theorem dX5_flow_145 : decode cX5_flow 145 = .ok (.iconst 3, 1) := by decide +kernel
theorem dX5_flow_146 : decode cX5_flow 146 = .ok (.putfield 72, 3) := by decide +kernel
theorem dX5_flow_149 : decode cX5_flow 149 = .ok (.return_, 1) := by decide +kernel
theorem dX5_put_0 : decode cX5_put 0 = .ok (.aload_n 0, 1) := by decide +kernel
theorem dX5_put_1 : decode cX5_put 1 = .ok (.getfield 30, 3) := by decide +kernel
theorem dX5_put_4 : decode cX5_put 4 = .ok (.aload_n 0, 1) := by decide +kernel
theorem dX5_put_5 : decode cX5_put 5 = .ok (.getfield 93, 3) := by decide +kernel
theorem dX5_put_8 : decode cX5_put 8 = .ok (.iload_n 1, 1) := by decide +kernel
theorem dX5_put_9 : decode cX5_put 9 = .ok (.iastore, 1) := by decide +kernel
theorem dX5_put_10 : decode cX5_put 10 = .ok (.aload_n 0, 1) := by decide +kernel
theorem dX5_put_11 : decode cX5_put 11 = .ok (.getfield 33, 3) := by decide +kernel
theorem dX5_put_14 : decode cX5_put 14 = .ok (.aload_n 0, 1) := by decide +kernel
theorem dX5_put_15 : decode cX5_put 15 = .ok (.getfield 93, 3) := by decide +kernel
theorem dX5_put_18 : decode cX5_put 18 = .ok (.iload_n 2, 1) := by decide +kernel
theorem dX5_put_19 : decode cX5_put 19 = .ok (.iastore, 1) := by decide +kernel
theorem dX5_put_20 : decode cX5_put 20 = .ok (.aload_n 0, 1) := by decide +kernel
theorem dX5_put_21 : decode cX5_put 21 = .ok (.getfield 36, 3) := by decide +kernel
theorem dX5_put_24 : decode cX5_put 24 = .ok (.aload_n 0, 1) := by decide +kernel
theorem dX5_put_25 : decode cX5_put 25 = .ok (.getfield 93, 3) := by decide +kernel
theorem dX5_put_28 : decode cX5_put 28 = .ok (.lload_n 3, 1) := by decide +kernel
theorem dX5_put_29 : decode cX5_put 29 = .ok (.lastore, 1) := by decide +kernel
theorem dX5_put_30 : decode cX5_put 30 = .ok (.aload_n 0, 1) := by decide +kernel
theorem dX5_put_31 : decode cX5_put 31 = .ok (.getfield 39, 3) := by decide +kernel
theorem dX5_put_34 : decode cX5_put 34 = .ok (.aload_n 0, 1) := by decide +kernel
theorem dX5_put_35 : decode cX5_put 35 = .ok (.getfield 93, 3) := by decide +kernel
theorem dX5_put_38 : decode cX5_put 38 = .ok (.lload 5, 2) := by decide +kernel
theorem dX5_put_40 : decode cX5_put 40 = .ok (.lastore, 1) := by decide +kernel
theorem dX5_put_41 : decode cX5_put 41 = .ok (.aload_n 0, 1) := by decide +kernel
theorem dX5_put_42 : decode cX5_put 42 = .ok (.dup, 1) := by decide +kernel
theorem dX5_put_43 : decode cX5_put 43 = .ok (.getfield 93, 3) := by decide +kernel
theorem dX5_put_46 : decode cX5_put 46 = .ok (.iconst 1, 1) := by decide +kernel
theorem dX5_put_47 : decode cX5_put 47 = .ok (.iadd, 1) := by decide +kernel
theorem dX5_put_48 : decode cX5_put 48 = .ok (.putfield 93, 3) := by decide +kernel
theorem dX5_put_51 : decode cX5_put 51 = .ok (.return_, 1) := by decide +kernel
theorem dX5_left_0 : decode cX5_left 0 = .ok (.aload_n 0, 1) := by decide +kernel
theorem dX5_left_1 : decode cX5_left 1 = .ok (.iconst 0, 1) := by decide +kernel
theorem dX5_left_2 : decode cX5_left 2 = .ok (.putfield 72, 3) := by decide +kernel
theorem dX5_left_5 : decode cX5_left 5 = .ok (.aload_n 0, 1) := by decide +kernel
theorem dX5_left_6 : decode cX5_left 6 = .ok (.iload_n 1, 1) := by decide +kernel
theorem dX5_left_7 : decode cX5_left 7 = .ok (.invokevirtual 79, 3) := by decide +kernel
theorem dX5_left_10 : decode cX5_left 10 = .ok (.ifCond .ne 7, 3) := by decide +kernel
theorem dX5_left_13 : decode cX5_left 13 = .ok (.ldc2_w 91, 3) := by decide +kernel
theorem dX5_left_16 : decode cX5_left 16 = .ok (.lreturn, 1) := by decide +kernel
theorem dX5_left_17 : decode cX5_left 17 = .ok (.aload_n 0, 1) := by decide +kernel
theorem dX5_left_18 : decode cX5_left 18 = .ok (.invokevirtual 108, 3) := by decide +kernel
theorem dX5_left_21 : decode cX5_left 21 = .ok (.istore_n 2, 1) := by decide +kernel
theorem dX5_left_22 : decode cX5_left 22 = .ok (.aload_n 0, 1) := by decide +kernel
theorem dX5_left_23 : decode cX5_left 23 = .ok (.iload_n 1, 1) := by decide +kernel
theorem dX5_left_24 : decode cX5_left 24 = .ok (.invokevirtual 96, 3) := by decide +kernel
theorem dX5_left_27 : decode cX5_left 27 = .ok (.lreturn, 1) := by decide +kernel
theorem dX5_share_0 : decode cX5_share 0 = .ok (.aload_n 0, 1) := by decide +kernel
theorem dX5_share_1 : decode cX5_share 1 = .ok (.iconst 0, 1) := by decide +kernel
theorem dX5_share_2 : decode cX5_share 2 = .ok (.putfield 72, 3) := by decide +kernel
theorem dX5_share_5 : decode cX5_share 5 = .ok (.aload_n 0, 1) := by decide +kernel
theorem dX5_share_6 : decode cX5_share 6 = .ok (.iload_n 1, 1) := by decide +kernel
theorem dX5_share_7 : decode cX5_share 7 = .ok (.invokevirtual 79, 3) := by decide +kernel
theorem dX5_share_10 : decode cX5_share 10 = .ok (.ifCond .eq 20, 3) := by decide +kernel
theorem dX5_share_13 : decode cX5_share 13 = .ok (.aload_n 0, 1) := by decide +kernel
theorem dX5_share_14 : decode cX5_share 14 = .ok (.iload_n 2, 1) := by decide +kernel
theorem dX5_share_15 : decode cX5_share 15 = .ok (.invokevirtual 112, 3) := by decide +kernel
theorem dX5_share_18 : decode cX5_share 18 = .ok (.ifCond .eq 12, 3) := by decide +kernel
theorem dX5_share_21 : decode cX5_share 21 = .ok (.iload_n 3, 1) := by decide +kernel
theorem dX5_share_22 : decode cX5_share 22 = .ok (.ifCond .lt 8, 3) := by decide +kernel
theorem dX5_share_25 : decode cX5_share 25 = .ok (.iload_n 3, 1) := by decide +kernel
theorem dX5_share_26 : decode cX5_share 26 = .ok (.iconst 1, 1) := by decide +kernel
theorem dX5_share_27 : decode cX5_share 27 = .ok (.if_icmp .le 7, 3) := by decide +kernel
theorem dX5_share_30 : decode cX5_share 30 = .ok (.ldc2_w 91, 3) := by decide +kernel
theorem dX5_share_33 : decode cX5_share 33 = .ok (.lreturn, 1) := by decide +kernel
theorem dX5_share_34 : decode cX5_share 34 = .ok (.aload_n 0, 1) := by decide +kernel
theorem dX5_share_35 : decode cX5_share 35 = .ok (.invokevirtual 108, 3) := by decide +kernel
theorem dX5_share_38 : decode cX5_share 38 = .ok (.istore 4, 2) := by decide +kernel
theorem dX5_share_40 : decode cX5_share 40 = .ok (.aload_n 0, 1) := by decide +kernel
theorem dX5_share_41 : decode cX5_share 41 = .ok (.iload_n 1, 1) := by decide +kernel
theorem dX5_share_42 : decode cX5_share 42 = .ok (.invokevirtual 96, 3) := by decide +kernel
theorem dX5_share_45 : decode cX5_share 45 = .ok (.lstore 5, 2) := by decide +kernel
theorem dX5_share_47 : decode cX5_share 47 = .ok (.aload_n 0, 1) := by decide +kernel
theorem dX5_share_48 : decode cX5_share 48 = .ok (.getfield 42, 3) := by decide +kernel
theorem dX5_share_51 : decode cX5_share 51 = .ok (.bipush 48, 2) := by decide +kernel
theorem dX5_share_53 : decode cX5_share 53 = .ok (.iload_n 1, 1) := by decide +kernel
theorem dX5_share_54 : decode cX5_share 54 = .ok (.imul, 1) := by decide +kernel
theorem dX5_share_55 : decode cX5_share 55 = .ok (.iload_n 2, 1) := by decide +kernel
theorem dX5_share_56 : decode cX5_share 56 = .ok (.iadd, 1) := by decide +kernel
theorem dX5_share_57 : decode cX5_share 57 = .ok (.laload, 1) := by decide +kernel
theorem dX5_share_58 : decode cX5_share 58 = .ok (.lstore 7, 2) := by decide +kernel
theorem dX5_share_60 : decode cX5_share 60 = .ok (.lload 5, 2) := by decide +kernel
theorem dX5_share_62 : decode cX5_share 62 = .ok (.lconst 0, 1) := by decide +kernel
theorem dX5_share_63 : decode cX5_share 63 = .ok (.lcmp, 1) := by decide +kernel
theorem dX5_share_64 : decode cX5_share 64 = .ok (.ifCond .ne 6, 3) := by decide +kernel
theorem dX5_share_67 : decode cX5_share 67 = .ok (.iload_n 3, 1) := by decide +kernel
theorem dX5_share_68 : decode cX5_share 68 = .ok (.i2l, 1) := by decide +kernel
theorem dX5_share_69 : decode cX5_share 69 = .ok (.lreturn, 1) := by decide +kernel
theorem dX5_share_70 : decode cX5_share 70 = .ok (.lload 5, 2) := by decide +kernel
theorem dX5_share_72 : decode cX5_share 72 = .ok (.lstore 9, 2) := by decide +kernel
theorem dX5_share_74 : decode cX5_share 74 = .ok (.lload 7, 2) := by decide +kernel
theorem dX5_share_76 : decode cX5_share 76 = .ok (.lstore 11, 2) := by decide +kernel
theorem dX5_share_78 : decode cX5_share 78 = .ok (.lload 11, 2) := by decide +kernel
theorem dX5_share_80 : decode cX5_share 80 = .ok (.lconst 0, 1) := by decide +kernel
theorem dX5_share_81 : decode cX5_share 81 = .ok (.lcmp, 1) := by decide +kernel
theorem dX5_share_82 : decode cX5_share 82 = .ok (.ifCond .le 21, 3) := by decide +kernel
theorem dX5_share_85 : decode cX5_share 85 = .ok (.lload 9, 2) := by decide +kernel
theorem dX5_share_87 : decode cX5_share 87 = .ok (.lload 11, 2) := by decide +kernel
theorem dX5_share_89 : decode cX5_share 89 = .ok (.lrem, 1) := by decide +kernel
theorem dX5_share_90 : decode cX5_share 90 = .ok (.lstore 13, 2) := by decide +kernel
theorem dX5_share_92 : decode cX5_share 92 = .ok (.lload 11, 2) := by decide +kernel
theorem dX5_share_94 : decode cX5_share 94 = .ok (.lstore 9, 2) := by decide +kernel
theorem dX5_share_96 : decode cX5_share 96 = .ok (.lload 13, 2) := by decide +kernel
theorem dX5_share_98 : decode cX5_share 98 = .ok (.lstore 11, 2) := by decide +kernel
theorem dX5_share_100 : decode cX5_share 100 = .ok (.goto (-22), 3) := by decide +kernel
theorem dX5_share_103 : decode cX5_share 103 = .ok (.iload_n 3, 1) := by decide +kernel
theorem dX5_share_104 : decode cX5_share 104 = .ok (.ifCond .ne 11, 3) := by decide +kernel
theorem dX5_share_107 : decode cX5_share 107 = .ok (.lload 7, 2) := by decide +kernel
theorem dX5_share_109 : decode cX5_share 109 = .ok (.lload 9, 2) := by decide +kernel
theorem dX5_share_111 : decode cX5_share 111 = .ok (.ldiv, 1) := by decide +kernel
theorem dX5_share_112 : decode cX5_share 112 = .ok (.goto 8, 3) := by decide +kernel
theorem dX5_share_115 : decode cX5_share 115 = .ok (.lload 5, 2) := by decide +kernel
theorem dX5_share_117 : decode cX5_share 117 = .ok (.lload 9, 2) := by decide +kernel
theorem dX5_share_119 : decode cX5_share 119 = .ok (.ldiv, 1) := by decide +kernel
theorem dX5_share_120 : decode cX5_share 120 = .ok (.lreturn, 1) := by decide +kernel
theorem dX5_back_0 : decode cX5_back 0 = .ok (.aload_n 0, 1) := by decide +kernel
theorem dX5_back_1 : decode cX5_back 1 = .ok (.iconst 0, 1) := by decide +kernel
theorem dX5_back_2 : decode cX5_back 2 = .ok (.putfield 72, 3) := by decide +kernel
theorem dX5_back_5 : decode cX5_back 5 = .ok (.aload_n 0, 1) := by decide +kernel
theorem dX5_back_6 : decode cX5_back 6 = .ok (.iload_n 1, 1) := by decide +kernel
theorem dX5_back_7 : decode cX5_back 7 = .ok (.invokevirtual 79, 3) := by decide +kernel
theorem dX5_back_10 : decode cX5_back 10 = .ok (.ifCond .ne 5, 3) := by decide +kernel
theorem dX5_back_13 : decode cX5_back 13 = .ok (.iconst (-1), 1) := by decide +kernel
theorem dX5_back_14 : decode cX5_back 14 = .ok (.ireturn, 1) := by decide +kernel
theorem dX5_back_15 : decode cX5_back 15 = .ok (.aload_n 0, 1) := by decide +kernel
theorem dX5_back_16 : decode cX5_back 16 = .ok (.invokevirtual 108, 3) := by decide +kernel
theorem dX5_back_19 : decode cX5_back 19 = .ok (.istore_n 3, 1) := by decide +kernel
theorem dX5_back_20 : decode cX5_back 20 = .ok (.iload_n 2, 1) := by decide +kernel
theorem dX5_back_21 : decode cX5_back 21 = .ok (.istore 4, 2) := by decide +kernel
theorem dX5_back_23 : decode cX5_back 23 = .ok (.iconst 0, 1) := by decide +kernel
theorem dX5_back_24 : decode cX5_back 24 = .ok (.istore 5, 2) := by decide +kernel
theorem dX5_back_26 : decode cX5_back 26 = .ok (.iload 5, 2) := by decide +kernel
theorem dX5_back_28 : decode cX5_back 28 = .ok (.aload_n 0, 1) := by decide +kernel
theorem dX5_back_29 : decode cX5_back 29 = .ok (.getfield 76, 3) := by decide +kernel
theorem dX5_back_32 : decode cX5_back 32 = .ok (.if_icmp .ge 40, 3) := by decide +kernel
theorem dX5_back_35 : decode cX5_back 35 = .ok (.iload 4, 2) := by decide +kernel
theorem dX5_back_37 : decode cX5_back 37 = .ok (.ifCond .lt 35, 3) := by decide +kernel
theorem dX5_back_40 : decode cX5_back 40 = .ok (.aload_n 0, 1) := by decide +kernel
theorem dX5_back_41 : decode cX5_back 41 = .ok (.getfield 45, 3) := by decide +kernel
theorem dX5_back_44 : decode cX5_back 44 = .ok (.bipush 48, 2) := by decide +kernel
theorem dX5_back_46 : decode cX5_back 46 = .ok (.iload_n 1, 1) := by decide +kernel
theorem dX5_back_47 : decode cX5_back 47 = .ok (.imul, 1) := by decide +kernel
theorem dX5_back_48 : decode cX5_back 48 = .ok (.iload 5, 2) := by decide +kernel
theorem dX5_back_50 : decode cX5_back 50 = .ok (.iadd, 1) := by decide +kernel
theorem dX5_back_51 : decode cX5_back 51 = .ok (.baload, 1) := by decide +kernel
theorem dX5_back_52 : decode cX5_back 52 = .ok (.ifCond .eq 14, 3) := by decide +kernel
theorem dX5_back_55 : decode cX5_back 55 = .ok (.iload 4, 2) := by decide +kernel
theorem dX5_back_57 : decode cX5_back 57 = .ok (.ifCond .ne 6, 3) := by decide +kernel
theorem dX5_back_60 : decode cX5_back 60 = .ok (.iload 5, 2) := by decide +kernel
theorem dX5_back_62 : decode cX5_back 62 = .ok (.ireturn, 1) := by decide +kernel
theorem dX5_back_63 : decode cX5_back 63 = .ok (.iinc 4 (-1), 3) := by decide +kernel
theorem dX5_back_66 : decode cX5_back 66 = .ok (.iinc 5 1, 3) := by decide +kernel
theorem dX5_back_69 : decode cX5_back 69 = .ok (.goto (-43), 3) := by decide +kernel
theorem dX5_back_72 : decode cX5_back 72 = .ok (.iconst (-1), 1) := by decide +kernel
theorem dX5_back_73 : decode cX5_back 73 = .ok (.ireturn, 1) := by decide +kernel
theorem dX5_forward_0 : decode cX5_forward 0 = .ok (.aload_n 0, 1) := by decide +kernel
theorem dX5_forward_1 : decode cX5_forward 1 = .ok (.iconst 0, 1) := by decide +kernel
theorem dX5_forward_2 : decode cX5_forward 2 = .ok (.putfield 72, 3) := by decide +kernel
theorem dX5_forward_5 : decode cX5_forward 5 = .ok (.aload_n 0, 1) := by decide +kernel
theorem dX5_forward_6 : decode cX5_forward 6 = .ok (.iload_n 1, 1) := by decide +kernel
theorem dX5_forward_7 : decode cX5_forward 7 = .ok (.invokevirtual 112, 3) := by decide +kernel
theorem dX5_forward_10 : decode cX5_forward 10 = .ok (.ifCond .ne 5, 3) := by decide +kernel
theorem dX5_forward_13 : decode cX5_forward 13 = .ok (.iconst (-1), 1) := by decide +kernel
theorem dX5_forward_14 : decode cX5_forward 14 = .ok (.ireturn, 1) := by decide +kernel
theorem dX5_forward_15 : decode cX5_forward 15 = .ok (.aload_n 0, 1) := by decide +kernel
theorem dX5_forward_16 : decode cX5_forward 16 = .ok (.invokevirtual 108, 3) := by decide +kernel
theorem dX5_forward_19 : decode cX5_forward 19 = .ok (.istore_n 3, 1) := by decide +kernel
theorem dX5_forward_20 : decode cX5_forward 20 = .ok (.iload_n 2, 1) := by decide +kernel
theorem dX5_forward_21 : decode cX5_forward 21 = .ok (.istore 4, 2) := by decide +kernel
theorem dX5_forward_23 : decode cX5_forward 23 = .ok (.iconst 0, 1) := by decide +kernel
theorem dX5_forward_24 : decode cX5_forward 24 = .ok (.istore 5, 2) := by decide +kernel
theorem dX5_forward_26 : decode cX5_forward 26 = .ok (.iload 5, 2) := by decide +kernel
theorem dX5_forward_28 : decode cX5_forward 28 = .ok (.aload_n 0, 1) := by decide +kernel
theorem dX5_forward_29 : decode cX5_forward 29 = .ok (.getfield 76, 3) := by decide +kernel
theorem dX5_forward_32 : decode cX5_forward 32 = .ok (.if_icmp .ge 51, 3) := by decide +kernel
theorem dX5_forward_35 : decode cX5_forward 35 = .ok (.iload 4, 2) := by decide +kernel
theorem dX5_forward_37 : decode cX5_forward 37 = .ok (.ifCond .lt 46, 3) := by decide +kernel
theorem dX5_forward_40 : decode cX5_forward 40 = .ok (.aload_n 0, 1) := by decide +kernel
theorem dX5_forward_41 : decode cX5_forward 41 = .ok (.getfield 9, 3) := by decide +kernel
theorem dX5_forward_44 : decode cX5_forward 44 = .ok (.iload 5, 2) := by decide +kernel
theorem dX5_forward_46 : decode cX5_forward 46 = .ok (.iaload, 1) := by decide +kernel
theorem dX5_forward_47 : decode cX5_forward 47 = .ok (.iconst (-1), 1) := by decide +kernel
theorem dX5_forward_48 : decode cX5_forward 48 = .ok (.if_icmp .eq 29, 3) := by decide +kernel
theorem dX5_forward_51 : decode cX5_forward 51 = .ok (.aload_n 0, 1) := by decide +kernel
theorem dX5_forward_52 : decode cX5_forward 52 = .ok (.getfield 45, 3) := by decide +kernel
theorem dX5_forward_55 : decode cX5_forward 55 = .ok (.bipush 48, 2) := by decide +kernel
theorem dX5_forward_57 : decode cX5_forward 57 = .ok (.iload 5, 2) := by decide +kernel
theorem dX5_forward_59 : decode cX5_forward 59 = .ok (.imul, 1) := by decide +kernel
theorem dX5_forward_60 : decode cX5_forward 60 = .ok (.iload_n 1, 1) := by decide +kernel
theorem dX5_forward_61 : decode cX5_forward 61 = .ok (.iadd, 1) := by decide +kernel
theorem dX5_forward_62 : decode cX5_forward 62 = .ok (.baload, 1) := by decide +kernel
theorem dX5_forward_63 : decode cX5_forward 63 = .ok (.ifCond .eq 14, 3) := by decide +kernel
theorem dX5_forward_66 : decode cX5_forward 66 = .ok (.iload 4, 2) := by decide +kernel
theorem dX5_forward_68 : decode cX5_forward 68 = .ok (.ifCond .ne 6, 3) := by decide +kernel
theorem dX5_forward_71 : decode cX5_forward 71 = .ok (.iload 5, 2) := by decide +kernel
theorem dX5_forward_73 : decode cX5_forward 73 = .ok (.ireturn, 1) := by decide +kernel
theorem dX5_forward_74 : decode cX5_forward 74 = .ok (.iinc 4 (-1), 3) := by decide +kernel
theorem dX5_forward_77 : decode cX5_forward 77 = .ok (.iinc 5 1, 3) := by decide +kernel
theorem dX5_forward_80 : decode cX5_forward 80 = .ok (.goto (-54), 3) := by decide +kernel
theorem dX5_forward_83 : decode cX5_forward 83 = .ok (.iconst (-1), 1) := by decide +kernel
theorem dX5_forward_84 : decode cX5_forward 84 = .ok (.ireturn, 1) := by decide +kernel
theorem dX5_place_0 : decode cX5_place 0 = .ok (.aload_n 0, 1) := by decide +kernel
theorem dX5_place_1 : decode cX5_place 1 = .ok (.iconst 0, 1) := by decide +kernel
theorem dX5_place_2 : decode cX5_place 2 = .ok (.putfield 72, 3) := by decide +kernel
theorem dX5_place_5 : decode cX5_place 5 = .ok (.aload_n 0, 1) := by decide +kernel
theorem dX5_place_6 : decode cX5_place 6 = .ok (.iload_n 1, 1) := by decide +kernel
theorem dX5_place_7 : decode cX5_place 7 = .ok (.invokevirtual 79, 3) := by decide +kernel
theorem dX5_place_10 : decode cX5_place 10 = .ok (.ifCond .eq 35, 3) := by decide +kernel
theorem dX5_place_13 : decode cX5_place 13 = .ok (.aload_n 0, 1) := by decide +kernel
theorem dX5_place_14 : decode cX5_place 14 = .ok (.getfield 9, 3) := by decide +kernel
theorem dX5_place_17 : decode cX5_place 17 = .ok (.iload_n 1, 1) := by decide +kernel
theorem dX5_place_18 : decode cX5_place 18 = .ok (.iaload, 1) := by decide +kernel
theorem dX5_place_19 : decode cX5_place 19 = .ok (.iconst (-1), 1) := by decide +kernel
theorem dX5_place_20 : decode cX5_place 20 = .ok (.if_icmp .eq 25, 3) := by decide +kernel
theorem dX5_place_23 : decode cX5_place 23 = .ok (.iload_n 2, 1) := by decide +kernel
theorem dX5_place_24 : decode cX5_place 24 = .ok (.ifCond .lt 21, 3) := by decide +kernel
theorem dX5_place_27 : decode cX5_place 27 = .ok (.iload_n 2, 1) := by decide +kernel
theorem dX5_place_28 : decode cX5_place 28 = .ok (.sipush 999, 3) := by decide +kernel
theorem dX5_place_31 : decode cX5_place 31 = .ok (.if_icmp .gt 14, 3) := by decide +kernel
theorem dX5_place_34 : decode cX5_place 34 = .ok (.iload_n 3, 1) := by decide +kernel
theorem dX5_place_35 : decode cX5_place 35 = .ok (.ifCond .lt 10, 3) := by decide +kernel
theorem dX5_place_38 : decode cX5_place 38 = .ok (.iload_n 3, 1) := by decide +kernel
theorem dX5_place_39 : decode cX5_place 39 = .ok (.sipush 999, 3) := by decide +kernel
theorem dX5_place_42 : decode cX5_place 42 = .ok (.if_icmp .le 5, 3) := by decide +kernel
theorem dX5_place_45 : decode cX5_place 45 = .ok (.iconst 0, 1) := by decide +kernel
theorem dX5_place_46 : decode cX5_place 46 = .ok (.ireturn, 1) := by decide +kernel
theorem dX5_place_47 : decode cX5_place 47 = .ok (.aload_n 0, 1) := by decide +kernel
theorem dX5_place_48 : decode cX5_place 48 = .ok (.getfield 20, 3) := by decide +kernel
theorem dX5_place_51 : decode cX5_place 51 = .ok (.iload_n 1, 1) := by decide +kernel
theorem dX5_place_52 : decode cX5_place 52 = .ok (.iload_n 2, 1) := by decide +kernel
theorem dX5_place_53 : decode cX5_place 53 = .ok (.iastore, 1) := by decide +kernel
theorem dX5_place_54 : decode cX5_place 54 = .ok (.aload_n 0, 1) := by decide +kernel
theorem dX5_place_55 : decode cX5_place 55 = .ok (.getfield 23, 3) := by decide +kernel
theorem dX5_place_58 : decode cX5_place 58 = .ok (.iload_n 1, 1) := by decide +kernel
theorem dX5_place_59 : decode cX5_place 59 = .ok (.iload_n 3, 1) := by decide +kernel
theorem dX5_place_60 : decode cX5_place 60 = .ok (.iastore, 1) := by decide +kernel
theorem dX5_place_61 : decode cX5_place 61 = .ok (.iconst 1, 1) := by decide +kernel
theorem dX5_place_62 : decode cX5_place 62 = .ok (.ireturn, 1) := by decide +kernel
theorem dX5_recall_0 : decode cX5_recall 0 = .ok (.aload_n 0, 1) := by decide +kernel
theorem dX5_recall_1 : decode cX5_recall 1 = .ok (.iconst 0, 1) := by decide +kernel
theorem dX5_recall_2 : decode cX5_recall 2 = .ok (.putfield 72, 3) := by decide +kernel
theorem dX5_recall_5 : decode cX5_recall 5 = .ok (.aload_n 0, 1) := by decide +kernel
theorem dX5_recall_6 : decode cX5_recall 6 = .ok (.iload_n 1, 1) := by decide +kernel
theorem dX5_recall_7 : decode cX5_recall 7 = .ok (.invokevirtual 112, 3) := by decide +kernel
theorem dX5_recall_10 : decode cX5_recall 10 = .ok (.ifCond .ne 5, 3) := by decide +kernel
theorem dX5_recall_13 : decode cX5_recall 13 = .ok (.iconst (-1), 1) := by decide +kernel
theorem dX5_recall_14 : decode cX5_recall 14 = .ok (.ireturn, 1) := by decide +kernel
theorem dX5_recall_15 : decode cX5_recall 15 = .ok (.aload_n 0, 1) := by decide +kernel
theorem dX5_recall_16 : decode cX5_recall 16 = .ok (.invokevirtual 108, 3) := by decide +kernel
theorem dX5_recall_19 : decode cX5_recall 19 = .ok (.istore_n 2, 1) := by decide +kernel
theorem dX5_recall_20 : decode cX5_recall 20 = .ok (.aload_n 0, 1) := by decide +kernel
theorem dX5_recall_21 : decode cX5_recall 21 = .ok (.iconst 0, 1) := by decide +kernel
theorem dX5_recall_22 : decode cX5_recall 22 = .ok (.putfield 115, 3) := by decide +kernel
theorem dX5_recall_25 : decode cX5_recall 25 = .ok (.iconst (-1), 1) := by decide +kernel
theorem dX5_recall_26 : decode cX5_recall 26 = .ok (.istore_n 3, 1) := by decide +kernel
theorem dX5_recall_27 : decode cX5_recall 27 = .ok (.iconst 1, 1) := by decide +kernel
theorem dX5_recall_28 : decode cX5_recall 28 = .ok (.istore 4, 2) := by decide +kernel
theorem dX5_recall_30 : decode cX5_recall 30 = .ok (.iload 4, 2) := by decide +kernel
theorem dX5_recall_32 : decode cX5_recall 32 = .ok (.ifCond .eq 316, 3) := by decide +kernel
theorem dX5_recall_35 : decode cX5_recall 35 = .ok (.ldc 118, 2) := by decide +kernel
theorem dX5_recall_37 : decode cX5_recall 37 = .ok (.istore 5, 2) := by decide +kernel
theorem dX5_recall_39 : decode cX5_recall 39 = .ok (.iconst 0, 1) := by decide +kernel
theorem dX5_recall_40 : decode cX5_recall 40 = .ok (.istore 6, 2) := by decide +kernel
theorem dX5_recall_42 : decode cX5_recall 42 = .ok (.iload 6, 2) := by decide +kernel
theorem dX5_recall_44 : decode cX5_recall 44 = .ok (.aload_n 0, 1) := by decide +kernel
theorem dX5_recall_45 : decode cX5_recall 45 = .ok (.getfield 76, 3) := by decide +kernel
theorem dX5_recall_48 : decode cX5_recall 48 = .ok (.if_icmp .ge 100, 3) := by decide +kernel
theorem dX5_recall_51 : decode cX5_recall 51 = .ok (.sipush 1000, 3) := by decide +kernel
theorem dX5_recall_54 : decode cX5_recall 54 = .ok (.aload_n 0, 1) := by decide +kernel
theorem dX5_recall_55 : decode cX5_recall 55 = .ok (.getfield 23, 3) := by decide +kernel
theorem dX5_recall_58 : decode cX5_recall 58 = .ok (.iload 6, 2) := by decide +kernel
theorem dX5_recall_60 : decode cX5_recall 60 = .ok (.iaload, 1) := by decide +kernel
theorem dX5_recall_61 : decode cX5_recall 61 = .ok (.imul, 1) := by decide +kernel
theorem dX5_recall_62 : decode cX5_recall 62 = .ok (.aload_n 0, 1) := by decide +kernel
theorem dX5_recall_63 : decode cX5_recall 63 = .ok (.getfield 20, 3) := by decide +kernel
theorem dX5_recall_66 : decode cX5_recall 66 = .ok (.iload 6, 2) := by decide +kernel
theorem dX5_recall_68 : decode cX5_recall 68 = .ok (.iaload, 1) := by decide +kernel
theorem dX5_recall_69 : decode cX5_recall 69 = .ok (.iadd, 1) := by decide +kernel
theorem dX5_recall_70 : decode cX5_recall 70 = .ok (.istore 7, 2) := by decide +kernel
theorem dX5_recall_72 : decode cX5_recall 72 = .ok (.aload_n 0, 1) := by decide +kernel
theorem dX5_recall_73 : decode cX5_recall 73 = .ok (.getfield 9, 3) := by decide +kernel
theorem dX5_recall_76 : decode cX5_recall 76 = .ok (.iload 6, 2) := by decide +kernel
theorem dX5_recall_78 : decode cX5_recall 78 = .ok (.iaload, 1) := by decide +kernel
theorem dX5_recall_79 : decode cX5_recall 79 = .ok (.iconst (-1), 1) := by decide +kernel
theorem dX5_recall_80 : decode cX5_recall 80 = .ok (.if_icmp .eq 38, 3) := by decide +kernel
theorem dX5_recall_83 : decode cX5_recall 83 = .ok (.aload_n 0, 1) := by decide +kernel
theorem dX5_recall_84 : decode cX5_recall 84 = .ok (.getfield 20, 3) := by decide +kernel
theorem dX5_recall_87 : decode cX5_recall 87 = .ok (.iload 6, 2) := by decide +kernel
theorem dX5_recall_89 : decode cX5_recall 89 = .ok (.iaload, 1) := by decide +kernel
theorem dX5_recall_90 : decode cX5_recall 90 = .ok (.ifCond .lt 28, 3) := by decide +kernel
theorem dX5_recall_93 : decode cX5_recall 93 = .ok (.aload_n 0, 1) := by decide +kernel
theorem dX5_recall_94 : decode cX5_recall 94 = .ok (.getfield 45, 3) := by decide +kernel
theorem dX5_recall_97 : decode cX5_recall 97 = .ok (.bipush 48, 2) := by decide +kernel
theorem dX5_recall_99 : decode cX5_recall 99 = .ok (.iload 6, 2) := by decide +kernel
theorem dX5_recall_101 : decode cX5_recall 101 = .ok (.imul, 1) := by decide +kernel
theorem dX5_recall_102 : decode cX5_recall 102 = .ok (.iload_n 1, 1) := by decide +kernel
theorem dX5_recall_103 : decode cX5_recall 103 = .ok (.iadd, 1) := by decide +kernel
theorem dX5_recall_104 : decode cX5_recall 104 = .ok (.baload, 1) := by decide +kernel
theorem dX5_recall_105 : decode cX5_recall 105 = .ok (.ifCond .eq 13, 3) := by decide +kernel
theorem dX5_recall_108 : decode cX5_recall 108 = .ok (.iload 7, 2) := by decide +kernel
theorem dX5_recall_110 : decode cX5_recall 110 = .ok (.iload_n 3, 1) := by decide +kernel
theorem dX5_recall_111 : decode cX5_recall 111 = .ok (.if_icmp .le 7, 3) := by decide +kernel
theorem dX5_recall_114 : decode cX5_recall 114 = .ok (.iconst 1, 1) := by decide +kernel
theorem dX5_recall_115 : decode cX5_recall 115 = .ok (.goto 4, 3) := by decide +kernel
theorem dX5_recall_118 : decode cX5_recall 118 = .ok (.iconst 0, 1) := by decide +kernel
theorem dX5_recall_119 : decode cX5_recall 119 = .ok (.istore 8, 2) := by decide +kernel
theorem dX5_recall_121 : decode cX5_recall 121 = .ok (.iload 8, 2) := by decide +kernel
theorem dX5_recall_123 : decode cX5_recall 123 = .ok (.ifCond .eq 15, 3) := by decide +kernel
theorem dX5_recall_126 : decode cX5_recall 126 = .ok (.iload 7, 2) := by decide +kernel
theorem dX5_recall_128 : decode cX5_recall 128 = .ok (.iload 5, 2) := by decide +kernel
theorem dX5_recall_130 : decode cX5_recall 130 = .ok (.if_icmp .ge 8, 3) := by decide +kernel
theorem dX5_recall_133 : decode cX5_recall 133 = .ok (.iload 7, 2) := by decide +kernel
theorem dX5_recall_135 : decode cX5_recall 135 = .ok (.goto 5, 3) := by decide +kernel
theorem dX5_recall_138 : decode cX5_recall 138 = .ok (.iload 5, 2) := by decide +kernel
theorem dX5_recall_140 : decode cX5_recall 140 = .ok (.istore 5, 2) := by decide +kernel
theorem dX5_recall_142 : decode cX5_recall 142 = .ok (.iinc 6 1, 3) := by decide +kernel
theorem dX5_recall_145 : decode cX5_recall 145 = .ok (.goto (-103), 3) := by decide +kernel
theorem dX5_recall_148 : decode cX5_recall 148 = .ok (.iload 5, 2) := by decide +kernel
theorem dX5_recall_150 : decode cX5_recall 150 = .ok (.ldc 118, 2) := by decide +kernel
theorem dX5_recall_152 : decode cX5_recall 152 = .ok (.if_icmp .ge 7, 3) := by decide +kernel
theorem dX5_recall_155 : decode cX5_recall 155 = .ok (.iconst 1, 1) := by decide +kernel
theorem dX5_recall_156 : decode cX5_recall 156 = .ok (.goto 4, 3) := by decide +kernel
theorem dX5_recall_159 : decode cX5_recall 159 = .ok (.iconst 0, 1) := by decide +kernel
theorem dX5_recall_160 : decode cX5_recall 160 = .ok (.istore 4, 2) := by decide +kernel
theorem dX5_recall_162 : decode cX5_recall 162 = .ok (.iload 4, 2) := by decide +kernel
theorem dX5_recall_164 : decode cX5_recall 164 = .ok (.ifCond .eq 181, 3) := by decide +kernel
theorem dX5_recall_167 : decode cX5_recall 167 = .ok (.aload_n 0, 1) := by decide +kernel
theorem dX5_recall_168 : decode cX5_recall 168 = .ok (.getfield 60, 3) := by decide +kernel
theorem dX5_recall_171 : decode cX5_recall 171 = .ok (.aload_n 0, 1) := by decide +kernel
theorem dX5_recall_172 : decode cX5_recall 172 = .ok (.getfield 115, 3) := by decide +kernel
theorem dX5_recall_175 : decode cX5_recall 175 = .ok (.iload 5, 2) := by decide +kernel
theorem dX5_recall_177 : decode cX5_recall 177 = .ok (.sipush 1000, 3) := by decide +kernel
theorem dX5_recall_180 : decode cX5_recall 180 = .ok (.irem, 1) := by decide +kernel
theorem dX5_recall_181 : decode cX5_recall 181 = .ok (.iastore, 1) := by decide +kernel
theorem dX5_recall_182 : decode cX5_recall 182 = .ok (.aload_n 0, 1) := by decide +kernel
theorem dX5_recall_183 : decode cX5_recall 183 = .ok (.getfield 63, 3) := by decide +kernel
theorem dX5_recall_186 : decode cX5_recall 186 = .ok (.aload_n 0, 1) := by decide +kernel
theorem dX5_recall_187 : decode cX5_recall 187 = .ok (.getfield 115, 3) := by decide +kernel
theorem dX5_recall_190 : decode cX5_recall 190 = .ok (.iload 5, 2) := by decide +kernel
theorem dX5_recall_192 : decode cX5_recall 192 = .ok (.sipush 1000, 3) := by decide +kernel
theorem dX5_recall_195 : decode cX5_recall 195 = .ok (.idiv, 1) := by decide +kernel
theorem dX5_recall_196 : decode cX5_recall 196 = .ok (.iastore, 1) := by decide +kernel
theorem dX5_recall_197 : decode cX5_recall 197 = .ok (.aload_n 0, 1) := by decide +kernel
theorem dX5_recall_198 : decode cX5_recall 198 = .ok (.getfield 66, 3) := by decide +kernel
theorem dX5_recall_201 : decode cX5_recall 201 = .ok (.aload_n 0, 1) := by decide +kernel
theorem dX5_recall_202 : decode cX5_recall 202 = .ok (.getfield 115, 3) := by decide +kernel
theorem dX5_recall_205 : decode cX5_recall 205 = .ok (.lconst 0, 1) := by decide +kernel
theorem dX5_recall_206 : decode cX5_recall 206 = .ok (.lastore, 1) := by decide +kernel
theorem dX5_recall_207 : decode cX5_recall 207 = .ok (.aload_n 0, 1) := by decide +kernel
theorem dX5_recall_208 : decode cX5_recall 208 = .ok (.getfield 69, 3) := by decide +kernel
theorem dX5_recall_211 : decode cX5_recall 211 = .ok (.aload_n 0, 1) := by decide +kernel
theorem dX5_recall_212 : decode cX5_recall 212 = .ok (.getfield 115, 3) := by decide +kernel
theorem dX5_recall_215 : decode cX5_recall 215 = .ok (.iconst 0, 1) := by decide +kernel
theorem dX5_recall_216 : decode cX5_recall 216 = .ok (.iastore, 1) := by decide +kernel
theorem dX5_recall_217 : decode cX5_recall 217 = .ok (.iconst 0, 1) := by decide +kernel
theorem dX5_recall_218 : decode cX5_recall 218 = .ok (.istore 6, 2) := by decide +kernel
theorem dX5_recall_220 : decode cX5_recall 220 = .ok (.iload 6, 2) := by decide +kernel
theorem dX5_recall_222 : decode cX5_recall 222 = .ok (.aload_n 0, 1) := by decide +kernel
theorem dX5_recall_223 : decode cX5_recall 223 = .ok (.getfield 76, 3) := by decide +kernel
theorem dX5_recall_226 : decode cX5_recall 226 = .ok (.if_icmp .ge 106, 3) := by decide +kernel
theorem dX5_recall_229 : decode cX5_recall 229 = .ok (.aload_n 0, 1) := by decide +kernel
theorem dX5_recall_230 : decode cX5_recall 230 = .ok (.getfield 9, 3) := by decide +kernel
theorem dX5_recall_233 : decode cX5_recall 233 = .ok (.iload 6, 2) := by decide +kernel
theorem dX5_recall_235 : decode cX5_recall 235 = .ok (.iaload, 1) := by decide +kernel
theorem dX5_recall_236 : decode cX5_recall 236 = .ok (.iconst (-1), 1) := by decide +kernel
theorem dX5_recall_237 : decode cX5_recall 237 = .ok (.if_icmp .eq 89, 3) := by decide +kernel
theorem dX5_recall_240 : decode cX5_recall 240 = .ok (.aload_n 0, 1) := by decide +kernel
theorem dX5_recall_241 : decode cX5_recall 241 = .ok (.getfield 20, 3) := by decide +kernel
theorem dX5_recall_244 : decode cX5_recall 244 = .ok (.iload 6, 2) := by decide +kernel
theorem dX5_recall_246 : decode cX5_recall 246 = .ok (.iaload, 1) := by decide +kernel
theorem dX5_recall_247 : decode cX5_recall 247 = .ok (.ifCond .lt 79, 3) := by decide +kernel
theorem dX5_recall_250 : decode cX5_recall 250 = .ok (.aload_n 0, 1) := by decide +kernel
theorem dX5_recall_251 : decode cX5_recall 251 = .ok (.getfield 45, 3) := by decide +kernel
theorem dX5_recall_254 : decode cX5_recall 254 = .ok (.bipush 48, 2) := by decide +kernel
theorem dX5_recall_256 : decode cX5_recall 256 = .ok (.iload 6, 2) := by decide +kernel
theorem dX5_recall_258 : decode cX5_recall 258 = .ok (.imul, 1) := by decide +kernel
theorem dX5_recall_259 : decode cX5_recall 259 = .ok (.iload_n 1, 1) := by decide +kernel
theorem dX5_recall_260 : decode cX5_recall 260 = .ok (.iadd, 1) := by decide +kernel
theorem dX5_recall_261 : decode cX5_recall 261 = .ok (.baload, 1) := by decide +kernel
theorem dX5_recall_262 : decode cX5_recall 262 = .ok (.ifCond .eq 64, 3) := by decide +kernel
theorem dX5_recall_265 : decode cX5_recall 265 = .ok (.sipush 1000, 3) := by decide +kernel
theorem dX5_recall_268 : decode cX5_recall 268 = .ok (.aload_n 0, 1) := by decide +kernel
theorem dX5_recall_269 : decode cX5_recall 269 = .ok (.getfield 23, 3) := by decide +kernel
theorem dX5_recall_272 : decode cX5_recall 272 = .ok (.iload 6, 2) := by decide +kernel
theorem dX5_recall_274 : decode cX5_recall 274 = .ok (.iaload, 1) := by decide +kernel
theorem dX5_recall_275 : decode cX5_recall 275 = .ok (.imul, 1) := by decide +kernel
theorem dX5_recall_276 : decode cX5_recall 276 = .ok (.aload_n 0, 1) := by decide +kernel
theorem dX5_recall_277 : decode cX5_recall 277 = .ok (.getfield 20, 3) := by decide +kernel
theorem dX5_recall_280 : decode cX5_recall 280 = .ok (.iload 6, 2) := by decide +kernel
theorem dX5_recall_282 : decode cX5_recall 282 = .ok (.iaload, 1) := by decide +kernel
theorem dX5_recall_283 : decode cX5_recall 283 = .ok (.iadd, 1) := by decide +kernel
theorem dX5_recall_284 : decode cX5_recall 284 = .ok (.iload 5, 2) := by decide +kernel
theorem dX5_recall_286 : decode cX5_recall 286 = .ok (.if_icmp .ne 40, 3) := by decide +kernel
theorem dX5_recall_289 : decode cX5_recall 289 = .ok (.aload_n 0, 1) := by decide +kernel
theorem dX5_recall_290 : decode cX5_recall 290 = .ok (.getfield 66, 3) := by decide +kernel
theorem dX5_recall_293 : decode cX5_recall 293 = .ok (.aload_n 0, 1) := by decide +kernel
theorem dX5_recall_294 : decode cX5_recall 294 = .ok (.getfield 115, 3) := by decide +kernel
theorem dX5_recall_297 : decode cX5_recall 297 = .ok (.dup2, 1) := by decide +kernel
theorem dX5_recall_298 : decode cX5_recall 298 = .ok (.laload, 1) := by decide +kernel
theorem dX5_recall_299 : decode cX5_recall 299 = .ok (.aload_n 0, 1) := by decide +kernel
theorem dX5_recall_300 : decode cX5_recall 300 = .ok (.getfield 42, 3) := by decide +kernel
theorem dX5_recall_303 : decode cX5_recall 303 = .ok (.bipush 48, 2) := by decide +kernel
theorem dX5_recall_305 : decode cX5_recall 305 = .ok (.iload 6, 2) := by decide +kernel
theorem dX5_recall_307 : decode cX5_recall 307 = .ok (.imul, 1) := by decide +kernel
theorem dX5_recall_308 : decode cX5_recall 308 = .ok (.iload_n 1, 1) := by decide +kernel
theorem dX5_recall_309 : decode cX5_recall 309 = .ok (.iadd, 1) := by decide +kernel
theorem dX5_recall_310 : decode cX5_recall 310 = .ok (.laload, 1) := by decide +kernel
theorem dX5_recall_311 : decode cX5_recall 311 = .ok (.ladd, 1) := by decide +kernel
theorem dX5_recall_312 : decode cX5_recall 312 = .ok (.lastore, 1) := by decide +kernel
theorem dX5_recall_313 : decode cX5_recall 313 = .ok (.aload_n 0, 1) := by decide +kernel
theorem dX5_recall_314 : decode cX5_recall 314 = .ok (.getfield 69, 3) := by decide +kernel
theorem dX5_recall_317 : decode cX5_recall 317 = .ok (.aload_n 0, 1) := by decide +kernel
theorem dX5_recall_318 : decode cX5_recall 318 = .ok (.getfield 115, 3) := by decide +kernel
theorem dX5_recall_321 : decode cX5_recall 321 = .ok (.dup2, 1) := by decide +kernel
theorem dX5_recall_322 : decode cX5_recall 322 = .ok (.iaload, 1) := by decide +kernel
theorem dX5_recall_323 : decode cX5_recall 323 = .ok (.iconst 1, 1) := by decide +kernel
theorem dX5_recall_324 : decode cX5_recall 324 = .ok (.iadd, 1) := by decide +kernel
theorem dX5_recall_325 : decode cX5_recall 325 = .ok (.iastore, 1) := by decide +kernel
theorem dX5_recall_326 : decode cX5_recall 326 = .ok (.iinc 6 1, 3) := by decide +kernel
theorem dX5_recall_329 : decode cX5_recall 329 = .ok (.goto (-109), 3) := by decide +kernel
theorem dX5_recall_332 : decode cX5_recall 332 = .ok (.aload_n 0, 1) := by decide +kernel
theorem dX5_recall_333 : decode cX5_recall 333 = .ok (.dup, 1) := by decide +kernel
theorem dX5_recall_334 : decode cX5_recall 334 = .ok (.getfield 115, 3) := by decide +kernel
theorem dX5_recall_337 : decode cX5_recall 337 = .ok (.iconst 1, 1) := by decide +kernel
theorem dX5_recall_338 : decode cX5_recall 338 = .ok (.iadd, 1) := by decide +kernel
theorem dX5_recall_339 : decode cX5_recall 339 = .ok (.putfield 115, 3) := by decide +kernel
theorem dX5_recall_342 : decode cX5_recall 342 = .ok (.iload 5, 2) := by decide +kernel
theorem dX5_recall_344 : decode cX5_recall 344 = .ok (.istore_n 3, 1) := by decide +kernel
theorem dX5_recall_345 : decode cX5_recall 345 = .ok (.goto (-315), 3) := by decide +kernel
theorem dX5_recall_348 : decode cX5_recall 348 = .ok (.aload_n 0, 1) := by decide +kernel
theorem dX5_recall_349 : decode cX5_recall 349 = .ok (.getfield 115, 3) := by decide +kernel
theorem dX5_recall_352 : decode cX5_recall 352 = .ok (.ireturn, 1) := by decide +kernel
theorem dX5_recalled_0 : decode cX5_recalled 0 = .ok (.aload_n 0, 1) := by decide +kernel
theorem dX5_recalled_1 : decode cX5_recalled 1 = .ok (.iconst 0, 1) := by decide +kernel
theorem dX5_recalled_2 : decode cX5_recalled 2 = .ok (.putfield 72, 3) := by decide +kernel
theorem dX5_recalled_5 : decode cX5_recalled 5 = .ok (.iload_n 1, 1) := by decide +kernel
theorem dX5_recalled_6 : decode cX5_recalled 6 = .ok (.ifCond .lt 11, 3) := by decide +kernel
theorem dX5_recalled_9 : decode cX5_recalled 9 = .ok (.iload_n 1, 1) := by decide +kernel
theorem dX5_recalled_10 : decode cX5_recalled 10 = .ok (.aload_n 0, 1) := by decide +kernel
theorem dX5_recalled_11 : decode cX5_recalled 11 = .ok (.getfield 115, 3) := by decide +kernel
theorem dX5_recalled_14 : decode cX5_recalled 14 = .ok (.if_icmp .lt 5, 3) := by decide +kernel
theorem dX5_recalled_17 : decode cX5_recalled 17 = .ok (.iconst (-1), 1) := by decide +kernel
theorem dX5_recalled_18 : decode cX5_recalled 18 = .ok (.ireturn, 1) := by decide +kernel
theorem dX5_recalled_19 : decode cX5_recalled 19 = .ok (.iload_n 2, 1) := by decide +kernel
theorem dX5_recalled_20 : decode cX5_recalled 20 = .ok (.tableswitch 79 0 3 #[32, 39, 46, 72], 32) := by decide +kernel
theorem dX5_recalled_52 : decode cX5_recalled 52 = .ok (.aload_n 0, 1) := by decide +kernel
theorem dX5_recalled_53 : decode cX5_recalled 53 = .ok (.getfield 60, 3) := by decide +kernel
theorem dX5_recalled_56 : decode cX5_recalled 56 = .ok (.iload_n 1, 1) := by decide +kernel
theorem dX5_recalled_57 : decode cX5_recalled 57 = .ok (.iaload, 1) := by decide +kernel
theorem dX5_recalled_58 : decode cX5_recalled 58 = .ok (.ireturn, 1) := by decide +kernel
theorem dX5_recalled_59 : decode cX5_recalled 59 = .ok (.aload_n 0, 1) := by decide +kernel
theorem dX5_recalled_60 : decode cX5_recalled 60 = .ok (.getfield 63, 3) := by decide +kernel
theorem dX5_recalled_63 : decode cX5_recalled 63 = .ok (.iload_n 1, 1) := by decide +kernel
theorem dX5_recalled_64 : decode cX5_recalled 64 = .ok (.iaload, 1) := by decide +kernel
theorem dX5_recalled_65 : decode cX5_recalled 65 = .ok (.ireturn, 1) := by decide +kernel
theorem dX5_recalled_66 : decode cX5_recalled 66 = .ok (.aload_n 0, 1) := by decide +kernel
theorem dX5_recalled_67 : decode cX5_recalled 67 = .ok (.getfield 66, 3) := by decide +kernel
theorem dX5_recalled_70 : decode cX5_recalled 70 = .ok (.iload_n 1, 1) := by decide +kernel
theorem dX5_recalled_71 : decode cX5_recalled 71 = .ok (.laload, 1) := by decide +kernel
theorem dX5_recalled_72 : decode cX5_recalled 72 = .ok (.ldc2_w 119, 3) := by decide +kernel
theorem dX5_recalled_75 : decode cX5_recalled 75 = .ok (.lcmp, 1) := by decide +kernel
theorem dX5_recalled_76 : decode cX5_recalled 76 = .ok (.ifCond .le 8, 3) := by decide +kernel
theorem dX5_recalled_79 : decode cX5_recalled 79 = .ok (.ldc 121, 2) := by decide +kernel
theorem dX5_recalled_81 : decode cX5_recalled 81 = .ok (.goto 10, 3) := by decide +kernel
theorem dX5_recalled_84 : decode cX5_recalled 84 = .ok (.aload_n 0, 1) := by decide +kernel
theorem dX5_recalled_85 : decode cX5_recalled 85 = .ok (.getfield 66, 3) := by decide +kernel
theorem dX5_recalled_88 : decode cX5_recalled 88 = .ok (.iload_n 1, 1) := by decide +kernel
theorem dX5_recalled_89 : decode cX5_recalled 89 = .ok (.laload, 1) := by decide +kernel
theorem dX5_recalled_90 : decode cX5_recalled 90 = .ok (.l2i, 1) := by decide +kernel
theorem dX5_recalled_91 : decode cX5_recalled 91 = .ok (.ireturn, 1) := by decide +kernel
theorem dX5_recalled_92 : decode cX5_recalled 92 = .ok (.aload_n 0, 1) := by decide +kernel
theorem dX5_recalled_93 : decode cX5_recalled 93 = .ok (.getfield 69, 3) := by decide +kernel
theorem dX5_recalled_96 : decode cX5_recalled 96 = .ok (.iload_n 1, 1) := by decide +kernel
theorem dX5_recalled_97 : decode cX5_recalled 97 = .ok (.iaload, 1) := by decide +kernel
theorem dX5_recalled_98 : decode cX5_recalled 98 = .ok (.ireturn, 1) := by decide +kernel
theorem dX5_recalled_99 : decode cX5_recalled 99 = .ok (.iconst (-1), 1) := by decide +kernel
theorem dX5_recalled_100 : decode cX5_recalled 100 = .ok (.ireturn, 1) := by decide +kernel
theorem dX5_hold_0 : decode cX5_hold 0 = .ok (.aload_n 0, 1) := by decide +kernel
theorem dX5_hold_1 : decode cX5_hold 1 = .ok (.iconst 0, 1) := by decide +kernel
theorem dX5_hold_2 : decode cX5_hold 2 = .ok (.putfield 72, 3) := by decide +kernel
theorem dX5_hold_5 : decode cX5_hold 5 = .ok (.aload_n 0, 1) := by decide +kernel
theorem dX5_hold_6 : decode cX5_hold 6 = .ok (.iload_n 1, 1) := by decide +kernel
theorem dX5_hold_7 : decode cX5_hold 7 = .ok (.invokevirtual 79, 3) := by decide +kernel
theorem dX5_hold_10 : decode cX5_hold 10 = .ok (.ifCond .eq 13, 3) := by decide +kernel
theorem dX5_hold_13 : decode cX5_hold 13 = .ok (.aload_n 0, 1) := by decide +kernel
theorem dX5_hold_14 : decode cX5_hold 14 = .ok (.getfield 26, 3) := by decide +kernel
theorem dX5_hold_17 : decode cX5_hold 17 = .ok (.iload_n 1, 1) := by decide +kernel
theorem dX5_hold_18 : decode cX5_hold 18 = .ok (.baload, 1) := by decide +kernel
theorem dX5_hold_19 : decode cX5_hold 19 = .ok (.iload_n 2, 1) := by decide +kernel
theorem dX5_hold_20 : decode cX5_hold 20 = .ok (.if_icmp .ne 5, 3) := by decide +kernel
theorem dX5_hold_23 : decode cX5_hold 23 = .ok (.iconst 0, 1) := by decide +kernel
theorem dX5_hold_24 : decode cX5_hold 24 = .ok (.ireturn, 1) := by decide +kernel
theorem dX5_hold_25 : decode cX5_hold 25 = .ok (.aload_n 0, 1) := by decide +kernel
theorem dX5_hold_26 : decode cX5_hold 26 = .ok (.getfield 26, 3) := by decide +kernel
theorem dX5_hold_29 : decode cX5_hold 29 = .ok (.iload_n 1, 1) := by decide +kernel
theorem dX5_hold_30 : decode cX5_hold 30 = .ok (.iload_n 2, 1) := by decide +kernel
theorem dX5_hold_31 : decode cX5_hold 31 = .ok (.bastore, 1) := by decide +kernel
theorem dX5_hold_32 : decode cX5_hold 32 = .ok (.iconst 1, 1) := by decide +kernel
theorem dX5_hold_33 : decode cX5_hold 33 = .ok (.ireturn, 1) := by decide +kernel
theorem dX5_correct_0 : decode cX5_correct 0 = .ok (.aload_n 0, 1) := by decide +kernel
theorem dX5_correct_1 : decode cX5_correct 1 = .ok (.iconst 0, 1) := by decide +kernel
theorem dX5_correct_2 : decode cX5_correct 2 = .ok (.putfield 72, 3) := by decide +kernel
theorem dX5_correct_5 : decode cX5_correct 5 = .ok (.iload_n 1, 1) := by decide +kernel
theorem dX5_correct_6 : decode cX5_correct 6 = .ok (.ifCond .lt 69, 3) := by decide +kernel
theorem dX5_correct_9 : decode cX5_correct 9 = .ok (.iload_n 1, 1) := by decide +kernel
theorem dX5_correct_10 : decode cX5_correct 10 = .ok (.aload_n 0, 1) := by decide +kernel
theorem dX5_correct_11 : decode cX5_correct 11 = .ok (.getfield 93, 3) := by decide +kernel
theorem dX5_correct_14 : decode cX5_correct 14 = .ok (.if_icmp .ge 61, 3) := by decide +kernel
theorem dX5_correct_17 : decode cX5_correct 17 = .ok (.lload_n 2, 1) := by decide +kernel
theorem dX5_correct_18 : decode cX5_correct 18 = .ok (.lconst 0, 1) := by decide +kernel
theorem dX5_correct_19 : decode cX5_correct 19 = .ok (.lcmp, 1) := by decide +kernel
theorem dX5_correct_20 : decode cX5_correct 20 = .ok (.ifCond .lt 55, 3) := by decide +kernel
theorem dX5_correct_23 : decode cX5_correct 23 = .ok (.lload_n 2, 1) := by decide +kernel
theorem dX5_correct_24 : decode cX5_correct 24 = .ok (.ldc2_w 83, 3) := by decide +kernel
theorem dX5_correct_27 : decode cX5_correct 27 = .ok (.lcmp, 1) := by decide +kernel
theorem dX5_correct_28 : decode cX5_correct 28 = .ok (.ifCond .gt 47, 3) := by decide +kernel
theorem dX5_correct_31 : decode cX5_correct 31 = .ok (.lload 4, 2) := by decide +kernel
theorem dX5_correct_33 : decode cX5_correct 33 = .ok (.aload_n 0, 1) := by decide +kernel
theorem dX5_correct_34 : decode cX5_correct 34 = .ok (.getfield 122, 3) := by decide +kernel
theorem dX5_correct_37 : decode cX5_correct 37 = .ok (.lcmp, 1) := by decide +kernel
theorem dX5_correct_38 : decode cX5_correct 38 = .ok (.ifCond .lt 37, 3) := by decide +kernel
theorem dX5_correct_41 : decode cX5_correct 41 = .ok (.lload 4, 2) := by decide +kernel
theorem dX5_correct_43 : decode cX5_correct 43 = .ok (.ldc2_w 85, 3) := by decide +kernel
theorem dX5_correct_46 : decode cX5_correct 46 = .ok (.lcmp, 1) := by decide +kernel
theorem dX5_correct_47 : decode cX5_correct 47 = .ok (.ifCond .gt 28, 3) := by decide +kernel
theorem dX5_correct_50 : decode cX5_correct 50 = .ok (.aload_n 0, 1) := by decide +kernel
theorem dX5_correct_51 : decode cX5_correct 51 = .ok (.getfield 26, 3) := by decide +kernel
theorem dX5_correct_54 : decode cX5_correct 54 = .ok (.aload_n 0, 1) := by decide +kernel
theorem dX5_correct_55 : decode cX5_correct 55 = .ok (.getfield 30, 3) := by decide +kernel
theorem dX5_correct_58 : decode cX5_correct 58 = .ok (.iload_n 1, 1) := by decide +kernel
theorem dX5_correct_59 : decode cX5_correct 59 = .ok (.iaload, 1) := by decide +kernel
theorem dX5_correct_60 : decode cX5_correct 60 = .ok (.baload, 1) := by decide +kernel
theorem dX5_correct_61 : decode cX5_correct 61 = .ok (.ifCond .eq 16, 3) := by decide +kernel
theorem dX5_correct_64 : decode cX5_correct 64 = .ok (.lload_n 2, 1) := by decide +kernel
theorem dX5_correct_65 : decode cX5_correct 65 = .ok (.aload_n 0, 1) := by decide +kernel
theorem dX5_correct_66 : decode cX5_correct 66 = .ok (.getfield 36, 3) := by decide +kernel
theorem dX5_correct_69 : decode cX5_correct 69 = .ok (.iload_n 1, 1) := by decide +kernel
theorem dX5_correct_70 : decode cX5_correct 70 = .ok (.laload, 1) := by decide +kernel
theorem dX5_correct_71 : decode cX5_correct 71 = .ok (.lcmp, 1) := by decide +kernel
theorem dX5_correct_72 : decode cX5_correct 72 = .ok (.ifCond .le 5, 3) := by decide +kernel
theorem dX5_correct_75 : decode cX5_correct 75 = .ok (.iconst (-1), 1) := by decide +kernel
theorem dX5_correct_76 : decode cX5_correct 76 = .ok (.ireturn, 1) := by decide +kernel
theorem dX5_correct_77 : decode cX5_correct 77 = .ok (.aload_n 0, 1) := by decide +kernel
theorem dX5_correct_78 : decode cX5_correct 78 = .ok (.invokevirtual 108, 3) := by decide +kernel
theorem dX5_correct_81 : decode cX5_correct 81 = .ok (.istore 6, 2) := by decide +kernel
theorem dX5_correct_83 : decode cX5_correct 83 = .ok (.aload_n 0, 1) := by decide +kernel
theorem dX5_correct_84 : decode cX5_correct 84 = .ok (.getfield 42, 3) := by decide +kernel
theorem dX5_correct_87 : decode cX5_correct 87 = .ok (.iconst 0, 1) := by decide +kernel
theorem dX5_correct_88 : decode cX5_correct 88 = .ok (.aload_n 0, 1) := by decide +kernel
theorem dX5_correct_89 : decode cX5_correct 89 = .ok (.getfield 48, 3) := by decide +kernel
theorem dX5_correct_92 : decode cX5_correct 92 = .ok (.iconst 0, 1) := by decide +kernel
theorem dX5_correct_93 : decode cX5_correct 93 = .ok (.sipush 2304, 3) := by decide +kernel
theorem dX5_correct_96 : decode cX5_correct 96 = .ok (.invokestatic 126, 3) := by decide +kernel
theorem dX5_correct_99 : decode cX5_correct 99 = .ok (.aload_n 0, 1) := by decide +kernel
theorem dX5_correct_100 : decode cX5_correct 100 = .ok (.getfield 36, 3) := by decide +kernel
theorem dX5_correct_103 : decode cX5_correct 103 = .ok (.iload_n 1, 1) := by decide +kernel
theorem dX5_correct_104 : decode cX5_correct 104 = .ok (.laload, 1) := by decide +kernel
theorem dX5_correct_105 : decode cX5_correct 105 = .ok (.lstore 7, 2) := by decide +kernel
theorem dX5_correct_107 : decode cX5_correct 107 = .ok (.aload_n 0, 1) := by decide +kernel
theorem dX5_correct_108 : decode cX5_correct 108 = .ok (.getfield 36, 3) := by decide +kernel
theorem dX5_correct_111 : decode cX5_correct 111 = .ok (.iload_n 1, 1) := by decide +kernel
theorem dX5_correct_112 : decode cX5_correct 112 = .ok (.lload_n 2, 1) := by decide +kernel
theorem dX5_correct_113 : decode cX5_correct 113 = .ok (.lastore, 1) := by decide +kernel
theorem dX5_correct_114 : decode cX5_correct 114 = .ok (.aload_n 0, 1) := by decide +kernel
theorem dX5_correct_115 : decode cX5_correct 115 = .ok (.invokevirtual 108, 3) := by decide +kernel
theorem dX5_correct_118 : decode cX5_correct 118 = .ok (.ifCond .ne 13, 3) := by decide +kernel
theorem dX5_correct_121 : decode cX5_correct 121 = .ok (.aload_n 0, 1) := by decide +kernel
theorem dX5_correct_122 : decode cX5_correct 122 = .ok (.getfield 36, 3) := by decide +kernel
theorem dX5_correct_125 : decode cX5_correct 125 = .ok (.iload_n 1, 1) := by decide +kernel
theorem dX5_correct_126 : decode cX5_correct 126 = .ok (.lload 7, 2) := by decide +kernel
theorem dX5_correct_128 : decode cX5_correct 128 = .ok (.lastore, 1) := by decide +kernel
theorem dX5_correct_129 : decode cX5_correct 129 = .ok (.iconst (-1), 1) := by decide +kernel
theorem dX5_correct_130 : decode cX5_correct 130 = .ok (.ireturn, 1) := by decide +kernel
theorem dX5_correct_131 : decode cX5_correct 131 = .ok (.aload_n 0, 1) := by decide +kernel
theorem dX5_correct_132 : decode cX5_correct 132 = .ok (.lload 4, 2) := by decide +kernel
theorem dX5_correct_134 : decode cX5_correct 134 = .ok (.putfield 122, 3) := by decide +kernel
theorem dX5_correct_137 : decode cX5_correct 137 = .ok (.iconst 0, 1) := by decide +kernel
theorem dX5_correct_138 : decode cX5_correct 138 = .ok (.istore 9, 2) := by decide +kernel
theorem dX5_correct_140 : decode cX5_correct 140 = .ok (.iconst 0, 1) := by decide +kernel
theorem dX5_correct_141 : decode cX5_correct 141 = .ok (.istore 10, 2) := by decide +kernel
theorem dX5_correct_143 : decode cX5_correct 143 = .ok (.iload 10, 2) := by decide +kernel
theorem dX5_correct_145 : decode cX5_correct 145 = .ok (.aload_n 0, 1) := by decide +kernel
theorem dX5_correct_146 : decode cX5_correct 146 = .ok (.getfield 76, 3) := by decide +kernel
theorem dX5_correct_149 : decode cX5_correct 149 = .ok (.if_icmp .ge 87, 3) := by decide +kernel
theorem dX5_correct_152 : decode cX5_correct 152 = .ok (.iconst 1, 1) := by decide +kernel
theorem dX5_correct_153 : decode cX5_correct 153 = .ok (.istore 11, 2) := by decide +kernel
theorem dX5_correct_155 : decode cX5_correct 155 = .ok (.iconst 0, 1) := by decide +kernel
theorem dX5_correct_156 : decode cX5_correct 156 = .ok (.istore 12, 2) := by decide +kernel
theorem dX5_correct_158 : decode cX5_correct 158 = .ok (.iload 12, 2) := by decide +kernel
theorem dX5_correct_160 : decode cX5_correct 160 = .ok (.aload_n 0, 1) := by decide +kernel
theorem dX5_correct_161 : decode cX5_correct 161 = .ok (.getfield 76, 3) := by decide +kernel
theorem dX5_correct_164 : decode cX5_correct 164 = .ok (.if_icmp .ge 51, 3) := by decide +kernel
theorem dX5_correct_167 : decode cX5_correct 167 = .ok (.iload 11, 2) := by decide +kernel
theorem dX5_correct_169 : decode cX5_correct 169 = .ok (.ifCond .eq 37, 3) := by decide +kernel
theorem dX5_correct_172 : decode cX5_correct 172 = .ok (.aload_n 0, 1) := by decide +kernel
theorem dX5_correct_173 : decode cX5_correct 173 = .ok (.getfield 42, 3) := by decide +kernel
theorem dX5_correct_176 : decode cX5_correct 176 = .ok (.bipush 48, 2) := by decide +kernel
theorem dX5_correct_178 : decode cX5_correct 178 = .ok (.iload 10, 2) := by decide +kernel
theorem dX5_correct_180 : decode cX5_correct 180 = .ok (.imul, 1) := by decide +kernel
theorem dX5_correct_181 : decode cX5_correct 181 = .ok (.iload 12, 2) := by decide +kernel
theorem dX5_correct_183 : decode cX5_correct 183 = .ok (.iadd, 1) := by decide +kernel
theorem dX5_correct_184 : decode cX5_correct 184 = .ok (.laload, 1) := by decide +kernel
theorem dX5_correct_185 : decode cX5_correct 185 = .ok (.aload_n 0, 1) := by decide +kernel
theorem dX5_correct_186 : decode cX5_correct 186 = .ok (.getfield 48, 3) := by decide +kernel
theorem dX5_correct_189 : decode cX5_correct 189 = .ok (.bipush 48, 2) := by decide +kernel
theorem dX5_correct_191 : decode cX5_correct 191 = .ok (.iload 10, 2) := by decide +kernel
theorem dX5_correct_193 : decode cX5_correct 193 = .ok (.imul, 1) := by decide +kernel
theorem dX5_correct_194 : decode cX5_correct 194 = .ok (.iload 12, 2) := by decide +kernel
theorem dX5_correct_196 : decode cX5_correct 196 = .ok (.iadd, 1) := by decide +kernel
theorem dX5_correct_197 : decode cX5_correct 197 = .ok (.laload, 1) := by decide +kernel
theorem dX5_correct_198 : decode cX5_correct 198 = .ok (.lcmp, 1) := by decide +kernel
theorem dX5_correct_199 : decode cX5_correct 199 = .ok (.ifCond .ne 7, 3) := by decide +kernel
theorem dX5_correct_202 : decode cX5_correct 202 = .ok (.iconst 1, 1) := by decide +kernel
theorem dX5_correct_203 : decode cX5_correct 203 = .ok (.goto 4, 3) := by decide +kernel
theorem dX5_correct_206 : decode cX5_correct 206 = .ok (.iconst 0, 1) := by decide +kernel
theorem dX5_correct_207 : decode cX5_correct 207 = .ok (.istore 11, 2) := by decide +kernel
theorem dX5_correct_209 : decode cX5_correct 209 = .ok (.iinc 12 1, 3) := by decide +kernel
theorem dX5_correct_212 : decode cX5_correct 212 = .ok (.goto (-54), 3) := by decide +kernel
theorem dX5_correct_215 : decode cX5_correct 215 = .ok (.iload 9, 2) := by decide +kernel
theorem dX5_correct_217 : decode cX5_correct 217 = .ok (.iload 11, 2) := by decide +kernel
theorem dX5_correct_219 : decode cX5_correct 219 = .ok (.ifCond .eq 7, 3) := by decide +kernel
theorem dX5_correct_222 : decode cX5_correct 222 = .ok (.iconst 0, 1) := by decide +kernel
theorem dX5_correct_223 : decode cX5_correct 223 = .ok (.goto 4, 3) := by decide +kernel
theorem dX5_correct_226 : decode cX5_correct 226 = .ok (.iconst 1, 1) := by decide +kernel
theorem dX5_correct_227 : decode cX5_correct 227 = .ok (.iadd, 1) := by decide +kernel
theorem dX5_correct_228 : decode cX5_correct 228 = .ok (.istore 9, 2) := by decide +kernel
theorem dX5_correct_230 : decode cX5_correct 230 = .ok (.iinc 10 1, 3) := by decide +kernel
theorem dX5_correct_233 : decode cX5_correct 233 = .ok (.goto (-90), 3) := by decide +kernel
theorem dX5_correct_236 : decode cX5_correct 236 = .ok (.iload 9, 2) := by decide +kernel
theorem dX5_correct_238 : decode cX5_correct 238 = .ok (.ireturn, 1) := by decide +kernel
theorem dX5_top_0 : decode cX5_top 0 = .ok (.aload_n 0, 1) := by decide +kernel
theorem dX5_top_1 : decode cX5_top 1 = .ok (.iconst 0, 1) := by decide +kernel
theorem dX5_top_2 : decode cX5_top 2 = .ok (.putfield 72, 3) := by decide +kernel
theorem dX5_top_5 : decode cX5_top 5 = .ok (.aload_n 0, 1) := by decide +kernel
theorem dX5_top_6 : decode cX5_top 6 = .ok (.iload_n 1, 1) := by decide +kernel
theorem dX5_top_7 : decode cX5_top 7 = .ok (.invokevirtual 79, 3) := by decide +kernel
theorem dX5_top_10 : decode cX5_top 10 = .ok (.ifCond .eq 40, 3) := by decide +kernel
theorem dX5_top_13 : decode cX5_top 13 = .ok (.aload_n 0, 1) := by decide +kernel
theorem dX5_top_14 : decode cX5_top 14 = .ok (.getfield 9, 3) := by decide +kernel
theorem dX5_top_17 : decode cX5_top 17 = .ok (.iload_n 1, 1) := by decide +kernel
theorem dX5_top_18 : decode cX5_top 18 = .ok (.iaload, 1) := by decide +kernel
theorem dX5_top_19 : decode cX5_top 19 = .ok (.iconst 1, 1) := by decide +kernel
theorem dX5_top_20 : decode cX5_top 20 = .ok (.if_icmp .lt 30, 3) := by decide +kernel
theorem dX5_top_23 : decode cX5_top 23 = .ok (.iload_n 2, 1) := by decide +kernel
theorem dX5_top_24 : decode cX5_top 24 = .ok (.iconst (-1), 1) := by decide +kernel
theorem dX5_top_25 : decode cX5_top 25 = .ok (.if_icmp .eq 11, 3) := by decide +kernel
theorem dX5_top_28 : decode cX5_top 28 = .ok (.aload_n 0, 1) := by decide +kernel
theorem dX5_top_29 : decode cX5_top 29 = .ok (.iload_n 2, 1) := by decide +kernel
theorem dX5_top_30 : decode cX5_top 30 = .ok (.invokevirtual 112, 3) := by decide +kernel
theorem dX5_top_33 : decode cX5_top 33 = .ok (.ifCond .eq 17, 3) := by decide +kernel
theorem dX5_top_36 : decode cX5_top 36 = .ok (.lload_n 3, 1) := by decide +kernel
theorem dX5_top_37 : decode cX5_top 37 = .ok (.lconst 1, 1) := by decide +kernel
theorem dX5_top_38 : decode cX5_top 38 = .ok (.lcmp, 1) := by decide +kernel
theorem dX5_top_39 : decode cX5_top 39 = .ok (.ifCond .lt 11, 3) := by decide +kernel
theorem dX5_top_42 : decode cX5_top 42 = .ok (.lload_n 3, 1) := by decide +kernel
theorem dX5_top_43 : decode cX5_top 43 = .ok (.ldc2_w 83, 3) := by decide +kernel
theorem dX5_top_46 : decode cX5_top 46 = .ok (.lcmp, 1) := by decide +kernel
theorem dX5_top_47 : decode cX5_top 47 = .ok (.ifCond .le 5, 3) := by decide +kernel
theorem dX5_top_50 : decode cX5_top 50 = .ok (.iconst (-1), 1) := by decide +kernel
theorem dX5_top_51 : decode cX5_top 51 = .ok (.ireturn, 1) := by decide +kernel
theorem dX5_top_52 : decode cX5_top 52 = .ok (.aload_n 0, 1) := by decide +kernel
theorem dX5_top_53 : decode cX5_top 53 = .ok (.invokevirtual 108, 3) := by decide +kernel
theorem dX5_top_56 : decode cX5_top 56 = .ok (.istore 5, 2) := by decide +kernel
theorem dX5_top_58 : decode cX5_top 58 = .ok (.lconst 0, 1) := by decide +kernel
theorem dX5_top_59 : decode cX5_top 59 = .ok (.lstore 6, 2) := by decide +kernel
theorem dX5_top_61 : decode cX5_top 61 = .ok (.iconst 0, 1) := by decide +kernel
theorem dX5_top_62 : decode cX5_top 62 = .ok (.istore 8, 2) := by decide +kernel
theorem dX5_top_64 : decode cX5_top 64 = .ok (.iload 8, 2) := by decide +kernel
theorem dX5_top_66 : decode cX5_top 66 = .ok (.aload_n 0, 1) := by decide +kernel
theorem dX5_top_67 : decode cX5_top 67 = .ok (.getfield 93, 3) := by decide +kernel
theorem dX5_top_70 : decode cX5_top 70 = .ok (.if_icmp .ge 36, 3) := by decide +kernel
theorem dX5_top_73 : decode cX5_top 73 = .ok (.aload_n 0, 1) := by decide +kernel
theorem dX5_top_74 : decode cX5_top 74 = .ok (.getfield 39, 3) := by decide +kernel
theorem dX5_top_77 : decode cX5_top 77 = .ok (.iload 8, 2) := by decide +kernel
theorem dX5_top_79 : decode cX5_top 79 = .ok (.laload, 1) := by decide +kernel
theorem dX5_top_80 : decode cX5_top 80 = .ok (.lload 6, 2) := by decide +kernel
theorem dX5_top_82 : decode cX5_top 82 = .ok (.lcmp, 1) := by decide +kernel
theorem dX5_top_83 : decode cX5_top 83 = .ok (.ifCond .le 13, 3) := by decide +kernel
theorem dX5_top_86 : decode cX5_top 86 = .ok (.aload_n 0, 1) := by decide +kernel
theorem dX5_top_87 : decode cX5_top 87 = .ok (.getfield 39, 3) := by decide +kernel
theorem dX5_top_90 : decode cX5_top 90 = .ok (.iload 8, 2) := by decide +kernel
theorem dX5_top_92 : decode cX5_top 92 = .ok (.laload, 1) := by decide +kernel
theorem dX5_top_93 : decode cX5_top 93 = .ok (.goto 5, 3) := by decide +kernel
theorem dX5_top_96 : decode cX5_top 96 = .ok (.lload 6, 2) := by decide +kernel
theorem dX5_top_98 : decode cX5_top 98 = .ok (.lstore 6, 2) := by decide +kernel
theorem dX5_top_100 : decode cX5_top 100 = .ok (.iinc 8 1, 3) := by decide +kernel
theorem dX5_top_103 : decode cX5_top 103 = .ok (.goto (-39), 3) := by decide +kernel
theorem dX5_top_106 : decode cX5_top 106 = .ok (.aload_n 0, 1) := by decide +kernel
theorem dX5_top_107 : decode cX5_top 107 = .ok (.getfield 93, 3) := by decide +kernel
theorem dX5_top_110 : decode cX5_top 110 = .ok (.istore 8, 2) := by decide +kernel
theorem dX5_top_112 : decode cX5_top 112 = .ok (.lload_n 3, 1) := by decide +kernel
theorem dX5_top_113 : decode cX5_top 113 = .ok (.lstore 9, 2) := by decide +kernel
theorem dX5_top_115 : decode cX5_top 115 = .ok (.ldc2_w 91, 3) := by decide +kernel
theorem dX5_top_118 : decode cX5_top 118 = .ok (.lstore 11, 2) := by decide +kernel
theorem dX5_top_120 : decode cX5_top 120 = .ok (.iconst (-1), 1) := by decide +kernel
theorem dX5_top_121 : decode cX5_top 121 = .ok (.istore 13, 2) := by decide +kernel
theorem dX5_top_123 : decode cX5_top 123 = .ok (.iconst 1, 1) := by decide +kernel
theorem dX5_top_124 : decode cX5_top 124 = .ok (.istore 14, 2) := by decide +kernel
theorem dX5_top_126 : decode cX5_top 126 = .ok (.iload 14, 2) := by decide +kernel
theorem dX5_top_128 : decode cX5_top 128 = .ok (.ifCond .eq 283, 3) := by decide +kernel
theorem dX5_top_131 : decode cX5_top 131 = .ok (.lload 9, 2) := by decide +kernel
theorem dX5_top_133 : decode cX5_top 133 = .ok (.lconst 0, 1) := by decide +kernel
theorem dX5_top_134 : decode cX5_top 134 = .ok (.lcmp, 1) := by decide +kernel
theorem dX5_top_135 : decode cX5_top 135 = .ok (.ifCond .le 276, 3) := by decide +kernel
theorem dX5_top_138 : decode cX5_top 138 = .ok (.iconst (-1), 1) := by decide +kernel
theorem dX5_top_139 : decode cX5_top 139 = .ok (.istore 15, 2) := by decide +kernel
theorem dX5_top_141 : decode cX5_top 141 = .ok (.iconst 0, 1) := by decide +kernel
theorem dX5_top_142 : decode cX5_top 142 = .ok (.istore 16, 2) := by decide +kernel
theorem dX5_top_144 : decode cX5_top 144 = .ok (.iload 16, 2) := by decide +kernel
theorem dX5_top_146 : decode cX5_top 146 = .ok (.aload_n 0, 1) := by decide +kernel
theorem dX5_top_147 : decode cX5_top 147 = .ok (.getfield 76, 3) := by decide +kernel
theorem dX5_top_150 : decode cX5_top 150 = .ok (.if_icmp .ge 161, 3) := by decide +kernel
theorem dX5_top_153 : decode cX5_top 153 = .ok (.aload_n 0, 1) := by decide +kernel
theorem dX5_top_154 : decode cX5_top 154 = .ok (.getfield 9, 3) := by decide +kernel
theorem dX5_top_157 : decode cX5_top 157 = .ok (.iload 16, 2) := by decide +kernel
theorem dX5_top_159 : decode cX5_top 159 = .ok (.iaload, 1) := by decide +kernel
theorem dX5_top_160 : decode cX5_top 160 = .ok (.iconst (-1), 1) := by decide +kernel
theorem dX5_top_161 : decode cX5_top 161 = .ok (.if_icmp .ne 40, 3) := by decide +kernel
theorem dX5_top_164 : decode cX5_top 164 = .ok (.aload_n 0, 1) := by decide +kernel
theorem dX5_top_165 : decode cX5_top 165 = .ok (.getfield 17, 3) := by decide +kernel
theorem dX5_top_168 : decode cX5_top 168 = .ok (.iload 16, 2) := by decide +kernel
theorem dX5_top_170 : decode cX5_top 170 = .ok (.laload, 1) := by decide +kernel
theorem dX5_top_171 : decode cX5_top 171 = .ok (.lload 11, 2) := by decide +kernel
theorem dX5_top_173 : decode cX5_top 173 = .ok (.lcmp, 1) := by decide +kernel
theorem dX5_top_174 : decode cX5_top 174 = .ok (.ifCond .gt 23, 3) := by decide +kernel
theorem dX5_top_177 : decode cX5_top 177 = .ok (.aload_n 0, 1) := by decide +kernel
theorem dX5_top_178 : decode cX5_top 178 = .ok (.getfield 17, 3) := by decide +kernel
theorem dX5_top_181 : decode cX5_top 181 = .ok (.iload 16, 2) := by decide +kernel
theorem dX5_top_183 : decode cX5_top 183 = .ok (.laload, 1) := by decide +kernel
theorem dX5_top_184 : decode cX5_top 184 = .ok (.lload 11, 2) := by decide +kernel
theorem dX5_top_186 : decode cX5_top 186 = .ok (.lcmp, 1) := by decide +kernel
theorem dX5_top_187 : decode cX5_top 187 = .ok (.ifCond .ne 14, 3) := by decide +kernel
theorem dX5_top_190 : decode cX5_top 190 = .ok (.iload 16, 2) := by decide +kernel
theorem dX5_top_192 : decode cX5_top 192 = .ok (.iload 13, 2) := by decide +kernel
theorem dX5_top_194 : decode cX5_top 194 = .ok (.if_icmp .le 7, 3) := by decide +kernel
theorem dX5_top_197 : decode cX5_top 197 = .ok (.iconst 1, 1) := by decide +kernel
theorem dX5_top_198 : decode cX5_top 198 = .ok (.goto 4, 3) := by decide +kernel
theorem dX5_top_201 : decode cX5_top 201 = .ok (.iconst 0, 1) := by decide +kernel
theorem dX5_top_202 : decode cX5_top 202 = .ok (.istore 17, 2) := by decide +kernel
theorem dX5_top_204 : decode cX5_top 204 = .ok (.iload 17, 2) := by decide +kernel
theorem dX5_top_206 : decode cX5_top 206 = .ok (.ifCond .eq 59, 3) := by decide +kernel
theorem dX5_top_209 : decode cX5_top 209 = .ok (.aload_n 0, 1) := by decide +kernel
theorem dX5_top_210 : decode cX5_top 210 = .ok (.getfield 26, 3) := by decide +kernel
theorem dX5_top_213 : decode cX5_top 213 = .ok (.iload 16, 2) := by decide +kernel
theorem dX5_top_215 : decode cX5_top 215 = .ok (.baload, 1) := by decide +kernel
theorem dX5_top_216 : decode cX5_top 216 = .ok (.ifCond .ne 49, 3) := by decide +kernel
theorem dX5_top_219 : decode cX5_top 219 = .ok (.aload_n 0, 1) := by decide +kernel
theorem dX5_top_220 : decode cX5_top 220 = .ok (.getfield 42, 3) := by decide +kernel
theorem dX5_top_223 : decode cX5_top 223 = .ok (.bipush 48, 2) := by decide +kernel
theorem dX5_top_225 : decode cX5_top 225 = .ok (.iload 16, 2) := by decide +kernel
theorem dX5_top_227 : decode cX5_top 227 = .ok (.imul, 1) := by decide +kernel
theorem dX5_top_228 : decode cX5_top 228 = .ok (.iload 16, 2) := by decide +kernel
theorem dX5_top_230 : decode cX5_top 230 = .ok (.iadd, 1) := by decide +kernel
theorem dX5_top_231 : decode cX5_top 231 = .ok (.laload, 1) := by decide +kernel
theorem dX5_top_232 : decode cX5_top 232 = .ok (.lconst 0, 1) := by decide +kernel
theorem dX5_top_233 : decode cX5_top 233 = .ok (.lcmp, 1) := by decide +kernel
theorem dX5_top_234 : decode cX5_top 234 = .ok (.ifCond .le 31, 3) := by decide +kernel
theorem dX5_top_237 : decode cX5_top 237 = .ok (.aload_n 0, 1) := by decide +kernel
theorem dX5_top_238 : decode cX5_top 238 = .ok (.getfield 17, 3) := by decide +kernel
theorem dX5_top_241 : decode cX5_top 241 = .ok (.iload 16, 2) := by decide +kernel
theorem dX5_top_243 : decode cX5_top 243 = .ok (.laload, 1) := by decide +kernel
theorem dX5_top_244 : decode cX5_top 244 = .ok (.lload 6, 2) := by decide +kernel
theorem dX5_top_246 : decode cX5_top 246 = .ok (.lcmp, 1) := by decide +kernel
theorem dX5_top_247 : decode cX5_top 247 = .ok (.ifCond .gt 18, 3) := by decide +kernel
theorem dX5_top_250 : decode cX5_top 250 = .ok (.iload_n 2, 1) := by decide +kernel
theorem dX5_top_251 : decode cX5_top 251 = .ok (.iconst (-1), 1) := by decide +kernel
theorem dX5_top_252 : decode cX5_top 252 = .ok (.if_icmp .eq 9, 3) := by decide +kernel
theorem dX5_top_255 : decode cX5_top 255 = .ok (.iload_n 2, 1) := by decide +kernel
theorem dX5_top_256 : decode cX5_top 256 = .ok (.iload 16, 2) := by decide +kernel
theorem dX5_top_258 : decode cX5_top 258 = .ok (.if_icmp .ne 7, 3) := by decide +kernel
theorem dX5_top_261 : decode cX5_top 261 = .ok (.iconst 1, 1) := by decide +kernel
theorem dX5_top_262 : decode cX5_top 262 = .ok (.goto 4, 3) := by decide +kernel
theorem dX5_top_265 : decode cX5_top 265 = .ok (.iconst 0, 1) := by decide +kernel
theorem dX5_top_266 : decode cX5_top 266 = .ok (.istore 18, 2) := by decide +kernel
theorem dX5_top_268 : decode cX5_top 268 = .ok (.iload 18, 2) := by decide +kernel
theorem dX5_top_270 : decode cX5_top 270 = .ok (.ifCond .eq 31, 3) := by decide +kernel
theorem dX5_top_273 : decode cX5_top 273 = .ok (.iload 15, 2) := by decide +kernel
theorem dX5_top_275 : decode cX5_top 275 = .ok (.ifCond .lt 21, 3) := by decide +kernel
theorem dX5_top_278 : decode cX5_top 278 = .ok (.aload_n 0, 1) := by decide +kernel
theorem dX5_top_279 : decode cX5_top 279 = .ok (.getfield 17, 3) := by decide +kernel
theorem dX5_top_282 : decode cX5_top 282 = .ok (.iload 16, 2) := by decide +kernel
theorem dX5_top_284 : decode cX5_top 284 = .ok (.laload, 1) := by decide +kernel
theorem dX5_top_285 : decode cX5_top 285 = .ok (.aload_n 0, 1) := by decide +kernel
theorem dX5_top_286 : decode cX5_top 286 = .ok (.getfield 17, 3) := by decide +kernel
theorem dX5_top_289 : decode cX5_top 289 = .ok (.iload 15, 2) := by decide +kernel
theorem dX5_top_291 : decode cX5_top 291 = .ok (.laload, 1) := by decide +kernel
theorem dX5_top_292 : decode cX5_top 292 = .ok (.lcmp, 1) := by decide +kernel
theorem dX5_top_293 : decode cX5_top 293 = .ok (.ifCond .ge 8, 3) := by decide +kernel
theorem dX5_top_296 : decode cX5_top 296 = .ok (.iload 16, 2) := by decide +kernel
theorem dX5_top_298 : decode cX5_top 298 = .ok (.goto 5, 3) := by decide +kernel
theorem dX5_top_301 : decode cX5_top 301 = .ok (.iload 15, 2) := by decide +kernel
theorem dX5_top_303 : decode cX5_top 303 = .ok (.istore 15, 2) := by decide +kernel
theorem dX5_top_305 : decode cX5_top 305 = .ok (.iinc 16 1, 3) := by decide +kernel
theorem dX5_top_308 : decode cX5_top 308 = .ok (.goto (-164), 3) := by decide +kernel
theorem dX5_top_311 : decode cX5_top 311 = .ok (.iload 15, 2) := by decide +kernel
theorem dX5_top_313 : decode cX5_top 313 = .ok (.ifCond .lt 17, 3) := by decide +kernel
theorem dX5_top_316 : decode cX5_top 316 = .ok (.aload_n 0, 1) := by decide +kernel
theorem dX5_top_317 : decode cX5_top 317 = .ok (.getfield 93, 3) := by decide +kernel
theorem dX5_top_320 : decode cX5_top 320 = .ok (.sipush 400, 3) := by decide +kernel
theorem dX5_top_323 : decode cX5_top 323 = .ok (.if_icmp .ge 7, 3) := by decide +kernel
theorem dX5_top_326 : decode cX5_top 326 = .ok (.iconst 1, 1) := by decide +kernel
theorem dX5_top_327 : decode cX5_top 327 = .ok (.goto 4, 3) := by decide +kernel
theorem dX5_top_330 : decode cX5_top 330 = .ok (.iconst 0, 1) := by decide +kernel
theorem dX5_top_331 : decode cX5_top 331 = .ok (.istore 14, 2) := by decide +kernel
theorem dX5_top_333 : decode cX5_top 333 = .ok (.iload 14, 2) := by decide +kernel
theorem dX5_top_335 : decode cX5_top 335 = .ok (.ifCond .eq 73, 3) := by decide +kernel
theorem dX5_top_338 : decode cX5_top 338 = .ok (.aload_n 0, 1) := by decide +kernel
theorem dX5_top_339 : decode cX5_top 339 = .ok (.getfield 42, 3) := by decide +kernel
theorem dX5_top_342 : decode cX5_top 342 = .ok (.bipush 48, 2) := by decide +kernel
theorem dX5_top_344 : decode cX5_top 344 = .ok (.iload 15, 2) := by decide +kernel
theorem dX5_top_346 : decode cX5_top 346 = .ok (.imul, 1) := by decide +kernel
theorem dX5_top_347 : decode cX5_top 347 = .ok (.iload 15, 2) := by decide +kernel
theorem dX5_top_349 : decode cX5_top 349 = .ok (.iadd, 1) := by decide +kernel
theorem dX5_top_350 : decode cX5_top 350 = .ok (.laload, 1) := by decide +kernel
theorem dX5_top_351 : decode cX5_top 351 = .ok (.lload 9, 2) := by decide +kernel
theorem dX5_top_353 : decode cX5_top 353 = .ok (.lcmp, 1) := by decide +kernel
theorem dX5_top_354 : decode cX5_top 354 = .ok (.ifCond .ge 19, 3) := by decide +kernel
theorem dX5_top_357 : decode cX5_top 357 = .ok (.aload_n 0, 1) := by decide +kernel
theorem dX5_top_358 : decode cX5_top 358 = .ok (.getfield 42, 3) := by decide +kernel
theorem dX5_top_361 : decode cX5_top 361 = .ok (.bipush 48, 2) := by decide +kernel
theorem dX5_top_363 : decode cX5_top 363 = .ok (.iload 15, 2) := by decide +kernel
theorem dX5_top_365 : decode cX5_top 365 = .ok (.imul, 1) := by decide +kernel
theorem dX5_top_366 : decode cX5_top 366 = .ok (.iload 15, 2) := by decide +kernel
theorem dX5_top_368 : decode cX5_top 368 = .ok (.iadd, 1) := by decide +kernel
theorem dX5_top_369 : decode cX5_top 369 = .ok (.laload, 1) := by decide +kernel
theorem dX5_top_370 : decode cX5_top 370 = .ok (.goto 5, 3) := by decide +kernel
theorem dX5_top_373 : decode cX5_top 373 = .ok (.lload 9, 2) := by decide +kernel
theorem dX5_top_375 : decode cX5_top 375 = .ok (.lstore 16, 2) := by decide +kernel
theorem dX5_top_377 : decode cX5_top 377 = .ok (.aload_n 0, 1) := by decide +kernel
theorem dX5_top_378 : decode cX5_top 378 = .ok (.iload 15, 2) := by decide +kernel
theorem dX5_top_380 : decode cX5_top 380 = .ok (.iload_n 1, 1) := by decide +kernel
theorem dX5_top_381 : decode cX5_top 381 = .ok (.lload 16, 2) := by decide +kernel
theorem dX5_top_383 : decode cX5_top 383 = .ok (.lload 6, 2) := by decide +kernel
theorem dX5_top_385 : decode cX5_top 385 = .ok (.invokevirtual 104, 3) := by decide +kernel
theorem dX5_top_388 : decode cX5_top 388 = .ok (.lload 9, 2) := by decide +kernel
theorem dX5_top_390 : decode cX5_top 390 = .ok (.lload 16, 2) := by decide +kernel
theorem dX5_top_392 : decode cX5_top 392 = .ok (.lsub, 1) := by decide +kernel
theorem dX5_top_393 : decode cX5_top 393 = .ok (.lstore 9, 2) := by decide +kernel
theorem dX5_top_395 : decode cX5_top 395 = .ok (.iload 15, 2) := by decide +kernel
theorem dX5_top_397 : decode cX5_top 397 = .ok (.istore 13, 2) := by decide +kernel
theorem dX5_top_399 : decode cX5_top 399 = .ok (.aload_n 0, 1) := by decide +kernel
theorem dX5_top_400 : decode cX5_top 400 = .ok (.getfield 17, 3) := by decide +kernel
theorem dX5_top_403 : decode cX5_top 403 = .ok (.iload 15, 2) := by decide +kernel
theorem dX5_top_405 : decode cX5_top 405 = .ok (.laload, 1) := by decide +kernel
theorem dX5_top_406 : decode cX5_top 406 = .ok (.lstore 11, 2) := by decide +kernel
theorem dX5_top_408 : decode cX5_top 408 = .ok (.goto (-282), 3) := by decide +kernel
theorem dX5_top_411 : decode cX5_top 411 = .ok (.lload 9, 2) := by decide +kernel
theorem dX5_top_413 : decode cX5_top 413 = .ok (.lconst 0, 1) := by decide +kernel
theorem dX5_top_414 : decode cX5_top 414 = .ok (.lcmp, 1) := by decide +kernel
theorem dX5_top_415 : decode cX5_top 415 = .ok (.ifCond .gt 10, 3) := by decide +kernel
theorem dX5_top_418 : decode cX5_top 418 = .ok (.aload_n 0, 1) := by decide +kernel
theorem dX5_top_419 : decode cX5_top 419 = .ok (.invokevirtual 108, 3) := by decide +kernel
theorem dX5_top_422 : decode cX5_top 422 = .ok (.ifCond .ne 11, 3) := by decide +kernel
theorem dX5_top_425 : decode cX5_top 425 = .ok (.aload_n 0, 1) := by decide +kernel
theorem dX5_top_426 : decode cX5_top 426 = .ok (.iload 8, 2) := by decide +kernel
theorem dX5_top_428 : decode cX5_top 428 = .ok (.putfield 93, 3) := by decide +kernel
theorem dX5_top_431 : decode cX5_top 431 = .ok (.iconst (-1), 1) := by decide +kernel
theorem dX5_top_432 : decode cX5_top 432 = .ok (.ireturn, 1) := by decide +kernel
theorem dX5_top_433 : decode cX5_top 433 = .ok (.aload_n 0, 1) := by decide +kernel
theorem dX5_top_434 : decode cX5_top 434 = .ok (.getfield 93, 3) := by decide +kernel
theorem dX5_top_437 : decode cX5_top 437 = .ok (.iload 8, 2) := by decide +kernel
theorem dX5_top_439 : decode cX5_top 439 = .ok (.isub, 1) := by decide +kernel
theorem dX5_top_440 : decode cX5_top 440 = .ok (.ireturn, 1) := by decide +kernel
theorem dX5_whole_0 : decode cX5_whole 0 = .ok (.aload_n 0, 1) := by decide +kernel
theorem dX5_whole_1 : decode cX5_whole 1 = .ok (.iconst 0, 1) := by decide +kernel
theorem dX5_whole_2 : decode cX5_whole 2 = .ok (.putfield 72, 3) := by decide +kernel
theorem dX5_whole_5 : decode cX5_whole 5 = .ok (.aload_n 0, 1) := by decide +kernel
theorem dX5_whole_6 : decode cX5_whole 6 = .ok (.iload_n 1, 1) := by decide +kernel
theorem dX5_whole_7 : decode cX5_whole 7 = .ok (.invokevirtual 79, 3) := by decide +kernel
theorem dX5_whole_10 : decode cX5_whole 10 = .ok (.ireturn, 1) := by decide +kernel
theorem dX5_loss_0 : decode cX5_loss 0 = .ok (.aload_n 0, 1) := by decide +kernel
theorem dX5_loss_1 : decode cX5_loss 1 = .ok (.iconst 0, 1) := by decide +kernel
theorem dX5_loss_2 : decode cX5_loss 2 = .ok (.putfield 72, 3) := by decide +kernel
theorem dX5_loss_5 : decode cX5_loss 5 = .ok (.aload_n 0, 1) := by decide +kernel
theorem dX5_loss_6 : decode cX5_loss 6 = .ok (.iload_n 1, 1) := by decide +kernel
theorem dX5_loss_7 : decode cX5_loss 7 = .ok (.invokevirtual 79, 3) := by decide +kernel
theorem dX5_loss_10 : decode cX5_loss 10 = .ok (.ifCond .ne 7, 3) := by decide +kernel
theorem dX5_loss_13 : decode cX5_loss 13 = .ok (.ldc2_w 91, 3) := by decide +kernel
theorem dX5_loss_16 : decode cX5_loss 16 = .ok (.lreturn, 1) := by decide +kernel
theorem dX5_loss_17 : decode cX5_loss 17 = .ok (.lconst 0, 1) := by decide +kernel
theorem dX5_loss_18 : decode cX5_loss 18 = .ok (.lstore_n 2, 1) := by decide +kernel
theorem dX5_loss_19 : decode cX5_loss 19 = .ok (.iconst 0, 1) := by decide +kernel
theorem dX5_loss_20 : decode cX5_loss 20 = .ok (.istore 4, 2) := by decide +kernel
theorem dX5_loss_22 : decode cX5_loss 22 = .ok (.iload 4, 2) := by decide +kernel
theorem dX5_loss_24 : decode cX5_loss 24 = .ok (.aload_n 0, 1) := by decide +kernel
theorem dX5_loss_25 : decode cX5_loss 25 = .ok (.getfield 93, 3) := by decide +kernel
theorem dX5_loss_28 : decode cX5_loss 28 = .ok (.if_icmp .ge 49, 3) := by decide +kernel
theorem dX5_loss_31 : decode cX5_loss 31 = .ok (.lload_n 2, 1) := by decide +kernel
theorem dX5_loss_32 : decode cX5_loss 32 = .ok (.aload_n 0, 1) := by decide +kernel
theorem dX5_loss_33 : decode cX5_loss 33 = .ok (.getfield 30, 3) := by decide +kernel
theorem dX5_loss_36 : decode cX5_loss 36 = .ok (.iload 4, 2) := by decide +kernel
theorem dX5_loss_38 : decode cX5_loss 38 = .ok (.iaload, 1) := by decide +kernel
theorem dX5_loss_39 : decode cX5_loss 39 = .ok (.iload_n 1, 1) := by decide +kernel
theorem dX5_loss_40 : decode cX5_loss 40 = .ok (.if_icmp .ne 28, 3) := by decide +kernel
theorem dX5_loss_43 : decode cX5_loss 43 = .ok (.aload_n 0, 1) := by decide +kernel
theorem dX5_loss_44 : decode cX5_loss 44 = .ok (.getfield 9, 3) := by decide +kernel
theorem dX5_loss_47 : decode cX5_loss 47 = .ok (.aload_n 0, 1) := by decide +kernel
theorem dX5_loss_48 : decode cX5_loss 48 = .ok (.getfield 33, 3) := by decide +kernel
theorem dX5_loss_51 : decode cX5_loss 51 = .ok (.iload 4, 2) := by decide +kernel
theorem dX5_loss_53 : decode cX5_loss 53 = .ok (.iaload, 1) := by decide +kernel
theorem dX5_loss_54 : decode cX5_loss 54 = .ok (.iaload, 1) := by decide +kernel
theorem dX5_loss_55 : decode cX5_loss 55 = .ok (.ifCond .ne 13, 3) := by decide +kernel
theorem dX5_loss_58 : decode cX5_loss 58 = .ok (.aload_n 0, 1) := by decide +kernel
theorem dX5_loss_59 : decode cX5_loss 59 = .ok (.getfield 36, 3) := by decide +kernel
theorem dX5_loss_62 : decode cX5_loss 62 = .ok (.iload 4, 2) := by decide +kernel
theorem dX5_loss_64 : decode cX5_loss 64 = .ok (.laload, 1) := by decide +kernel
theorem dX5_loss_65 : decode cX5_loss 65 = .ok (.goto 4, 3) := by decide +kernel
theorem dX5_loss_68 : decode cX5_loss 68 = .ok (.lconst 0, 1) := by decide +kernel
theorem dX5_loss_69 : decode cX5_loss 69 = .ok (.ladd, 1) := by decide +kernel
theorem dX5_loss_70 : decode cX5_loss 70 = .ok (.lstore_n 2, 1) := by decide +kernel
theorem dX5_loss_71 : decode cX5_loss 71 = .ok (.iinc 4 1, 3) := by decide +kernel
theorem dX5_loss_74 : decode cX5_loss 74 = .ok (.goto (-52), 3) := by decide +kernel
theorem dX5_loss_77 : decode cX5_loss 77 = .ok (.lload_n 2, 1) := by decide +kernel
theorem dX5_loss_78 : decode cX5_loss 78 = .ok (.lreturn, 1) := by decide +kernel
