theorem dX4_init_0 : decode cX4_init 0 = .ok (.aload_n 0, 1) := by decide +kernel
theorem dX4_init_1 : decode cX4_init 1 = .ok (.invokespecial 1, 3) := by decide +kernel
theorem dX4_init_4 : decode cX4_init 4 = .ok (.aload_n 0, 1) := by decide +kernel
theorem dX4_init_5 : decode cX4_init 5 = .ok (.new 7, 3) := by decide +kernel
theorem dX4_init_8 : decode cX4_init 8 = .ok (.dup, 1) := by decide +kernel
theorem dX4_init_9 : decode cX4_init 9 = .ok (.invokespecial 9, 3) := by decide +kernel
theorem dX4_init_12 : decode cX4_init 12 = .ok (.putfield 10, 3) := by decide +kernel
theorem dX4_init_15 : decode cX4_init 15 = .ok (.aload_n 0, 1) := by decide +kernel
theorem dX4_init_16 : decode cX4_init 16 = .ok (.new 16, 3) := by decide +kernel
theorem dX4_init_19 : decode cX4_init 19 = .ok (.dup, 1) := by decide +kernel
theorem dX4_init_20 : decode cX4_init 20 = .ok (.invokespecial 18, 3) := by decide +kernel
theorem dX4_init_23 : decode cX4_init 23 = .ok (.putfield 19, 3) := by decide +kernel
theorem dX4_init_26 : decode cX4_init 26 = .ok (.aload_n 0, 1) := by decide +kernel
theorem dX4_init_27 : decode cX4_init 27 = .ok (.new 23, 3) := by decide +kernel
theorem dX4_init_30 : decode cX4_init 30 = .ok (.dup, 1) := by decide +kernel
theorem dX4_init_31 : decode cX4_init 31 = .ok (.invokespecial 25, 3) := by decide +kernel
theorem dX4_init_34 : decode cX4_init 34 = .ok (.putfield 26, 3) := by decide +kernel
theorem dX4_init_37 : decode cX4_init 37 = .ok (.aload_n 0, 1) := by decide +kernel
theorem dX4_init_38 : decode cX4_init 38 = .ok (.new 30, 3) := by decide +kernel
theorem dX4_init_41 : decode cX4_init 41 = .ok (.dup, 1) := by decide +kernel
theorem dX4_init_42 : decode cX4_init 42 = .ok (.aload_n 0, 1) := by decide +kernel
theorem dX4_init_43 : decode cX4_init 43 = .ok (.getfield 10, 3) := by decide +kernel
theorem dX4_init_46 : decode cX4_init 46 = .ok (.invokespecial 32, 3) := by decide +kernel
theorem dX4_init_49 : decode cX4_init 49 = .ok (.putfield 35, 3) := by decide +kernel
theorem dX4_init_52 : decode cX4_init 52 = .ok (.aload_n 0, 1) := by decide +kernel
theorem dX4_init_53 : decode cX4_init 53 = .ok (.new 30, 3) := by decide +kernel
theorem dX4_init_56 : decode cX4_init 56 = .ok (.dup, 1) := by decide +kernel
theorem dX4_init_57 : decode cX4_init 57 = .ok (.aload_n 0, 1) := by decide +kernel
theorem dX4_init_58 : decode cX4_init 58 = .ok (.getfield 10, 3) := by decide +kernel
theorem dX4_init_61 : decode cX4_init 61 = .ok (.invokespecial 32, 3) := by decide +kernel
theorem dX4_init_64 : decode cX4_init 64 = .ok (.putfield 39, 3) := by decide +kernel
theorem dX4_init_67 : decode cX4_init 67 = .ok (.aload_n 0, 1) := by decide +kernel
theorem dX4_init_68 : decode cX4_init 68 = .ok (.lconst 0, 1) := by decide +kernel
theorem dX4_init_69 : decode cX4_init 69 = .ok (.putfield 42, 3) := by decide +kernel
theorem dX4_init_72 : decode cX4_init 72 = .ok (.return_, 1) := by decide +kernel
theorem dX4_lot_0 : decode cX4_lot 0 = .ok (.lload_n 1, 1) := by decide +kernel
theorem dX4_lot_1 : decode cX4_lot 1 = .ok (.invokestatic 46, 3) := by decide +kernel
theorem dX4_lot_4 : decode cX4_lot 4 = .ok (.ifCond .eq 10, 3) := by decide +kernel
theorem dX4_lot_7 : decode cX4_lot 7 = .ok (.lload_n 3, 1) := by decide +kernel
theorem dX4_lot_8 : decode cX4_lot 8 = .ok (.invokestatic 50, 3) := by decide +kernel
theorem dX4_lot_11 : decode cX4_lot 11 = .ok (.ifCond .ne 5, 3) := by decide +kernel
theorem dX4_lot_14 : decode cX4_lot 14 = .ok (.iconst (-1), 1) := by decide +kernel
theorem dX4_lot_15 : decode cX4_lot 15 = .ok (.ireturn, 1) := by decide +kernel
theorem dX4_lot_16 : decode cX4_lot 16 = .ok (.aload_n 0, 1) := by decide +kernel
theorem dX4_lot_17 : decode cX4_lot 17 = .ok (.getfield 10, 3) := by decide +kernel
theorem dX4_lot_20 : decode cX4_lot 20 = .ok (.lload_n 1, 1) := by decide +kernel
theorem dX4_lot_21 : decode cX4_lot 21 = .ok (.lload_n 3, 1) := by decide +kernel
theorem dX4_lot_22 : decode cX4_lot 22 = .ok (.invokevirtual 53, 3) := by decide +kernel
theorem dX4_lot_25 : decode cX4_lot 25 = .ok (.istore 5, 2) := by decide +kernel
theorem dX4_lot_27 : decode cX4_lot 27 = .ok (.aload_n 0, 1) := by decide +kernel
theorem dX4_lot_28 : decode cX4_lot 28 = .ok (.getfield 10, 3) := by decide +kernel
theorem dX4_lot_31 : decode cX4_lot 31 = .ok (.iload 5, 2) := by decide +kernel
theorem dX4_lot_33 : decode cX4_lot 33 = .ok (.invokevirtual 57, 3) := by decide +kernel
theorem dX4_lot_36 : decode cX4_lot 36 = .ok (.ifCond .eq 12, 3) := by decide +kernel
theorem dX4_lot_39 : decode cX4_lot 39 = .ok (.aload_n 0, 1) := by decide +kernel
theorem dX4_lot_40 : decode cX4_lot 40 = .ok (.getfield 35, 3) := by decide +kernel
theorem dX4_lot_43 : decode cX4_lot 43 = .ok (.iload 5, 2) := by decide +kernel
theorem dX4_lot_45 : decode cX4_lot 45 = .ok (.invokevirtual 61, 3) := by decide +kernel
theorem dX4_lot_48 : decode cX4_lot 48 = .ok (.iload 5, 2) := by decide +kernel
theorem dX4_lot_50 : decode cX4_lot 50 = .ok (.ireturn, 1) := by decide +kernel
theorem dX4_thing_0 : decode cX4_thing 0 = .ok (.iload_n 1, 1) := by decide +kernel
theorem dX4_thing_1 : decode cX4_thing 1 = .ok (.ifCond .lt 8, 3) := by decide +kernel
theorem dX4_thing_4 : decode cX4_thing 4 = .ok (.iload_n 1, 1) := by decide +kernel
theorem dX4_thing_5 : decode cX4_thing 5 = .ok (.iconst 4, 1) := by decide +kernel
theorem dX4_thing_6 : decode cX4_thing 6 = .ok (.if_icmp .le 5, 3) := by decide +kernel
theorem dX4_thing_9 : decode cX4_thing 9 = .ok (.iconst (-1), 1) := by decide +kernel
theorem dX4_thing_10 : decode cX4_thing 10 = .ok (.ireturn, 1) := by decide +kernel
theorem dX4_thing_11 : decode cX4_thing 11 = .ok (.aload_n 0, 1) := by decide +kernel
theorem dX4_thing_12 : decode cX4_thing 12 = .ok (.getfield 10, 3) := by decide +kernel
theorem dX4_thing_15 : decode cX4_thing 15 = .ok (.iload_n 1, 1) := by decide +kernel
theorem dX4_thing_16 : decode cX4_thing 16 = .ok (.invokevirtual 65, 3) := by decide +kernel
theorem dX4_thing_19 : decode cX4_thing 19 = .ok (.ireturn, 1) := by decide +kernel
theorem dX4_flow_0 : decode cX4_flow 0 = .ok (.aload_n 0, 1) := by decide +kernel
theorem dX4_flow_1 : decode cX4_flow 1 = .ok (.getfield 10, 3) := by decide +kernel
theorem dX4_flow_4 : decode cX4_flow 4 = .ok (.iload_n 1, 1) := by decide +kernel
theorem dX4_flow_5 : decode cX4_flow 5 = .ok (.invokevirtual 69, 3) := by decide +kernel
theorem dX4_flow_8 : decode cX4_flow 8 = .ok (.ifCond .eq 14, 3) := by decide +kernel
theorem dX4_flow_11 : decode cX4_flow 11 = .ok (.aload_n 0, 1) := by decide +kernel
theorem dX4_flow_12 : decode cX4_flow 12 = .ok (.getfield 10, 3) := by decide +kernel
theorem dX4_flow_15 : decode cX4_flow 15 = .ok (.iload_n 2, 1) := by decide +kernel
theorem dX4_flow_16 : decode cX4_flow 16 = .ok (.invokevirtual 69, 3) := by decide +kernel
theorem dX4_flow_19 : decode cX4_flow 19 = .ok (.ifCond .ne 13, 3) := by decide +kernel
theorem dX4_flow_22 : decode cX4_flow 22 = .ok (.new 72, 3) := by decide +kernel
theorem dX4_flow_25 : decode cX4_flow 25 = .ok (.dup, 1) := by decide +kernel
theorem dX4_flow_26 : decode cX4_flow 26 = .ok (.ldc 74, 2) := by decide +kernel
theorem dX4_flow_28 : decode cX4_flow 28 = .ok (.invokespecial 76, 3) := by decide +kernel
theorem dX4_flow_31 : decode cX4_flow 31 = .ok (.athrow, 1) := by decide +kernel
theorem dX4_flow_32 : decode cX4_flow 32 = .ok (.aload_n 0, 1) := by decide +kernel
theorem dX4_flow_33 : decode cX4_flow 33 = .ok (.getfield 19, 3) := by decide +kernel
theorem dX4_flow_36 : decode cX4_flow 36 = .ok (.getfield 79, 3) := by decide +kernel
theorem dX4_flow_39 : decode cX4_flow 39 = .ok (.sipush 400, 3) := by decide +kernel
theorem dX4_flow_42 : decode cX4_flow 42 = .ok (.if_icmp .lt 13, 3) := by decide +kernel
theorem dX4_flow_45 : decode cX4_flow 45 = .ok (.new 72, 3) := by decide +kernel
theorem dX4_flow_48 : decode cX4_flow 48 = .ok (.dup, 1) := by decide +kernel
theorem dX4_flow_49 : decode cX4_flow 49 = .ok (.ldc 83, 2) := by decide +kernel
theorem dX4_flow_51 : decode cX4_flow 51 = .ok (.invokespecial 76, 3) := by decide +kernel
theorem dX4_flow_54 : decode cX4_flow 54 = .ok (.athrow, 1) := by decide +kernel
theorem dX4_flow_55 : decode cX4_flow 55 = .ok (.aload_n 0, 1) := by decide +kernel
theorem dX4_flow_56 : decode cX4_flow 56 = .ok (.getfield 10, 3) := by decide +kernel
theorem dX4_flow_59 : decode cX4_flow 59 = .ok (.iload_n 2, 1) := by decide +kernel
theorem dX4_flow_60 : decode cX4_flow 60 = .ok (.invokevirtual 57, 3) := by decide +kernel
theorem dX4_flow_63 : decode cX4_flow 63 = .ok (.ifCond .ne 19, 3) := by decide +kernel
theorem dX4_flow_66 : decode cX4_flow 66 = .ok (.aload_n 0, 1) := by decide +kernel
theorem dX4_flow_67 : decode cX4_flow 67 = .ok (.getfield 10, 3) := by decide +kernel
theorem dX4_flow_70 : decode cX4_flow 70 = .ok (.iload_n 1, 1) := by decide +kernel
theorem dX4_flow_71 : decode cX4_flow 71 = .ok (.invokevirtual 85, 3) := by decide +kernel
theorem dX4_flow_74 : decode cX4_flow 74 = .ok (.ifCond .ne 8, 3) := by decide +kernel
theorem dX4_flow_77 : decode cX4_flow 77 = .ok (.iload_n 1, 1) := by decide +kernel
theorem dX4_flow_78 : decode cX4_flow 78 = .ok (.iload_n 2, 1) := by decide +kernel
theorem dX4_flow_79 : decode cX4_flow 79 = .ok (.if_icmp .ne 13, 3) := by decide +kernel
theorem dX4_flow_82 : decode cX4_flow 82 = .ok (.new 88, 3) := by decide +kernel
theorem dX4_flow_85 : decode cX4_flow 85 = .ok (.dup, 1) := by decide +kernel
theorem dX4_flow_86 : decode cX4_flow 86 = .ok (.ldc 90, 2) := by decide +kernel
theorem dX4_flow_88 : decode cX4_flow 88 = .ok (.invokespecial 92, 3) := by decide +kernel
theorem dX4_flow_91 : decode cX4_flow 91 = .ok (.athrow, 1) := by decide +kernel
theorem dX4_flow_92 : decode cX4_flow 92 = .ok (.lload_n 3, 1) := by decide +kernel
theorem dX4_flow_93 : decode cX4_flow 93 = .ok (.invokestatic 46, 3) := by decide +kernel
theorem dX4_flow_96 : decode cX4_flow 96 = .ok (.ifCond .eq 11, 3) := by decide +kernel
theorem dX4_flow_99 : decode cX4_flow 99 = .ok (.lload 5, 2) := by decide +kernel
theorem dX4_flow_101 : decode cX4_flow 101 = .ok (.invokestatic 50, 3) := by decide +kernel
theorem dX4_flow_104 : decode cX4_flow 104 = .ok (.ifCond .ne 13, 3) := by decide +kernel
theorem dX4_flow_107 : decode cX4_flow 107 = .ok (.new 88, 3) := by decide +kernel
theorem dX4_flow_110 : decode cX4_flow 110 = .ok (.dup, 1) := by decide +kernel
theorem dX4_flow_111 : decode cX4_flow 111 = .ok (.ldc 93, 2) := by decide +kernel
theorem dX4_flow_113 : decode cX4_flow 113 = .ok (.invokespecial 92, 3) := by decide +kernel
theorem dX4_flow_116 : decode cX4_flow 116 = .ok (.athrow, 1) := by decide +kernel
theorem dX4_flow_117 : decode cX4_flow 117 = .ok (.aload_n 0, 1) := by decide +kernel
theorem dX4_flow_118 : decode cX4_flow 118 = .ok (.getfield 10, 3) := by decide +kernel
theorem dX4_flow_121 : decode cX4_flow 121 = .ok (.getfield 95, 3) := by decide +kernel
theorem dX4_flow_124 : decode cX4_flow 124 = .ok (.iload_n 1, 1) := by decide +kernel
theorem dX4_flow_125 : decode cX4_flow 125 = .ok (.baload, 1) := by decide +kernel
theorem dX4_flow_126 : decode cX4_flow 126 = .ok (.ifCond .eq 13, 3) := by decide +kernel
theorem dX4_flow_129 : decode cX4_flow 129 = .ok (.new 99, 3) := by decide +kernel
theorem dX4_flow_132 : decode cX4_flow 132 = .ok (.dup, 1) := by decide +kernel
theorem dX4_flow_133 : decode cX4_flow 133 = .ok (.ldc 101, 2) := by decide +kernel
theorem dX4_flow_135 : decode cX4_flow 135 = .ok (.invokespecial 103, 3) := by decide +kernel
theorem dX4_flow_138 : decode cX4_flow 138 = .ok (.athrow, 1) := by decide +kernel
theorem dX4_flow_139 : decode cX4_flow 139 = .ok (.aload_n 0, 1) := by decide +kernel
theorem dX4_flow_140 : decode cX4_flow 140 = .ok (.iload_n 1, 1) := by decide +kernel
theorem dX4_flow_141 : decode cX4_flow 141 = .ok (.iload_n 2, 1) := by decide +kernel
theorem dX4_flow_142 : decode cX4_flow 142 = .ok (.lload_n 3, 1) := by decide +kernel
theorem dX4_flow_143 : decode cX4_flow 143 = .ok (.lload 5, 2) := by decide +kernel
theorem dX4_flow_145 : decode cX4_flow 145 = .ok (.invokevirtual 104, 3) := by decide +kernel
theorem dX4_flow_148 : decode cX4_flow 148 = .ok (.ifCond .ne 13, 3) := by decide +kernel
theorem dX4_flow_151 : decode cX4_flow 151 = .ok (.new 99, 3) := by decide +kernel
theorem dX4_flow_154 : decode cX4_flow 154 = .ok (.dup, 1) := by decide +kernel
theorem dX4_flow_155 : decode cX4_flow 155 = .ok (.ldc 108, 2) := by decide +kernel
theorem dX4_flow_157 : decode cX4_flow 157 = .ok (.invokespecial 103, 3) := by decide +kernel
theorem dX4_flow_160 : decode cX4_flow 160 = .ok (.athrow, 1) := by decide +kernel
theorem dX4_flow_161 : decode cX4_flow 161 = .ok (.return_, 1) := by decide +kernel
theorem dX4_left_0 : decode cX4_left 0 = .ok (.aload_n 0, 1) := by decide +kernel
theorem dX4_left_1 : decode cX4_left 1 = .ok (.getfield 10, 3) := by decide +kernel
theorem dX4_left_4 : decode cX4_left 4 = .ok (.iload_n 1, 1) := by decide +kernel
theorem dX4_left_5 : decode cX4_left 5 = .ok (.invokevirtual 69, 3) := by decide +kernel
theorem dX4_left_8 : decode cX4_left 8 = .ok (.ifCond .eq 14, 3) := by decide +kernel
theorem dX4_left_11 : decode cX4_left 11 = .ok (.aload_n 0, 1) := by decide +kernel
theorem dX4_left_12 : decode cX4_left 12 = .ok (.getfield 35, 3) := by decide +kernel
theorem dX4_left_15 : decode cX4_left 15 = .ok (.iload_n 1, 1) := by decide +kernel
theorem dX4_left_16 : decode cX4_left 16 = .ok (.invokevirtual 110, 3) := by decide +kernel
theorem dX4_left_19 : decode cX4_left 19 = .ok (.goto 6, 3) := by decide +kernel
theorem dX4_left_22 : decode cX4_left 22 = .ok (.ldc2_w 114, 3) := by decide +kernel
theorem dX4_left_25 : decode cX4_left 25 = .ok (.lreturn, 1) := by decide +kernel
theorem dX4_share_0 : decode cX4_share 0 = .ok (.aload_n 0, 1) := by decide +kernel
theorem dX4_share_1 : decode cX4_share 1 = .ok (.getfield 10, 3) := by decide +kernel
theorem dX4_share_4 : decode cX4_share 4 = .ok (.iload_n 1, 1) := by decide +kernel
theorem dX4_share_5 : decode cX4_share 5 = .ok (.invokevirtual 69, 3) := by decide +kernel
theorem dX4_share_8 : decode cX4_share 8 = .ok (.ifCond .eq 23, 3) := by decide +kernel
theorem dX4_share_11 : decode cX4_share 11 = .ok (.aload_n 0, 1) := by decide +kernel
theorem dX4_share_12 : decode cX4_share 12 = .ok (.getfield 10, 3) := by decide +kernel
theorem dX4_share_15 : decode cX4_share 15 = .ok (.iload_n 2, 1) := by decide +kernel
theorem dX4_share_16 : decode cX4_share 16 = .ok (.invokevirtual 57, 3) := by decide +kernel
theorem dX4_share_19 : decode cX4_share 19 = .ok (.ifCond .eq 12, 3) := by decide +kernel
theorem dX4_share_22 : decode cX4_share 22 = .ok (.iload_n 3, 1) := by decide +kernel
theorem dX4_share_23 : decode cX4_share 23 = .ok (.ifCond .lt 8, 3) := by decide +kernel
theorem dX4_share_26 : decode cX4_share 26 = .ok (.iload_n 3, 1) := by decide +kernel
theorem dX4_share_27 : decode cX4_share 27 = .ok (.iconst 1, 1) := by decide +kernel
theorem dX4_share_28 : decode cX4_share 28 = .ok (.if_icmp .le 7, 3) := by decide +kernel
theorem dX4_share_31 : decode cX4_share 31 = .ok (.ldc2_w 114, 3) := by decide +kernel
theorem dX4_share_34 : decode cX4_share 34 = .ok (.lreturn, 1) := by decide +kernel
theorem dX4_share_35 : decode cX4_share 35 = .ok (.aload_n 0, 1) := by decide +kernel
theorem dX4_share_36 : decode cX4_share 36 = .ok (.getfield 35, 3) := by decide +kernel
theorem dX4_share_39 : decode cX4_share 39 = .ok (.iload_n 1, 1) := by decide +kernel
theorem dX4_share_40 : decode cX4_share 40 = .ok (.iload_n 2, 1) := by decide +kernel
theorem dX4_share_41 : decode cX4_share 41 = .ok (.invokevirtual 116, 3) := by decide +kernel
theorem dX4_share_44 : decode cX4_share 44 = .ok (.lstore 4, 2) := by decide +kernel
theorem dX4_share_46 : decode cX4_share 46 = .ok (.aload_n 0, 1) := by decide +kernel
theorem dX4_share_47 : decode cX4_share 47 = .ok (.getfield 35, 3) := by decide +kernel
theorem dX4_share_50 : decode cX4_share 50 = .ok (.iload_n 1, 1) := by decide +kernel
theorem dX4_share_51 : decode cX4_share 51 = .ok (.invokevirtual 110, 3) := by decide +kernel
theorem dX4_share_54 : decode cX4_share 54 = .ok (.lstore 6, 2) := by decide +kernel
theorem dX4_share_56 : decode cX4_share 56 = .ok (.lload 6, 2) := by decide +kernel
theorem dX4_share_58 : decode cX4_share 58 = .ok (.lconst 0, 1) := by decide +kernel
theorem dX4_share_59 : decode cX4_share 59 = .ok (.lcmp, 1) := by decide +kernel
theorem dX4_share_60 : decode cX4_share 60 = .ok (.ifCond .gt 6, 3) := by decide +kernel
theorem dX4_share_63 : decode cX4_share 63 = .ok (.iload_n 3, 1) := by decide +kernel
theorem dX4_share_64 : decode cX4_share 64 = .ok (.i2l, 1) := by decide +kernel
theorem dX4_share_65 : decode cX4_share 65 = .ok (.lreturn, 1) := by decide +kernel
theorem dX4_share_66 : decode cX4_share 66 = .ok (.lload 4, 2) := by decide +kernel
theorem dX4_share_68 : decode cX4_share 68 = .ok (.lload 6, 2) := by decide +kernel
theorem dX4_share_70 : decode cX4_share 70 = .ok (.invokestatic 120, 3) := by decide +kernel
theorem dX4_share_73 : decode cX4_share 73 = .ok (.lstore 8, 2) := by decide +kernel
theorem dX4_share_75 : decode cX4_share 75 = .ok (.lload 8, 2) := by decide +kernel
theorem dX4_share_77 : decode cX4_share 77 = .ok (.lconst 0, 1) := by decide +kernel
theorem dX4_share_78 : decode cX4_share 78 = .ok (.lcmp, 1) := by decide +kernel
theorem dX4_share_79 : decode cX4_share 79 = .ok (.ifCond .gt 7, 3) := by decide +kernel
theorem dX4_share_82 : decode cX4_share 82 = .ok (.ldc2_w 114, 3) := by decide +kernel
theorem dX4_share_85 : decode cX4_share 85 = .ok (.lreturn, 1) := by decide +kernel
theorem dX4_share_86 : decode cX4_share 86 = .ok (.iload_n 3, 1) := by decide +kernel
theorem dX4_share_87 : decode cX4_share 87 = .ok (.ifCond .ne 8, 3) := by decide +kernel
theorem dX4_share_90 : decode cX4_share 90 = .ok (.lload 4, 2) := by decide +kernel
theorem dX4_share_92 : decode cX4_share 92 = .ok (.goto 5, 3) := by decide +kernel
theorem dX4_share_95 : decode cX4_share 95 = .ok (.lload 6, 2) := by decide +kernel
theorem dX4_share_97 : decode cX4_share 97 = .ok (.lload 8, 2) := by decide +kernel
theorem dX4_share_99 : decode cX4_share 99 = .ok (.ldiv, 1) := by decide +kernel
theorem dX4_share_100 : decode cX4_share 100 = .ok (.lreturn, 1) := by decide +kernel
theorem dX4_back_0 : decode cX4_back 0 = .ok (.aload_n 0, 1) := by decide +kernel
theorem dX4_back_1 : decode cX4_back 1 = .ok (.getfield 10, 3) := by decide +kernel
theorem dX4_back_4 : decode cX4_back 4 = .ok (.iload_n 1, 1) := by decide +kernel
theorem dX4_back_5 : decode cX4_back 5 = .ok (.invokevirtual 69, 3) := by decide +kernel
theorem dX4_back_8 : decode cX4_back 8 = .ok (.ifCond .eq 7, 3) := by decide +kernel
theorem dX4_back_11 : decode cX4_back 11 = .ok (.iload_n 2, 1) := by decide +kernel
theorem dX4_back_12 : decode cX4_back 12 = .ok (.ifCond .ge 5, 3) := by decide +kernel
theorem dX4_back_15 : decode cX4_back 15 = .ok (.iconst (-1), 1) := by decide +kernel
theorem dX4_back_16 : decode cX4_back 16 = .ok (.ireturn, 1) := by decide +kernel
theorem dX4_back_17 : decode cX4_back 17 = .ok (.iconst 0, 1) := by decide +kernel
theorem dX4_back_18 : decode cX4_back 18 = .ok (.istore_n 3, 1) := by decide +kernel
theorem dX4_back_19 : decode cX4_back 19 = .ok (.iconst 0, 1) := by decide +kernel
theorem dX4_back_20 : decode cX4_back 20 = .ok (.istore 4, 2) := by decide +kernel
theorem dX4_back_22 : decode cX4_back 22 = .ok (.iload 4, 2) := by decide +kernel
theorem dX4_back_24 : decode cX4_back 24 = .ok (.aload_n 0, 1) := by decide +kernel
theorem dX4_back_25 : decode cX4_back 25 = .ok (.getfield 10, 3) := by decide +kernel
theorem dX4_back_28 : decode cX4_back 28 = .ok (.getfield 124, 3) := by decide +kernel
theorem dX4_back_31 : decode cX4_back 31 = .ok (.if_icmp .ge 33, 3) := by decide +kernel
theorem dX4_back_34 : decode cX4_back 34 = .ok (.aload_n 0, 1) := by decide +kernel
theorem dX4_back_35 : decode cX4_back 35 = .ok (.getfield 35, 3) := by decide +kernel
theorem dX4_back_38 : decode cX4_back 38 = .ok (.iload 4, 2) := by decide +kernel
theorem dX4_back_40 : decode cX4_back 40 = .ok (.iload_n 1, 1) := by decide +kernel
theorem dX4_back_41 : decode cX4_back 41 = .ok (.invokevirtual 125, 3) := by decide +kernel
theorem dX4_back_44 : decode cX4_back 44 = .ok (.ifCond .eq 14, 3) := by decide +kernel
theorem dX4_back_47 : decode cX4_back 47 = .ok (.iload_n 3, 1) := by decide +kernel
theorem dX4_back_48 : decode cX4_back 48 = .ok (.iload_n 2, 1) := by decide +kernel
theorem dX4_back_49 : decode cX4_back 49 = .ok (.if_icmp .ne 6, 3) := by decide +kernel
theorem dX4_back_52 : decode cX4_back 52 = .ok (.iload 4, 2) := by decide +kernel
theorem dX4_back_54 : decode cX4_back 54 = .ok (.ireturn, 1) := by decide +kernel
theorem dX4_back_55 : decode cX4_back 55 = .ok (.iinc 3 1, 3) := by decide +kernel
theorem dX4_back_58 : decode cX4_back 58 = .ok (.iinc 4 1, 3) := by decide +kernel
theorem dX4_back_61 : decode cX4_back 61 = .ok (.goto (-39), 3) := by decide +kernel
theorem dX4_back_64 : decode cX4_back 64 = .ok (.iconst (-1), 1) := by decide +kernel
theorem dX4_back_65 : decode cX4_back 65 = .ok (.ireturn, 1) := by decide +kernel
theorem dX4_forward_0 : decode cX4_forward 0 = .ok (.aload_n 0, 1) := by decide +kernel
theorem dX4_forward_1 : decode cX4_forward 1 = .ok (.getfield 10, 3) := by decide +kernel
theorem dX4_forward_4 : decode cX4_forward 4 = .ok (.iload_n 1, 1) := by decide +kernel
theorem dX4_forward_5 : decode cX4_forward 5 = .ok (.invokevirtual 57, 3) := by decide +kernel
theorem dX4_forward_8 : decode cX4_forward 8 = .ok (.ifCond .eq 7, 3) := by decide +kernel
theorem dX4_forward_11 : decode cX4_forward 11 = .ok (.iload_n 2, 1) := by decide +kernel
theorem dX4_forward_12 : decode cX4_forward 12 = .ok (.ifCond .ge 5, 3) := by decide +kernel
theorem dX4_forward_15 : decode cX4_forward 15 = .ok (.iconst (-1), 1) := by decide +kernel
theorem dX4_forward_16 : decode cX4_forward 16 = .ok (.ireturn, 1) := by decide +kernel
theorem dX4_forward_17 : decode cX4_forward 17 = .ok (.iconst 0, 1) := by decide +kernel
theorem dX4_forward_18 : decode cX4_forward 18 = .ok (.istore_n 3, 1) := by decide +kernel
theorem dX4_forward_19 : decode cX4_forward 19 = .ok (.iconst 0, 1) := by decide +kernel
theorem dX4_forward_20 : decode cX4_forward 20 = .ok (.istore 4, 2) := by decide +kernel
theorem dX4_forward_22 : decode cX4_forward 22 = .ok (.iload 4, 2) := by decide +kernel
theorem dX4_forward_24 : decode cX4_forward 24 = .ok (.aload_n 0, 1) := by decide +kernel
theorem dX4_forward_25 : decode cX4_forward 25 = .ok (.getfield 10, 3) := by decide +kernel
theorem dX4_forward_28 : decode cX4_forward 28 = .ok (.getfield 124, 3) := by decide +kernel
theorem dX4_forward_31 : decode cX4_forward 31 = .ok (.if_icmp .ge 45, 3) := by decide +kernel
theorem dX4_forward_34 : decode cX4_forward 34 = .ok (.aload_n 0, 1) := by decide +kernel
theorem dX4_forward_35 : decode cX4_forward 35 = .ok (.getfield 10, 3) := by decide +kernel
theorem dX4_forward_38 : decode cX4_forward 38 = .ok (.iload 4, 2) := by decide +kernel
theorem dX4_forward_40 : decode cX4_forward 40 = .ok (.invokevirtual 129, 3) := by decide +kernel
theorem dX4_forward_43 : decode cX4_forward 43 = .ok (.ifCond .eq 27, 3) := by decide +kernel
theorem dX4_forward_46 : decode cX4_forward 46 = .ok (.aload_n 0, 1) := by decide +kernel
theorem dX4_forward_47 : decode cX4_forward 47 = .ok (.getfield 35, 3) := by decide +kernel
theorem dX4_forward_50 : decode cX4_forward 50 = .ok (.iload_n 1, 1) := by decide +kernel
theorem dX4_forward_51 : decode cX4_forward 51 = .ok (.iload 4, 2) := by decide +kernel
theorem dX4_forward_53 : decode cX4_forward 53 = .ok (.invokevirtual 125, 3) := by decide +kernel
theorem dX4_forward_56 : decode cX4_forward 56 = .ok (.ifCond .eq 14, 3) := by decide +kernel
theorem dX4_forward_59 : decode cX4_forward 59 = .ok (.iload_n 3, 1) := by decide +kernel
theorem dX4_forward_60 : decode cX4_forward 60 = .ok (.iload_n 2, 1) := by decide +kernel
theorem dX4_forward_61 : decode cX4_forward 61 = .ok (.if_icmp .ne 6, 3) := by decide +kernel
theorem dX4_forward_64 : decode cX4_forward 64 = .ok (.iload 4, 2) := by decide +kernel
theorem dX4_forward_66 : decode cX4_forward 66 = .ok (.ireturn, 1) := by decide +kernel
theorem dX4_forward_67 : decode cX4_forward 67 = .ok (.iinc 3 1, 3) := by decide +kernel
theorem dX4_forward_70 : decode cX4_forward 70 = .ok (.iinc 4 1, 3) := by decide +kernel
theorem dX4_forward_73 : decode cX4_forward 73 = .ok (.goto (-51), 3) := by decide +kernel
theorem dX4_forward_76 : decode cX4_forward 76 = .ok (.iconst (-1), 1) := by decide +kernel
theorem dX4_forward_77 : decode cX4_forward 77 = .ok (.ireturn, 1) := by decide +kernel
theorem dX4_place_0 : decode cX4_place 0 = .ok (.aload_n 0, 1) := by decide +kernel
theorem dX4_place_1 : decode cX4_place 1 = .ok (.getfield 10, 3) := by decide +kernel
theorem dX4_place_4 : decode cX4_place 4 = .ok (.iload_n 1, 1) := by decide +kernel
theorem dX4_place_5 : decode cX4_place 5 = .ok (.invokevirtual 129, 3) := by decide +kernel
theorem dX4_place_8 : decode cX4_place 8 = .ok (.ifCond .eq 25, 3) := by decide +kernel
theorem dX4_place_11 : decode cX4_place 11 = .ok (.iload_n 2, 1) := by decide +kernel
theorem dX4_place_12 : decode cX4_place 12 = .ok (.ifCond .lt 21, 3) := by decide +kernel
theorem dX4_place_15 : decode cX4_place 15 = .ok (.iload_n 2, 1) := by decide +kernel
theorem dX4_place_16 : decode cX4_place 16 = .ok (.sipush 1000, 3) := by decide +kernel
theorem dX4_place_19 : decode cX4_place 19 = .ok (.if_icmp .ge 14, 3) := by decide +kernel
theorem dX4_place_22 : decode cX4_place 22 = .ok (.iload_n 3, 1) := by decide +kernel
theorem dX4_place_23 : decode cX4_place 23 = .ok (.ifCond .lt 10, 3) := by decide +kernel
theorem dX4_place_26 : decode cX4_place 26 = .ok (.iload_n 3, 1) := by decide +kernel
theorem dX4_place_27 : decode cX4_place 27 = .ok (.sipush 1000, 3) := by decide +kernel
theorem dX4_place_30 : decode cX4_place 30 = .ok (.if_icmp .lt 5, 3) := by decide +kernel
theorem dX4_place_33 : decode cX4_place 33 = .ok (.iconst 0, 1) := by decide +kernel
theorem dX4_place_34 : decode cX4_place 34 = .ok (.ireturn, 1) := by decide +kernel
theorem dX4_place_35 : decode cX4_place 35 = .ok (.aload_n 0, 1) := by decide +kernel
theorem dX4_place_36 : decode cX4_place 36 = .ok (.getfield 10, 3) := by decide +kernel
theorem dX4_place_39 : decode cX4_place 39 = .ok (.getfield 132, 3) := by decide +kernel
theorem dX4_place_42 : decode cX4_place 42 = .ok (.iload_n 1, 1) := by decide +kernel
theorem dX4_place_43 : decode cX4_place 43 = .ok (.iload_n 3, 1) := by decide +kernel
theorem dX4_place_44 : decode cX4_place 44 = .ok (.sipush 1000, 3) := by decide +kernel
theorem dX4_place_47 : decode cX4_place 47 = .ok (.imul, 1) := by decide +kernel
theorem dX4_place_48 : decode cX4_place 48 = .ok (.iload_n 2, 1) := by decide +kernel
theorem dX4_place_49 : decode cX4_place 49 = .ok (.iadd, 1) := by decide +kernel
theorem dX4_place_50 : decode cX4_place 50 = .ok (.iastore, 1) := by decide +kernel
theorem dX4_place_51 : decode cX4_place 51 = .ok (.iconst 1, 1) := by decide +kernel
theorem dX4_place_52 : decode cX4_place 52 = .ok (.ireturn, 1) := by decide +kernel
theorem dX4_recall_0 : decode cX4_recall 0 = .ok (.aload_n 0, 1) := by decide +kernel
theorem dX4_recall_1 : decode cX4_recall 1 = .ok (.getfield 10, 3) := by decide +kernel
theorem dX4_recall_4 : decode cX4_recall 4 = .ok (.iload_n 1, 1) := by decide +kernel
theorem dX4_recall_5 : decode cX4_recall 5 = .ok (.invokevirtual 57, 3) := by decide +kernel
theorem dX4_recall_8 : decode cX4_recall 8 = .ok (.ifCond .ne 5, 3) := by decide +kernel
theorem dX4_recall_11 : decode cX4_recall 11 = .ok (.iconst (-1), 1) := by decide +kernel
theorem dX4_recall_12 : decode cX4_recall 12 = .ok (.ireturn, 1) := by decide +kernel
theorem dX4_recall_13 : decode cX4_recall 13 = .ok (.aload_n 0, 1) := by decide +kernel
theorem dX4_recall_14 : decode cX4_recall 14 = .ok (.getfield 26, 3) := by decide +kernel
theorem dX4_recall_17 : decode cX4_recall 17 = .ok (.iconst 0, 1) := by decide +kernel
theorem dX4_recall_18 : decode cX4_recall 18 = .ok (.putfield 136, 3) := by decide +kernel
theorem dX4_recall_21 : decode cX4_recall 21 = .ok (.iconst 0, 1) := by decide +kernel
theorem dX4_recall_22 : decode cX4_recall 22 = .ok (.istore_n 2, 1) := by decide +kernel
theorem dX4_recall_23 : decode cX4_recall 23 = .ok (.iload_n 2, 1) := by decide +kernel
theorem dX4_recall_24 : decode cX4_recall 24 = .ok (.aload_n 0, 1) := by decide +kernel
theorem dX4_recall_25 : decode cX4_recall 25 = .ok (.getfield 10, 3) := by decide +kernel
theorem dX4_recall_28 : decode cX4_recall 28 = .ok (.getfield 124, 3) := by decide +kernel
theorem dX4_recall_31 : decode cX4_recall 31 = .ok (.if_icmp .ge 70, 3) := by decide +kernel
theorem dX4_recall_34 : decode cX4_recall 34 = .ok (.aload_n 0, 1) := by decide +kernel
theorem dX4_recall_35 : decode cX4_recall 35 = .ok (.getfield 10, 3) := by decide +kernel
theorem dX4_recall_38 : decode cX4_recall 38 = .ok (.iload_n 2, 1) := by decide +kernel
theorem dX4_recall_39 : decode cX4_recall 39 = .ok (.invokevirtual 129, 3) := by decide +kernel
theorem dX4_recall_42 : decode cX4_recall 42 = .ok (.ifCond .eq 53, 3) := by decide +kernel
theorem dX4_recall_45 : decode cX4_recall 45 = .ok (.aload_n 0, 1) := by decide +kernel
theorem dX4_recall_46 : decode cX4_recall 46 = .ok (.getfield 10, 3) := by decide +kernel
theorem dX4_recall_49 : decode cX4_recall 49 = .ok (.getfield 132, 3) := by decide +kernel
theorem dX4_recall_52 : decode cX4_recall 52 = .ok (.iload_n 2, 1) := by decide +kernel
theorem dX4_recall_53 : decode cX4_recall 53 = .ok (.iaload, 1) := by decide +kernel
theorem dX4_recall_54 : decode cX4_recall 54 = .ok (.iconst (-1), 1) := by decide +kernel
theorem dX4_recall_55 : decode cX4_recall 55 = .ok (.if_icmp .eq 40, 3) := by decide +kernel
theorem dX4_recall_58 : decode cX4_recall 58 = .ok (.aload_n 0, 1) := by decide +kernel
theorem dX4_recall_59 : decode cX4_recall 59 = .ok (.getfield 35, 3) := by decide +kernel
theorem dX4_recall_62 : decode cX4_recall 62 = .ok (.iload_n 1, 1) := by decide +kernel
theorem dX4_recall_63 : decode cX4_recall 63 = .ok (.iload_n 2, 1) := by decide +kernel
theorem dX4_recall_64 : decode cX4_recall 64 = .ok (.invokevirtual 125, 3) := by decide +kernel
theorem dX4_recall_67 : decode cX4_recall 67 = .ok (.ifCond .eq 28, 3) := by decide +kernel
theorem dX4_recall_70 : decode cX4_recall 70 = .ok (.aload_n 0, 1) := by decide +kernel
theorem dX4_recall_71 : decode cX4_recall 71 = .ok (.getfield 26, 3) := by decide +kernel
theorem dX4_recall_74 : decode cX4_recall 74 = .ok (.aload_n 0, 1) := by decide +kernel
theorem dX4_recall_75 : decode cX4_recall 75 = .ok (.getfield 10, 3) := by decide +kernel
theorem dX4_recall_78 : decode cX4_recall 78 = .ok (.getfield 132, 3) := by decide +kernel
theorem dX4_recall_81 : decode cX4_recall 81 = .ok (.iload_n 2, 1) := by decide +kernel
theorem dX4_recall_82 : decode cX4_recall 82 = .ok (.iaload, 1) := by decide +kernel
theorem dX4_recall_83 : decode cX4_recall 83 = .ok (.aload_n 0, 1) := by decide +kernel
theorem dX4_recall_84 : decode cX4_recall 84 = .ok (.getfield 35, 3) := by decide +kernel
theorem dX4_recall_87 : decode cX4_recall 87 = .ok (.iload_n 2, 1) := by decide +kernel
theorem dX4_recall_88 : decode cX4_recall 88 = .ok (.iload_n 1, 1) := by decide +kernel
theorem dX4_recall_89 : decode cX4_recall 89 = .ok (.invokevirtual 116, 3) := by decide +kernel
theorem dX4_recall_92 : decode cX4_recall 92 = .ok (.invokevirtual 137, 3) := by decide +kernel
theorem dX4_recall_95 : decode cX4_recall 95 = .ok (.iinc 2 1, 3) := by decide +kernel
theorem dX4_recall_98 : decode cX4_recall 98 = .ok (.goto (-75), 3) := by decide +kernel
theorem dX4_recall_101 : decode cX4_recall 101 = .ok (.aload_n 0, 1) := by decide +kernel
theorem dX4_recall_102 : decode cX4_recall 102 = .ok (.getfield 26, 3) := by decide +kernel
theorem dX4_recall_105 : decode cX4_recall 105 = .ok (.getfield 136, 3) := by decide +kernel
theorem dX4_recall_108 : decode cX4_recall 108 = .ok (.ireturn, 1) := by decide +kernel
theorem dX4_recalled_0 : decode cX4_recalled 0 = .ok (.iload_n 1, 1) := by decide +kernel
theorem dX4_recalled_1 : decode cX4_recalled 1 = .ok (.ifCond .lt 14, 3) := by decide +kernel
theorem dX4_recalled_4 : decode cX4_recalled 4 = .ok (.iload_n 1, 1) := by decide +kernel
theorem dX4_recalled_5 : decode cX4_recalled 5 = .ok (.aload_n 0, 1) := by decide +kernel
theorem dX4_recalled_6 : decode cX4_recalled 6 = .ok (.getfield 26, 3) := by decide +kernel
theorem dX4_recalled_9 : decode cX4_recalled 9 = .ok (.getfield 136, 3) := by decide +kernel
theorem dX4_recalled_12 : decode cX4_recalled 12 = .ok (.if_icmp .lt 5, 3) := by decide +kernel
theorem dX4_recalled_15 : decode cX4_recalled 15 = .ok (.iconst (-1), 1) := by decide +kernel
theorem dX4_recalled_16 : decode cX4_recalled 16 = .ok (.ireturn, 1) := by decide +kernel
theorem dX4_recalled_17 : decode cX4_recalled 17 = .ok (.iload_n 2, 1) := by decide +kernel
theorem dX4_recalled_18 : decode cX4_recalled 18 = .ok (.tableswitch 85 0 3 #[30, 44, 58, 75], 30) := by decide +kernel
theorem dX4_recalled_48 : decode cX4_recalled 48 = .ok (.aload_n 0, 1) := by decide +kernel
theorem dX4_recalled_49 : decode cX4_recalled 49 = .ok (.getfield 26, 3) := by decide +kernel
theorem dX4_recalled_52 : decode cX4_recalled 52 = .ok (.getfield 141, 3) := by decide +kernel
theorem dX4_recalled_55 : decode cX4_recalled 55 = .ok (.iload_n 1, 1) := by decide +kernel
theorem dX4_recalled_56 : decode cX4_recalled 56 = .ok (.iaload, 1) := by decide +kernel
theorem dX4_recalled_57 : decode cX4_recalled 57 = .ok (.sipush 1000, 3) := by decide +kernel
theorem dX4_recalled_60 : decode cX4_recalled 60 = .ok (.irem, 1) := by decide +kernel
theorem dX4_recalled_61 : decode cX4_recalled 61 = .ok (.ireturn, 1) := by decide +kernel
theorem dX4_recalled_62 : decode cX4_recalled 62 = .ok (.aload_n 0, 1) := by decide +kernel
theorem dX4_recalled_63 : decode cX4_recalled 63 = .ok (.getfield 26, 3) := by decide +kernel
theorem dX4_recalled_66 : decode cX4_recalled 66 = .ok (.getfield 141, 3) := by decide +kernel
theorem dX4_recalled_69 : decode cX4_recalled 69 = .ok (.iload_n 1, 1) := by decide +kernel
theorem dX4_recalled_70 : decode cX4_recalled 70 = .ok (.iaload, 1) := by decide +kernel
theorem dX4_recalled_71 : decode cX4_recalled 71 = .ok (.sipush 1000, 3) := by decide +kernel
theorem dX4_recalled_74 : decode cX4_recalled 74 = .ok (.idiv, 1) := by decide +kernel
theorem dX4_recalled_75 : decode cX4_recalled 75 = .ok (.ireturn, 1) := by decide +kernel
theorem dX4_recalled_76 : decode cX4_recalled 76 = .ok (.aload_n 0, 1) := by decide +kernel
theorem dX4_recalled_77 : decode cX4_recalled 77 = .ok (.getfield 26, 3) := by decide +kernel
theorem dX4_recalled_80 : decode cX4_recalled 80 = .ok (.getfield 142, 3) := by decide +kernel
theorem dX4_recalled_83 : decode cX4_recalled 83 = .ok (.iload_n 1, 1) := by decide +kernel
theorem dX4_recalled_84 : decode cX4_recalled 84 = .ok (.laload, 1) := by decide +kernel
theorem dX4_recalled_85 : decode cX4_recalled 85 = .ok (.ldc2_w 146, 3) := by decide +kernel
theorem dX4_recalled_88 : decode cX4_recalled 88 = .ok (.invokestatic 148, 3) := by decide +kernel
theorem dX4_recalled_91 : decode cX4_recalled 91 = .ok (.l2i, 1) := by decide +kernel
theorem dX4_recalled_92 : decode cX4_recalled 92 = .ok (.ireturn, 1) := by decide +kernel
theorem dX4_recalled_93 : decode cX4_recalled 93 = .ok (.aload_n 0, 1) := by decide +kernel
theorem dX4_recalled_94 : decode cX4_recalled 94 = .ok (.getfield 26, 3) := by decide +kernel
theorem dX4_recalled_97 : decode cX4_recalled 97 = .ok (.getfield 153, 3) := by decide +kernel
theorem dX4_recalled_100 : decode cX4_recalled 100 = .ok (.iload_n 1, 1) := by decide +kernel
theorem dX4_recalled_101 : decode cX4_recalled 101 = .ok (.iaload, 1) := by decide +kernel
theorem dX4_recalled_102 : decode cX4_recalled 102 = .ok (.ireturn, 1) := by decide +kernel
theorem dX4_recalled_103 : decode cX4_recalled 103 = .ok (.iconst (-1), 1) := by decide +kernel
theorem dX4_recalled_104 : decode cX4_recalled 104 = .ok (.ireturn, 1) := by decide +kernel
theorem dX4_hold_0 : decode cX4_hold 0 = .ok (.aload_n 0, 1) := by decide +kernel
theorem dX4_hold_1 : decode cX4_hold 1 = .ok (.getfield 10, 3) := by decide +kernel
theorem dX4_hold_4 : decode cX4_hold 4 = .ok (.iload_n 1, 1) := by decide +kernel
theorem dX4_hold_5 : decode cX4_hold 5 = .ok (.invokevirtual 69, 3) := by decide +kernel
theorem dX4_hold_8 : decode cX4_hold 8 = .ok (.ifCond .eq 16, 3) := by decide +kernel
theorem dX4_hold_11 : decode cX4_hold 11 = .ok (.aload_n 0, 1) := by decide +kernel
theorem dX4_hold_12 : decode cX4_hold 12 = .ok (.getfield 10, 3) := by decide +kernel
theorem dX4_hold_15 : decode cX4_hold 15 = .ok (.getfield 95, 3) := by decide +kernel
theorem dX4_hold_18 : decode cX4_hold 18 = .ok (.iload_n 1, 1) := by decide +kernel
theorem dX4_hold_19 : decode cX4_hold 19 = .ok (.baload, 1) := by decide +kernel
theorem dX4_hold_20 : decode cX4_hold 20 = .ok (.iload_n 2, 1) := by decide +kernel
theorem dX4_hold_21 : decode cX4_hold 21 = .ok (.if_icmp .ne 5, 3) := by decide +kernel
theorem dX4_hold_24 : decode cX4_hold 24 = .ok (.iconst 0, 1) := by decide +kernel
theorem dX4_hold_25 : decode cX4_hold 25 = .ok (.ireturn, 1) := by decide +kernel
theorem dX4_hold_26 : decode cX4_hold 26 = .ok (.aload_n 0, 1) := by decide +kernel
theorem dX4_hold_27 : decode cX4_hold 27 = .ok (.getfield 10, 3) := by decide +kernel
theorem dX4_hold_30 : decode cX4_hold 30 = .ok (.getfield 95, 3) := by decide +kernel
theorem dX4_hold_33 : decode cX4_hold 33 = .ok (.iload_n 1, 1) := by decide +kernel
theorem dX4_hold_34 : decode cX4_hold 34 = .ok (.iload_n 2, 1) := by decide +kernel
theorem dX4_hold_35 : decode cX4_hold 35 = .ok (.bastore, 1) := by decide +kernel
theorem dX4_hold_36 : decode cX4_hold 36 = .ok (.iconst 1, 1) := by decide +kernel
theorem dX4_hold_37 : decode cX4_hold 37 = .ok (.ireturn, 1) := by decide +kernel
theorem dX4_correct_0 : decode cX4_correct 0 = .ok (.iload_n 1, 1) := by decide +kernel
theorem dX4_correct_1 : decode cX4_correct 1 = .ok (.ifCond .lt 28, 3) := by decide +kernel
theorem dX4_correct_4 : decode cX4_correct 4 = .ok (.iload_n 1, 1) := by decide +kernel
theorem dX4_correct_5 : decode cX4_correct 5 = .ok (.aload_n 0, 1) := by decide +kernel
theorem dX4_correct_6 : decode cX4_correct 6 = .ok (.getfield 19, 3) := by decide +kernel
theorem dX4_correct_9 : decode cX4_correct 9 = .ok (.getfield 79, 3) := by decide +kernel
theorem dX4_correct_12 : decode cX4_correct 12 = .ok (.if_icmp .ge 17, 3) := by decide +kernel
theorem dX4_correct_15 : decode cX4_correct 15 = .ok (.lload_n 2, 1) := by decide +kernel
theorem dX4_correct_16 : decode cX4_correct 16 = .ok (.lconst 0, 1) := by decide +kernel
theorem dX4_correct_17 : decode cX4_correct 17 = .ok (.lcmp, 1) := by decide +kernel
theorem dX4_correct_18 : decode cX4_correct 18 = .ok (.ifCond .lt 11, 3) := by decide +kernel
theorem dX4_correct_21 : decode cX4_correct 21 = .ok (.lload_n 2, 1) := by decide +kernel
theorem dX4_correct_22 : decode cX4_correct 22 = .ok (.ldc2_w 156, 3) := by decide +kernel
theorem dX4_correct_25 : decode cX4_correct 25 = .ok (.lcmp, 1) := by decide +kernel
theorem dX4_correct_26 : decode cX4_correct 26 = .ok (.ifCond .le 5, 3) := by decide +kernel
theorem dX4_correct_29 : decode cX4_correct 29 = .ok (.iconst (-1), 1) := by decide +kernel
theorem dX4_correct_30 : decode cX4_correct 30 = .ok (.ireturn, 1) := by decide +kernel
theorem dX4_correct_31 : decode cX4_correct 31 = .ok (.lload 4, 2) := by decide +kernel
theorem dX4_correct_33 : decode cX4_correct 33 = .ok (.invokestatic 50, 3) := by decide +kernel
theorem dX4_correct_36 : decode cX4_correct 36 = .ok (.ifCond .eq 13, 3) := by decide +kernel
theorem dX4_correct_39 : decode cX4_correct 39 = .ok (.lload 4, 2) := by decide +kernel
theorem dX4_correct_41 : decode cX4_correct 41 = .ok (.aload_n 0, 1) := by decide +kernel
theorem dX4_correct_42 : decode cX4_correct 42 = .ok (.getfield 42, 3) := by decide +kernel
theorem dX4_correct_45 : decode cX4_correct 45 = .ok (.lcmp, 1) := by decide +kernel
theorem dX4_correct_46 : decode cX4_correct 46 = .ok (.ifCond .ge 5, 3) := by decide +kernel
theorem dX4_correct_49 : decode cX4_correct 49 = .ok (.iconst (-1), 1) := by decide +kernel
theorem dX4_correct_50 : decode cX4_correct 50 = .ok (.ireturn, 1) := by decide +kernel
theorem dX4_correct_51 : decode cX4_correct 51 = .ok (.aload_n 0, 1) := by decide +kernel
theorem dX4_correct_52 : decode cX4_correct 52 = .ok (.getfield 19, 3) := by decide +kernel
theorem dX4_correct_55 : decode cX4_correct 55 = .ok (.getfield 158, 3) := by decide +kernel
theorem dX4_correct_58 : decode cX4_correct 58 = .ok (.iload_n 1, 1) := by decide +kernel
theorem dX4_correct_59 : decode cX4_correct 59 = .ok (.laload, 1) := by decide +kernel
theorem dX4_correct_60 : decode cX4_correct 60 = .ok (.lstore 6, 2) := by decide +kernel
theorem dX4_correct_62 : decode cX4_correct 62 = .ok (.lload_n 2, 1) := by decide +kernel
theorem dX4_correct_63 : decode cX4_correct 63 = .ok (.lload 6, 2) := by decide +kernel
theorem dX4_correct_65 : decode cX4_correct 65 = .ok (.lcmp, 1) := by decide +kernel
theorem dX4_correct_66 : decode cX4_correct 66 = .ok (.ifCond .le 25, 3) := by decide +kernel
theorem dX4_correct_69 : decode cX4_correct 69 = .ok (.aload_n 0, 1) := by decide +kernel
theorem dX4_correct_70 : decode cX4_correct 70 = .ok (.getfield 10, 3) := by decide +kernel
theorem dX4_correct_73 : decode cX4_correct 73 = .ok (.getfield 95, 3) := by decide +kernel
theorem dX4_correct_76 : decode cX4_correct 76 = .ok (.aload_n 0, 1) := by decide +kernel
theorem dX4_correct_77 : decode cX4_correct 77 = .ok (.getfield 19, 3) := by decide +kernel
theorem dX4_correct_80 : decode cX4_correct 80 = .ok (.getfield 161, 3) := by decide +kernel
theorem dX4_correct_83 : decode cX4_correct 83 = .ok (.iload_n 1, 1) := by decide +kernel
theorem dX4_correct_84 : decode cX4_correct 84 = .ok (.iaload, 1) := by decide +kernel
theorem dX4_correct_85 : decode cX4_correct 85 = .ok (.baload, 1) := by decide +kernel
theorem dX4_correct_86 : decode cX4_correct 86 = .ok (.ifCond .eq 5, 3) := by decide +kernel
theorem dX4_correct_89 : decode cX4_correct 89 = .ok (.iconst (-1), 1) := by decide +kernel
theorem dX4_correct_90 : decode cX4_correct 90 = .ok (.ireturn, 1) := by decide +kernel
theorem dX4_correct_91 : decode cX4_correct 91 = .ok (.aload_n 0, 1) := by decide +kernel
theorem dX4_correct_92 : decode cX4_correct 92 = .ok (.getfield 19, 3) := by decide +kernel
theorem dX4_correct_95 : decode cX4_correct 95 = .ok (.getfield 158, 3) := by decide +kernel
theorem dX4_correct_98 : decode cX4_correct 98 = .ok (.iload_n 1, 1) := by decide +kernel
theorem dX4_correct_99 : decode cX4_correct 99 = .ok (.lload_n 2, 1) := by decide +kernel
theorem dX4_correct_100 : decode cX4_correct 100 = .ok (.lastore, 1) := by decide +kernel
theorem dX4_correct_101 : decode cX4_correct 101 = .ok (.aload_n 0, 1) := by decide +kernel
theorem dX4_correct_102 : decode cX4_correct 102 = .ok (.getfield 39, 3) := by decide +kernel
theorem dX4_correct_105 : decode cX4_correct 105 = .ok (.aload_n 0, 1) := by decide +kernel
theorem dX4_correct_106 : decode cX4_correct 106 = .ok (.getfield 19, 3) := by decide +kernel
theorem dX4_correct_109 : decode cX4_correct 109 = .ok (.invokevirtual 164, 3) := by decide +kernel
theorem dX4_correct_112 : decode cX4_correct 112 = .ok (.ifCond .ne 16, 3) := by decide +kernel
theorem dX4_correct_115 : decode cX4_correct 115 = .ok (.aload_n 0, 1) := by decide +kernel
theorem dX4_correct_116 : decode cX4_correct 116 = .ok (.getfield 19, 3) := by decide +kernel
theorem dX4_correct_119 : decode cX4_correct 119 = .ok (.getfield 158, 3) := by decide +kernel
theorem dX4_correct_122 : decode cX4_correct 122 = .ok (.iload_n 1, 1) := by decide +kernel
theorem dX4_correct_123 : decode cX4_correct 123 = .ok (.lload 6, 2) := by decide +kernel
theorem dX4_correct_125 : decode cX4_correct 125 = .ok (.lastore, 1) := by decide +kernel
theorem dX4_correct_126 : decode cX4_correct 126 = .ok (.iconst (-1), 1) := by decide +kernel
theorem dX4_correct_127 : decode cX4_correct 127 = .ok (.ireturn, 1) := by decide +kernel
theorem dX4_correct_128 : decode cX4_correct 128 = .ok (.aload_n 0, 1) := by decide +kernel
theorem dX4_correct_129 : decode cX4_correct 129 = .ok (.lload 4, 2) := by decide +kernel
theorem dX4_correct_131 : decode cX4_correct 131 = .ok (.putfield 42, 3) := by decide +kernel
theorem dX4_correct_134 : decode cX4_correct 134 = .ok (.aload_n 0, 1) := by decide +kernel
theorem dX4_correct_135 : decode cX4_correct 135 = .ok (.invokevirtual 168, 3) := by decide +kernel
theorem dX4_correct_138 : decode cX4_correct 138 = .ok (.aload_n 0, 1) := by decide +kernel
theorem dX4_correct_139 : decode cX4_correct 139 = .ok (.getfield 35, 3) := by decide +kernel
theorem dX4_correct_142 : decode cX4_correct 142 = .ok (.aload_n 0, 1) := by decide +kernel
theorem dX4_correct_143 : decode cX4_correct 143 = .ok (.getfield 39, 3) := by decide +kernel
theorem dX4_correct_146 : decode cX4_correct 146 = .ok (.invokevirtual 171, 3) := by decide +kernel
theorem dX4_correct_149 : decode cX4_correct 149 = .ok (.ireturn, 1) := by decide +kernel
theorem dX4_top_0 : decode cX4_top 0 = .ok (.aload_n 0, 1) := by decide +kernel
theorem dX4_top_1 : decode cX4_top 1 = .ok (.getfield 10, 3) := by decide +kernel
theorem dX4_top_4 : decode cX4_top 4 = .ok (.iload_n 1, 1) := by decide +kernel
theorem dX4_top_5 : decode cX4_top 5 = .ok (.invokevirtual 129, 3) := by decide +kernel
theorem dX4_top_8 : decode cX4_top 8 = .ok (.ifCond .eq 21, 3) := by decide +kernel
theorem dX4_top_11 : decode cX4_top 11 = .ok (.aload_n 0, 1) := by decide +kernel
theorem dX4_top_12 : decode cX4_top 12 = .ok (.getfield 10, 3) := by decide +kernel
theorem dX4_top_15 : decode cX4_top 15 = .ok (.iload_n 1, 1) := by decide +kernel
theorem dX4_top_16 : decode cX4_top 16 = .ok (.invokevirtual 85, 3) := by decide +kernel
theorem dX4_top_19 : decode cX4_top 19 = .ok (.ifCond .ne 10, 3) := by decide +kernel
theorem dX4_top_22 : decode cX4_top 22 = .ok (.lload_n 3, 1) := by decide +kernel
theorem dX4_top_23 : decode cX4_top 23 = .ok (.invokestatic 46, 3) := by decide +kernel
theorem dX4_top_26 : decode cX4_top 26 = .ok (.ifCond .ne 5, 3) := by decide +kernel
theorem dX4_top_29 : decode cX4_top 29 = .ok (.iconst (-1), 1) := by decide +kernel
theorem dX4_top_30 : decode cX4_top 30 = .ok (.ireturn, 1) := by decide +kernel
theorem dX4_top_31 : decode cX4_top 31 = .ok (.iload_n 2, 1) := by decide +kernel
theorem dX4_top_32 : decode cX4_top 32 = .ok (.iconst (-1), 1) := by decide +kernel
theorem dX4_top_33 : decode cX4_top 33 = .ok (.if_icmp .eq 16, 3) := by decide +kernel
theorem dX4_top_36 : decode cX4_top 36 = .ok (.aload_n 0, 1) := by decide +kernel
theorem dX4_top_37 : decode cX4_top 37 = .ok (.getfield 10, 3) := by decide +kernel
theorem dX4_top_40 : decode cX4_top 40 = .ok (.iload_n 2, 1) := by decide +kernel
theorem dX4_top_41 : decode cX4_top 41 = .ok (.invokevirtual 57, 3) := by decide +kernel
theorem dX4_top_44 : decode cX4_top 44 = .ok (.ifCond .ne 5, 3) := by decide +kernel
theorem dX4_top_47 : decode cX4_top 47 = .ok (.iconst (-1), 1) := by decide +kernel
theorem dX4_top_48 : decode cX4_top 48 = .ok (.ireturn, 1) := by decide +kernel
theorem dX4_top_49 : decode cX4_top 49 = .ok (.aload_n 0, 1) := by decide +kernel
theorem dX4_top_50 : decode cX4_top 50 = .ok (.getfield 19, 3) := by decide +kernel
theorem dX4_top_53 : decode cX4_top 53 = .ok (.invokevirtual 175, 3) := by decide +kernel
theorem dX4_top_56 : decode cX4_top 56 = .ok (.lstore 5, 2) := by decide +kernel
theorem dX4_top_58 : decode cX4_top 58 = .ok (.aload_n 0, 1) := by decide +kernel
theorem dX4_top_59 : decode cX4_top 59 = .ok (.iload_n 2, 1) := by decide +kernel
theorem dX4_top_60 : decode cX4_top 60 = .ok (.lload_n 3, 1) := by decide +kernel
theorem dX4_top_61 : decode cX4_top 61 = .ok (.lload 5, 2) := by decide +kernel
theorem dX4_top_63 : decode cX4_top 63 = .ok (.invokevirtual 179, 3) := by decide +kernel
theorem dX4_top_66 : decode cX4_top 66 = .ok (.istore 7, 2) := by decide +kernel
theorem dX4_top_68 : decode cX4_top 68 = .ok (.iload 7, 2) := by decide +kernel
theorem dX4_top_70 : decode cX4_top 70 = .ok (.iconst (-1), 1) := by decide +kernel
theorem dX4_top_71 : decode cX4_top 71 = .ok (.if_icmp .eq 19, 3) := by decide +kernel
theorem dX4_top_74 : decode cX4_top 74 = .ok (.aload_n 0, 1) := by decide +kernel
theorem dX4_top_75 : decode cX4_top 75 = .ok (.getfield 19, 3) := by decide +kernel
theorem dX4_top_78 : decode cX4_top 78 = .ok (.getfield 79, 3) := by decide +kernel
theorem dX4_top_81 : decode cX4_top 81 = .ok (.iload 7, 2) := by decide +kernel
theorem dX4_top_83 : decode cX4_top 83 = .ok (.iadd, 1) := by decide +kernel
theorem dX4_top_84 : decode cX4_top 84 = .ok (.sipush 400, 3) := by decide +kernel
theorem dX4_top_87 : decode cX4_top 87 = .ok (.if_icmp .le 5, 3) := by decide +kernel
theorem dX4_top_90 : decode cX4_top 90 = .ok (.iconst (-1), 1) := by decide +kernel
theorem dX4_top_91 : decode cX4_top 91 = .ok (.ireturn, 1) := by decide +kernel
theorem dX4_top_92 : decode cX4_top 92 = .ok (.aload_n 0, 1) := by decide +kernel
theorem dX4_top_93 : decode cX4_top 93 = .ok (.iload_n 1, 1) := by decide +kernel
theorem dX4_top_94 : decode cX4_top 94 = .ok (.iload_n 2, 1) := by decide +kernel
theorem dX4_top_95 : decode cX4_top 95 = .ok (.lload_n 3, 1) := by decide +kernel
theorem dX4_top_96 : decode cX4_top 96 = .ok (.lload 5, 2) := by decide +kernel
theorem dX4_top_98 : decode cX4_top 98 = .ok (.invokevirtual 183, 3) := by decide +kernel
theorem dX4_top_101 : decode cX4_top 101 = .ok (.iload 7, 2) := by decide +kernel
theorem dX4_top_103 : decode cX4_top 103 = .ok (.ireturn, 1) := by decide +kernel
theorem dX4_whole_0 : decode cX4_whole 0 = .ok (.aload_n 0, 1) := by decide +kernel
theorem dX4_whole_1 : decode cX4_whole 1 = .ok (.getfield 10, 3) := by decide +kernel
theorem dX4_whole_4 : decode cX4_whole 4 = .ok (.iload_n 1, 1) := by decide +kernel
theorem dX4_whole_5 : decode cX4_whole 5 = .ok (.invokevirtual 69, 3) := by decide +kernel
theorem dX4_whole_8 : decode cX4_whole 8 = .ok (.ifCond .eq 27, 3) := by decide +kernel
theorem dX4_whole_11 : decode cX4_whole 11 = .ok (.aload_n 0, 1) := by decide +kernel
theorem dX4_whole_12 : decode cX4_whole 12 = .ok (.getfield 35, 3) := by decide +kernel
theorem dX4_whole_15 : decode cX4_whole 15 = .ok (.iload_n 1, 1) := by decide +kernel
theorem dX4_whole_16 : decode cX4_whole 16 = .ok (.invokevirtual 187, 3) := by decide +kernel
theorem dX4_whole_19 : decode cX4_whole 19 = .ok (.aload_n 0, 1) := by decide +kernel
theorem dX4_whole_20 : decode cX4_whole 20 = .ok (.getfield 35, 3) := by decide +kernel
theorem dX4_whole_23 : decode cX4_whole 23 = .ok (.iload_n 1, 1) := by decide +kernel
theorem dX4_whole_24 : decode cX4_whole 24 = .ok (.invokevirtual 110, 3) := by decide +kernel
theorem dX4_whole_27 : decode cX4_whole 27 = .ok (.lcmp, 1) := by decide +kernel
theorem dX4_whole_28 : decode cX4_whole 28 = .ok (.ifCond .ne 7, 3) := by decide +kernel
theorem dX4_whole_31 : decode cX4_whole 31 = .ok (.iconst 1, 1) := by decide +kernel
theorem dX4_whole_32 : decode cX4_whole 32 = .ok (.goto 4, 3) := by decide +kernel
theorem dX4_whole_35 : decode cX4_whole 35 = .ok (.iconst 0, 1) := by decide +kernel
theorem dX4_whole_36 : decode cX4_whole 36 = .ok (.ireturn, 1) := by decide +kernel
theorem dX4_loss_0 : decode cX4_loss 0 = .ok (.aload_n 0, 1) := by decide +kernel
theorem dX4_loss_1 : decode cX4_loss 1 = .ok (.getfield 10, 3) := by decide +kernel
theorem dX4_loss_4 : decode cX4_loss 4 = .ok (.iload_n 1, 1) := by decide +kernel
theorem dX4_loss_5 : decode cX4_loss 5 = .ok (.invokevirtual 69, 3) := by decide +kernel
theorem dX4_loss_8 : decode cX4_loss 8 = .ok (.ifCond .eq 15, 3) := by decide +kernel
theorem dX4_loss_11 : decode cX4_loss 11 = .ok (.aload_n 0, 1) := by decide +kernel
theorem dX4_loss_12 : decode cX4_loss 12 = .ok (.getfield 35, 3) := by decide +kernel
theorem dX4_loss_15 : decode cX4_loss 15 = .ok (.getfield 190, 3) := by decide +kernel
theorem dX4_loss_18 : decode cX4_loss 18 = .ok (.iload_n 1, 1) := by decide +kernel
theorem dX4_loss_19 : decode cX4_loss 19 = .ok (.laload, 1) := by decide +kernel
theorem dX4_loss_20 : decode cX4_loss 20 = .ok (.goto 6, 3) := by decide +kernel
theorem dX4_loss_23 : decode cX4_loss 23 = .ok (.ldc2_w 114, 3) := by decide +kernel
theorem dX4_loss_26 : decode cX4_loss 26 = .ok (.lreturn, 1) := by decide +kernel
theorem dX4_isAmount_0 : decode cX4_isAmount 0 = .ok (.lload_n 0, 1) := by decide +kernel
theorem dX4_isAmount_1 : decode cX4_isAmount 1 = .ok (.lconst 1, 1) := by decide +kernel
theorem dX4_isAmount_2 : decode cX4_isAmount 2 = .ok (.lcmp, 1) := by decide +kernel
theorem dX4_isAmount_3 : decode cX4_isAmount 3 = .ok (.ifCond .lt 15, 3) := by decide +kernel
theorem dX4_isAmount_6 : decode cX4_isAmount 6 = .ok (.lload_n 0, 1) := by decide +kernel
theorem dX4_isAmount_7 : decode cX4_isAmount 7 = .ok (.ldc2_w 156, 3) := by decide +kernel
theorem dX4_isAmount_10 : decode cX4_isAmount 10 = .ok (.lcmp, 1) := by decide +kernel
theorem dX4_isAmount_11 : decode cX4_isAmount 11 = .ok (.ifCond .gt 7, 3) := by decide +kernel
theorem dX4_isAmount_14 : decode cX4_isAmount 14 = .ok (.iconst 1, 1) := by decide +kernel
theorem dX4_isAmount_15 : decode cX4_isAmount 15 = .ok (.goto 4, 3) := by decide +kernel
theorem dX4_isAmount_18 : decode cX4_isAmount 18 = .ok (.iconst 0, 1) := by decide +kernel
theorem dX4_isAmount_19 : decode cX4_isAmount 19 = .ok (.ireturn, 1) := by decide +kernel
theorem dX4_isDay_0 : decode cX4_isDay 0 = .ok (.lload_n 0, 1) := by decide +kernel
theorem dX4_isDay_1 : decode cX4_isDay 1 = .ok (.lconst 0, 1) := by decide +kernel
theorem dX4_isDay_2 : decode cX4_isDay 2 = .ok (.lcmp, 1) := by decide +kernel
theorem dX4_isDay_3 : decode cX4_isDay 3 = .ok (.ifCond .lt 15, 3) := by decide +kernel
theorem dX4_isDay_6 : decode cX4_isDay 6 = .ok (.lload_n 0, 1) := by decide +kernel
theorem dX4_isDay_7 : decode cX4_isDay 7 = .ok (.ldc2_w 193, 3) := by decide +kernel
theorem dX4_isDay_10 : decode cX4_isDay 10 = .ok (.lcmp, 1) := by decide +kernel
theorem dX4_isDay_11 : decode cX4_isDay 11 = .ok (.ifCond .gt 7, 3) := by decide +kernel
theorem dX4_isDay_14 : decode cX4_isDay 14 = .ok (.iconst 1, 1) := by decide +kernel
theorem dX4_isDay_15 : decode cX4_isDay 15 = .ok (.goto 4, 3) := by decide +kernel
theorem dX4_isDay_18 : decode cX4_isDay 18 = .ok (.iconst 0, 1) := by decide +kernel
theorem dX4_isDay_19 : decode cX4_isDay 19 = .ok (.ireturn, 1) := by decide +kernel
theorem dX4_greatestDivisor_0 : decode cX4_greatestDivisor 0 = .ok (.lload_n 0, 1) := by decide +kernel
theorem dX4_greatestDivisor_1 : decode cX4_greatestDivisor 1 = .ok (.lstore 4, 2) := by decide +kernel
theorem dX4_greatestDivisor_3 : decode cX4_greatestDivisor 3 = .ok (.lload_n 2, 1) := by decide +kernel
theorem dX4_greatestDivisor_4 : decode cX4_greatestDivisor 4 = .ok (.lstore 6, 2) := by decide +kernel
theorem dX4_greatestDivisor_6 : decode cX4_greatestDivisor 6 = .ok (.iconst 0, 1) := by decide +kernel
theorem dX4_greatestDivisor_7 : decode cX4_greatestDivisor 7 = .ok (.istore 8, 2) := by decide +kernel
theorem dX4_greatestDivisor_9 : decode cX4_greatestDivisor 9 = .ok (.iload 8, 2) := by decide +kernel
theorem dX4_greatestDivisor_11 : decode cX4_greatestDivisor 11 = .ok (.sipush 200, 3) := by decide +kernel
theorem dX4_greatestDivisor_14 : decode cX4_greatestDivisor 14 = .ok (.if_icmp .ge 31, 3) := by decide +kernel
theorem dX4_greatestDivisor_17 : decode cX4_greatestDivisor 17 = .ok (.lload 6, 2) := by decide +kernel
theorem dX4_greatestDivisor_19 : decode cX4_greatestDivisor 19 = .ok (.lconst 0, 1) := by decide +kernel
theorem dX4_greatestDivisor_20 : decode cX4_greatestDivisor 20 = .ok (.lcmp, 1) := by decide +kernel
theorem dX4_greatestDivisor_21 : decode cX4_greatestDivisor 21 = .ok (.ifCond .eq 24, 3) := by decide +kernel
theorem dX4_greatestDivisor_24 : decode cX4_greatestDivisor 24 = .ok (.lload 4, 2) := by decide +kernel
theorem dX4_greatestDivisor_26 : decode cX4_greatestDivisor 26 = .ok (.lload 6, 2) := by decide +kernel
theorem dX4_greatestDivisor_28 : decode cX4_greatestDivisor 28 = .ok (.lrem, 1) := by decide +kernel
theorem dX4_greatestDivisor_29 : decode cX4_greatestDivisor 29 = .ok (.lstore 9, 2) := by decide +kernel
theorem dX4_greatestDivisor_31 : decode cX4_greatestDivisor 31 = .ok (.lload 6, 2) := by decide +kernel
theorem dX4_greatestDivisor_33 : decode cX4_greatestDivisor 33 = .ok (.lstore 4, 2) := by decide +kernel
theorem dX4_greatestDivisor_35 : decode cX4_greatestDivisor 35 = .ok (.lload 9, 2) := by decide +kernel
theorem dX4_greatestDivisor_37 : decode cX4_greatestDivisor 37 = .ok (.lstore 6, 2) := by decide +kernel
theorem dX4_greatestDivisor_39 : decode cX4_greatestDivisor 39 = .ok (.iinc 8 1, 3) := by decide +kernel
theorem dX4_greatestDivisor_42 : decode cX4_greatestDivisor 42 = .ok (.goto (-33), 3) := by decide +kernel
theorem dX4_greatestDivisor_45 : decode cX4_greatestDivisor 45 = .ok (.lload 4, 2) := by decide +kernel
theorem dX4_greatestDivisor_47 : decode cX4_greatestDivisor 47 = .ok (.lreturn, 1) := by decide +kernel
theorem dX4_tell_0 : decode cX4_tell 0 = .ok (.aload_n 0, 1) := by decide +kernel
theorem dX4_tell_1 : decode cX4_tell 1 = .ok (.getfield 10, 3) := by decide +kernel
theorem dX4_tell_4 : decode cX4_tell 4 = .ok (.iload_n 1, 1) := by decide +kernel
theorem dX4_tell_5 : decode cX4_tell 5 = .ok (.invokevirtual 57, 3) := by decide +kernel
theorem dX4_tell_8 : decode cX4_tell 8 = .ok (.ifCond .eq 20, 3) := by decide +kernel
theorem dX4_tell_11 : decode cX4_tell 11 = .ok (.lload 5, 2) := by decide +kernel
theorem dX4_tell_13 : decode cX4_tell 13 = .ok (.aload_n 0, 1) := by decide +kernel
theorem dX4_tell_14 : decode cX4_tell 14 = .ok (.getfield 10, 3) := by decide +kernel
theorem dX4_tell_17 : decode cX4_tell 17 = .ok (.getfield 195, 3) := by decide +kernel
theorem dX4_tell_20 : decode cX4_tell 20 = .ok (.iload_n 1, 1) := by decide +kernel
theorem dX4_tell_21 : decode cX4_tell 21 = .ok (.laload, 1) := by decide +kernel
theorem dX4_tell_22 : decode cX4_tell 22 = .ok (.lcmp, 1) := by decide +kernel
theorem dX4_tell_23 : decode cX4_tell 23 = .ok (.ifCond .ge 5, 3) := by decide +kernel
theorem dX4_tell_26 : decode cX4_tell 26 = .ok (.iconst 0, 1) := by decide +kernel
theorem dX4_tell_27 : decode cX4_tell 27 = .ok (.ireturn, 1) := by decide +kernel
theorem dX4_tell_28 : decode cX4_tell 28 = .ok (.aload_n 0, 1) := by decide +kernel
theorem dX4_tell_29 : decode cX4_tell 29 = .ok (.getfield 19, 3) := by decide +kernel
theorem dX4_tell_32 : decode cX4_tell 32 = .ok (.lload 5, 2) := by decide +kernel
theorem dX4_tell_34 : decode cX4_tell 34 = .ok (.invokevirtual 198, 3) := by decide +kernel
theorem dX4_tell_37 : decode cX4_tell 37 = .ok (.istore 7, 2) := by decide +kernel
theorem dX4_tell_39 : decode cX4_tell 39 = .ok (.iload 7, 2) := by decide +kernel
theorem dX4_tell_41 : decode cX4_tell 41 = .ok (.aload_n 0, 1) := by decide +kernel
theorem dX4_tell_42 : decode cX4_tell 42 = .ok (.getfield 19, 3) := by decide +kernel
theorem dX4_tell_45 : decode cX4_tell 45 = .ok (.getfield 79, 3) := by decide +kernel
theorem dX4_tell_48 : decode cX4_tell 48 = .ok (.if_icmp .ne 34, 3) := by decide +kernel
theorem dX4_tell_51 : decode cX4_tell 51 = .ok (.aload_n 0, 1) := by decide +kernel
theorem dX4_tell_52 : decode cX4_tell 52 = .ok (.getfield 35, 3) := by decide +kernel
theorem dX4_tell_55 : decode cX4_tell 55 = .ok (.iload_n 1, 1) := by decide +kernel
theorem dX4_tell_56 : decode cX4_tell 56 = .ok (.iload_n 2, 1) := by decide +kernel
theorem dX4_tell_57 : decode cX4_tell 57 = .ok (.lload_n 3, 1) := by decide +kernel
theorem dX4_tell_58 : decode cX4_tell 58 = .ok (.invokevirtual 202, 3) := by decide +kernel
theorem dX4_tell_61 : decode cX4_tell 61 = .ok (.ifCond .ne 5, 3) := by decide +kernel
theorem dX4_tell_64 : decode cX4_tell 64 = .ok (.iconst 0, 1) := by decide +kernel
theorem dX4_tell_65 : decode cX4_tell 65 = .ok (.ireturn, 1) := by decide +kernel
theorem dX4_tell_66 : decode cX4_tell 66 = .ok (.aload_n 0, 1) := by decide +kernel
theorem dX4_tell_67 : decode cX4_tell 67 = .ok (.getfield 19, 3) := by decide +kernel
theorem dX4_tell_70 : decode cX4_tell 70 = .ok (.iload 7, 2) := by decide +kernel
theorem dX4_tell_72 : decode cX4_tell 72 = .ok (.iload_n 1, 1) := by decide +kernel
theorem dX4_tell_73 : decode cX4_tell 73 = .ok (.iload_n 2, 1) := by decide +kernel
theorem dX4_tell_74 : decode cX4_tell 74 = .ok (.lload_n 3, 1) := by decide +kernel
theorem dX4_tell_75 : decode cX4_tell 75 = .ok (.lload 5, 2) := by decide +kernel
theorem dX4_tell_77 : decode cX4_tell 77 = .ok (.invokevirtual 206, 3) := by decide +kernel
theorem dX4_tell_80 : decode cX4_tell 80 = .ok (.iconst 1, 1) := by decide +kernel
theorem dX4_tell_81 : decode cX4_tell 81 = .ok (.ireturn, 1) := by decide +kernel
theorem dX4_tell_82 : decode cX4_tell 82 = .ok (.aload_n 0, 1) := by decide +kernel
theorem dX4_tell_83 : decode cX4_tell 83 = .ok (.getfield 19, 3) := by decide +kernel
theorem dX4_tell_86 : decode cX4_tell 86 = .ok (.iload 7, 2) := by decide +kernel
theorem dX4_tell_88 : decode cX4_tell 88 = .ok (.iload_n 1, 1) := by decide +kernel
theorem dX4_tell_89 : decode cX4_tell 89 = .ok (.iload_n 2, 1) := by decide +kernel
theorem dX4_tell_90 : decode cX4_tell 90 = .ok (.lload_n 3, 1) := by decide +kernel
theorem dX4_tell_91 : decode cX4_tell 91 = .ok (.lload 5, 2) := by decide +kernel
theorem dX4_tell_93 : decode cX4_tell 93 = .ok (.invokevirtual 206, 3) := by decide +kernel
theorem dX4_tell_96 : decode cX4_tell 96 = .ok (.aload_n 0, 1) := by decide +kernel
theorem dX4_tell_97 : decode cX4_tell 97 = .ok (.getfield 39, 3) := by decide +kernel
theorem dX4_tell_100 : decode cX4_tell 100 = .ok (.aload_n 0, 1) := by decide +kernel
theorem dX4_tell_101 : decode cX4_tell 101 = .ok (.getfield 19, 3) := by decide +kernel
theorem dX4_tell_104 : decode cX4_tell 104 = .ok (.invokevirtual 164, 3) := by decide +kernel
theorem dX4_tell_107 : decode cX4_tell 107 = .ok (.ifCond .ne 14, 3) := by decide +kernel
theorem dX4_tell_110 : decode cX4_tell 110 = .ok (.aload_n 0, 1) := by decide +kernel
theorem dX4_tell_111 : decode cX4_tell 111 = .ok (.getfield 19, 3) := by decide +kernel
theorem dX4_tell_114 : decode cX4_tell 114 = .ok (.iload 7, 2) := by decide +kernel
theorem dX4_tell_116 : decode cX4_tell 116 = .ok (.invokevirtual 210, 3) := by decide +kernel
theorem dX4_tell_119 : decode cX4_tell 119 = .ok (.iconst 0, 1) := by decide +kernel
theorem dX4_tell_120 : decode cX4_tell 120 = .ok (.ireturn, 1) := by decide +kernel
theorem dX4_tell_121 : decode cX4_tell 121 = .ok (.aload_n 0, 1) := by decide +kernel
theorem dX4_tell_122 : decode cX4_tell 122 = .ok (.invokevirtual 168, 3) := by decide +kernel
theorem dX4_tell_125 : decode cX4_tell 125 = .ok (.iconst 1, 1) := by decide +kernel
theorem dX4_tell_126 : decode cX4_tell 126 = .ok (.ireturn, 1) := by decide +kernel
theorem dX4_takeTrial_0 : decode cX4_takeTrial 0 = .ok (.aload_n 0, 1) := by decide +kernel
theorem dX4_takeTrial_1 : decode cX4_takeTrial 1 = .ok (.getfield 35, 3) := by decide +kernel
theorem dX4_takeTrial_4 : decode cX4_takeTrial 4 = .ok (.astore_n 1, 1) := by decide +kernel
theorem dX4_takeTrial_5 : decode cX4_takeTrial 5 = .ok (.aload_n 0, 1) := by decide +kernel
theorem dX4_takeTrial_6 : decode cX4_takeTrial 6 = .ok (.aload_n 0, 1) := by decide +kernel
theorem dX4_takeTrial_7 : decode cX4_takeTrial 7 = .ok (.getfield 39, 3) := by decide +kernel
theorem dX4_takeTrial_10 : decode cX4_takeTrial 10 = .ok (.putfield 35, 3) := by decide +kernel
theorem dX4_takeTrial_13 : decode cX4_takeTrial 13 = .ok (.aload_n 0, 1) := by decide +kernel
theorem dX4_takeTrial_14 : decode cX4_takeTrial 14 = .ok (.aload_n 1, 1) := by decide +kernel
theorem dX4_takeTrial_15 : decode cX4_takeTrial 15 = .ok (.putfield 39, 3) := by decide +kernel
theorem dX4_takeTrial_18 : decode cX4_takeTrial 18 = .ok (.return_, 1) := by decide +kernel
theorem dX4_canGive_0 : decode cX4_canGive 0 = .ok (.iload_n 2, 1) := by decide +kernel
theorem dX4_canGive_1 : decode cX4_canGive 1 = .ok (.iconst (-1), 1) := by decide +kernel
theorem dX4_canGive_2 : decode cX4_canGive 2 = .ok (.if_icmp .eq 10, 3) := by decide +kernel
theorem dX4_canGive_5 : decode cX4_canGive 5 = .ok (.iload_n 2, 1) := by decide +kernel
theorem dX4_canGive_6 : decode cX4_canGive 6 = .ok (.iload_n 1, 1) := by decide +kernel
theorem dX4_canGive_7 : decode cX4_canGive 7 = .ok (.if_icmp .eq 5, 3) := by decide +kernel
theorem dX4_canGive_10 : decode cX4_canGive 10 = .ok (.lconst 0, 1) := by decide +kernel
theorem dX4_canGive_11 : decode cX4_canGive 11 = .ok (.lreturn, 1) := by decide +kernel
theorem dX4_canGive_12 : decode cX4_canGive 12 = .ok (.aload_n 0, 1) := by decide +kernel
theorem dX4_canGive_13 : decode cX4_canGive 13 = .ok (.getfield 10, 3) := by decide +kernel
theorem dX4_canGive_16 : decode cX4_canGive 16 = .ok (.getfield 95, 3) := by decide +kernel
theorem dX4_canGive_19 : decode cX4_canGive 19 = .ok (.iload_n 1, 1) := by decide +kernel
theorem dX4_canGive_20 : decode cX4_canGive 20 = .ok (.baload, 1) := by decide +kernel
theorem dX4_canGive_21 : decode cX4_canGive 21 = .ok (.ifCond .ne 17, 3) := by decide +kernel
theorem dX4_canGive_24 : decode cX4_canGive 24 = .ok (.aload_n 0, 1) := by decide +kernel
theorem dX4_canGive_25 : decode cX4_canGive 25 = .ok (.getfield 10, 3) := by decide +kernel
theorem dX4_canGive_28 : decode cX4_canGive 28 = .ok (.getfield 195, 3) := by decide +kernel
theorem dX4_canGive_31 : decode cX4_canGive 31 = .ok (.iload_n 1, 1) := by decide +kernel
theorem dX4_canGive_32 : decode cX4_canGive 32 = .ok (.laload, 1) := by decide +kernel
theorem dX4_canGive_33 : decode cX4_canGive 33 = .ok (.lload_n 3, 1) := by decide +kernel
theorem dX4_canGive_34 : decode cX4_canGive 34 = .ok (.lcmp, 1) := by decide +kernel
theorem dX4_canGive_35 : decode cX4_canGive 35 = .ok (.ifCond .le 7, 3) := by decide +kernel
theorem dX4_canGive_38 : decode cX4_canGive 38 = .ok (.lconst 0, 1) := by decide +kernel
theorem dX4_canGive_39 : decode cX4_canGive 39 = .ok (.goto 11, 3) := by decide +kernel
theorem dX4_canGive_42 : decode cX4_canGive 42 = .ok (.aload_n 0, 1) := by decide +kernel
theorem dX4_canGive_43 : decode cX4_canGive 43 = .ok (.getfield 35, 3) := by decide +kernel
theorem dX4_canGive_46 : decode cX4_canGive 46 = .ok (.iload_n 1, 1) := by decide +kernel
theorem dX4_canGive_47 : decode cX4_canGive 47 = .ok (.invokevirtual 110, 3) := by decide +kernel
theorem dX4_canGive_50 : decode cX4_canGive 50 = .ok (.lreturn, 1) := by decide +kernel
theorem dX4_countTopFlows_0 : decode cX4_countTopFlows 0 = .ok (.lload_n 2, 1) := by decide +kernel
theorem dX4_countTopFlows_1 : decode cX4_countTopFlows 1 = .ok (.lstore 6, 2) := by decide +kernel
theorem dX4_countTopFlows_3 : decode cX4_countTopFlows 3 = .ok (.iconst 0, 1) := by decide +kernel
theorem dX4_countTopFlows_4 : decode cX4_countTopFlows 4 = .ok (.istore 8, 2) := by decide +kernel
theorem dX4_countTopFlows_6 : decode cX4_countTopFlows 6 = .ok (.iconst 0, 1) := by decide +kernel
theorem dX4_countTopFlows_7 : decode cX4_countTopFlows 7 = .ok (.istore 9, 2) := by decide +kernel
theorem dX4_countTopFlows_9 : decode cX4_countTopFlows 9 = .ok (.iload 9, 2) := by decide +kernel
theorem dX4_countTopFlows_11 : decode cX4_countTopFlows 11 = .ok (.aload_n 0, 1) := by decide +kernel
theorem dX4_countTopFlows_12 : decode cX4_countTopFlows 12 = .ok (.getfield 10, 3) := by decide +kernel
theorem dX4_countTopFlows_15 : decode cX4_countTopFlows 15 = .ok (.getfield 213, 3) := by decide +kernel
theorem dX4_countTopFlows_18 : decode cX4_countTopFlows 18 = .ok (.if_icmp .ge 57, 3) := by decide +kernel
theorem dX4_countTopFlows_21 : decode cX4_countTopFlows 21 = .ok (.lload 6, 2) := by decide +kernel
theorem dX4_countTopFlows_23 : decode cX4_countTopFlows 23 = .ok (.lconst 0, 1) := by decide +kernel
theorem dX4_countTopFlows_24 : decode cX4_countTopFlows 24 = .ok (.lcmp, 1) := by decide +kernel
theorem dX4_countTopFlows_25 : decode cX4_countTopFlows 25 = .ok (.ifCond .le 50, 3) := by decide +kernel
theorem dX4_countTopFlows_28 : decode cX4_countTopFlows 28 = .ok (.lload 6, 2) := by decide +kernel
theorem dX4_countTopFlows_30 : decode cX4_countTopFlows 30 = .ok (.aload_n 0, 1) := by decide +kernel
theorem dX4_countTopFlows_31 : decode cX4_countTopFlows 31 = .ok (.aload_n 0, 1) := by decide +kernel
theorem dX4_countTopFlows_32 : decode cX4_countTopFlows 32 = .ok (.getfield 10, 3) := by decide +kernel
theorem dX4_countTopFlows_35 : decode cX4_countTopFlows 35 = .ok (.getfield 216, 3) := by decide +kernel
theorem dX4_countTopFlows_38 : decode cX4_countTopFlows 38 = .ok (.iload 9, 2) := by decide +kernel
theorem dX4_countTopFlows_40 : decode cX4_countTopFlows 40 = .ok (.iaload, 1) := by decide +kernel
theorem dX4_countTopFlows_41 : decode cX4_countTopFlows 41 = .ok (.iload_n 1, 1) := by decide +kernel
theorem dX4_countTopFlows_42 : decode cX4_countTopFlows 42 = .ok (.lload 4, 2) := by decide +kernel
theorem dX4_countTopFlows_44 : decode cX4_countTopFlows 44 = .ok (.invokevirtual 219, 3) := by decide +kernel
theorem dX4_countTopFlows_47 : decode cX4_countTopFlows 47 = .ok (.invokestatic 148, 3) := by decide +kernel
theorem dX4_countTopFlows_50 : decode cX4_countTopFlows 50 = .ok (.lstore 10, 2) := by decide +kernel
theorem dX4_countTopFlows_52 : decode cX4_countTopFlows 52 = .ok (.lload 10, 2) := by decide +kernel
theorem dX4_countTopFlows_54 : decode cX4_countTopFlows 54 = .ok (.lconst 0, 1) := by decide +kernel
theorem dX4_countTopFlows_55 : decode cX4_countTopFlows 55 = .ok (.lcmp, 1) := by decide +kernel
theorem dX4_countTopFlows_56 : decode cX4_countTopFlows 56 = .ok (.ifCond .le 13, 3) := by decide +kernel
theorem dX4_countTopFlows_59 : decode cX4_countTopFlows 59 = .ok (.lload 6, 2) := by decide +kernel
theorem dX4_countTopFlows_61 : decode cX4_countTopFlows 61 = .ok (.lload 10, 2) := by decide +kernel
theorem dX4_countTopFlows_63 : decode cX4_countTopFlows 63 = .ok (.lsub, 1) := by decide +kernel
theorem dX4_countTopFlows_64 : decode cX4_countTopFlows 64 = .ok (.lstore 6, 2) := by decide +kernel
theorem dX4_countTopFlows_66 : decode cX4_countTopFlows 66 = .ok (.iinc 8 1, 3) := by decide +kernel
theorem dX4_countTopFlows_69 : decode cX4_countTopFlows 69 = .ok (.iinc 9 1, 3) := by decide +kernel
theorem dX4_countTopFlows_72 : decode cX4_countTopFlows 72 = .ok (.goto (-63), 3) := by decide +kernel
theorem dX4_countTopFlows_75 : decode cX4_countTopFlows 75 = .ok (.lload 6, 2) := by decide +kernel
theorem dX4_countTopFlows_77 : decode cX4_countTopFlows 77 = .ok (.lconst 0, 1) := by decide +kernel
theorem dX4_countTopFlows_78 : decode cX4_countTopFlows 78 = .ok (.lcmp, 1) := by decide +kernel
theorem dX4_countTopFlows_79 : decode cX4_countTopFlows 79 = .ok (.ifCond .le 7, 3) := by decide +kernel
theorem dX4_countTopFlows_82 : decode cX4_countTopFlows 82 = .ok (.iconst (-1), 1) := by decide +kernel
theorem dX4_countTopFlows_83 : decode cX4_countTopFlows 83 = .ok (.goto 5, 3) := by decide +kernel
theorem dX4_countTopFlows_86 : decode cX4_countTopFlows 86 = .ok (.iload 8, 2) := by decide +kernel
theorem dX4_countTopFlows_88 : decode cX4_countTopFlows 88 = .ok (.ireturn, 1) := by decide +kernel
theorem dX4_tellTopFlows_0 : decode cX4_tellTopFlows 0 = .ok (.lload_n 3, 1) := by decide +kernel
theorem dX4_tellTopFlows_1 : decode cX4_tellTopFlows 1 = .ok (.lstore 7, 2) := by decide +kernel
theorem dX4_tellTopFlows_3 : decode cX4_tellTopFlows 3 = .ok (.iconst 0, 1) := by decide +kernel
theorem dX4_tellTopFlows_4 : decode cX4_tellTopFlows 4 = .ok (.istore 9, 2) := by decide +kernel
theorem dX4_tellTopFlows_6 : decode cX4_tellTopFlows 6 = .ok (.iload 9, 2) := by decide +kernel
theorem dX4_tellTopFlows_8 : decode cX4_tellTopFlows 8 = .ok (.aload_n 0, 1) := by decide +kernel
theorem dX4_tellTopFlows_9 : decode cX4_tellTopFlows 9 = .ok (.getfield 10, 3) := by decide +kernel
theorem dX4_tellTopFlows_12 : decode cX4_tellTopFlows 12 = .ok (.getfield 213, 3) := by decide +kernel
theorem dX4_tellTopFlows_15 : decode cX4_tellTopFlows 15 = .ok (.if_icmp .ge 72, 3) := by decide +kernel
theorem dX4_tellTopFlows_18 : decode cX4_tellTopFlows 18 = .ok (.lload 7, 2) := by decide +kernel
theorem dX4_tellTopFlows_20 : decode cX4_tellTopFlows 20 = .ok (.lconst 0, 1) := by decide +kernel
theorem dX4_tellTopFlows_21 : decode cX4_tellTopFlows 21 = .ok (.lcmp, 1) := by decide +kernel
theorem dX4_tellTopFlows_22 : decode cX4_tellTopFlows 22 = .ok (.ifCond .le 65, 3) := by decide +kernel
theorem dX4_tellTopFlows_25 : decode cX4_tellTopFlows 25 = .ok (.aload_n 0, 1) := by decide +kernel
theorem dX4_tellTopFlows_26 : decode cX4_tellTopFlows 26 = .ok (.getfield 10, 3) := by decide +kernel
theorem dX4_tellTopFlows_29 : decode cX4_tellTopFlows 29 = .ok (.getfield 216, 3) := by decide +kernel
theorem dX4_tellTopFlows_32 : decode cX4_tellTopFlows 32 = .ok (.iload 9, 2) := by decide +kernel
theorem dX4_tellTopFlows_34 : decode cX4_tellTopFlows 34 = .ok (.iaload, 1) := by decide +kernel
theorem dX4_tellTopFlows_35 : decode cX4_tellTopFlows 35 = .ok (.istore 10, 2) := by decide +kernel
theorem dX4_tellTopFlows_37 : decode cX4_tellTopFlows 37 = .ok (.lload 7, 2) := by decide +kernel
theorem dX4_tellTopFlows_39 : decode cX4_tellTopFlows 39 = .ok (.aload_n 0, 1) := by decide +kernel
theorem dX4_tellTopFlows_40 : decode cX4_tellTopFlows 40 = .ok (.iload 10, 2) := by decide +kernel
theorem dX4_tellTopFlows_42 : decode cX4_tellTopFlows 42 = .ok (.iload_n 2, 1) := by decide +kernel
theorem dX4_tellTopFlows_43 : decode cX4_tellTopFlows 43 = .ok (.lload 5, 2) := by decide +kernel
theorem dX4_tellTopFlows_45 : decode cX4_tellTopFlows 45 = .ok (.invokevirtual 219, 3) := by decide +kernel
theorem dX4_tellTopFlows_48 : decode cX4_tellTopFlows 48 = .ok (.invokestatic 148, 3) := by decide +kernel
theorem dX4_tellTopFlows_51 : decode cX4_tellTopFlows 51 = .ok (.lstore 11, 2) := by decide +kernel
theorem dX4_tellTopFlows_53 : decode cX4_tellTopFlows 53 = .ok (.lload 11, 2) := by decide +kernel
theorem dX4_tellTopFlows_55 : decode cX4_tellTopFlows 55 = .ok (.lconst 0, 1) := by decide +kernel
theorem dX4_tellTopFlows_56 : decode cX4_tellTopFlows 56 = .ok (.lcmp, 1) := by decide +kernel
theorem dX4_tellTopFlows_57 : decode cX4_tellTopFlows 57 = .ok (.ifCond .le 24, 3) := by decide +kernel
theorem dX4_tellTopFlows_60 : decode cX4_tellTopFlows 60 = .ok (.aload_n 0, 1) := by decide +kernel
theorem dX4_tellTopFlows_61 : decode cX4_tellTopFlows 61 = .ok (.iload 10, 2) := by decide +kernel
theorem dX4_tellTopFlows_63 : decode cX4_tellTopFlows 63 = .ok (.iload_n 1, 1) := by decide +kernel
theorem dX4_tellTopFlows_64 : decode cX4_tellTopFlows 64 = .ok (.lload 11, 2) := by decide +kernel
theorem dX4_tellTopFlows_66 : decode cX4_tellTopFlows 66 = .ok (.lload 5, 2) := by decide +kernel
theorem dX4_tellTopFlows_68 : decode cX4_tellTopFlows 68 = .ok (.invokevirtual 104, 3) := by decide +kernel
theorem dX4_tellTopFlows_71 : decode cX4_tellTopFlows 71 = .ok (.ifCond .eq 10, 3) := by decide +kernel
theorem dX4_tellTopFlows_74 : decode cX4_tellTopFlows 74 = .ok (.lload 7, 2) := by decide +kernel
theorem dX4_tellTopFlows_76 : decode cX4_tellTopFlows 76 = .ok (.lload 11, 2) := by decide +kernel
theorem dX4_tellTopFlows_78 : decode cX4_tellTopFlows 78 = .ok (.lsub, 1) := by decide +kernel
theorem dX4_tellTopFlows_79 : decode cX4_tellTopFlows 79 = .ok (.lstore 7, 2) := by decide +kernel
theorem dX4_tellTopFlows_81 : decode cX4_tellTopFlows 81 = .ok (.iinc 9 1, 3) := by decide +kernel
theorem dX4_tellTopFlows_84 : decode cX4_tellTopFlows 84 = .ok (.goto (-78), 3) := by decide +kernel
theorem dX4_tellTopFlows_87 : decode cX4_tellTopFlows 87 = .ok (.return_, 1) := by decide +kernel
