theorem dX0_init_0 : decode cX0_init 0 = .ok (.aload_n 0, 1) := by decide +kernel
theorem dX0_init_1 : decode cX0_init 1 = .ok (.invokespecial 3, 3) := by decide +kernel
theorem dX0_init_4 : decode cX0_init 4 = .ok (.aload_n 0, 1) := by decide +kernel
theorem dX0_init_5 : decode cX0_init 5 = .ok (.sipush 400, 3) := by decide +kernel
theorem dX0_init_8 : decode cX0_init 8 = .ok (.newarray .int, 2) := by decide +kernel
theorem dX0_init_10 : decode cX0_init 10 = .ok (.putfield 9, 3) := by decide +kernel
theorem dX0_init_13 : decode cX0_init 13 = .ok (.aload_n 0, 1) := by decide +kernel
theorem dX0_init_14 : decode cX0_init 14 = .ok (.sipush 400, 3) := by decide +kernel
theorem dX0_init_17 : decode cX0_init 17 = .ok (.newarray .int, 2) := by decide +kernel
theorem dX0_init_19 : decode cX0_init 19 = .ok (.putfield 15, 3) := by decide +kernel
theorem dX0_init_22 : decode cX0_init 22 = .ok (.aload_n 0, 1) := by decide +kernel
theorem dX0_init_23 : decode cX0_init 23 = .ok (.sipush 400, 3) := by decide +kernel
theorem dX0_init_26 : decode cX0_init 26 = .ok (.newarray .long, 2) := by decide +kernel
theorem dX0_init_28 : decode cX0_init 28 = .ok (.putfield 18, 3) := by decide +kernel
theorem dX0_init_31 : decode cX0_init 31 = .ok (.aload_n 0, 1) := by decide +kernel
theorem dX0_init_32 : decode cX0_init 32 = .ok (.sipush 400, 3) := by decide +kernel
theorem dX0_init_35 : decode cX0_init 35 = .ok (.newarray .long, 2) := by decide +kernel
theorem dX0_init_37 : decode cX0_init 37 = .ok (.putfield 22, 3) := by decide +kernel
theorem dX0_init_40 : decode cX0_init 40 = .ok (.aload_n 0, 1) := by decide +kernel
theorem dX0_init_41 : decode cX0_init 41 = .ok (.sipush 400, 3) := by decide +kernel
theorem dX0_init_44 : decode cX0_init 44 = .ok (.newarray .int, 2) := by decide +kernel
theorem dX0_init_46 : decode cX0_init 46 = .ok (.putfield 25, 3) := by decide +kernel
theorem dX0_init_49 : decode cX0_init 49 = .ok (.return_, 1) := by decide +kernel
theorem dX0_greatestDay_0 : decode cX0_greatestDay 0 = .ok (.aload_n 0, 1) := by decide +kernel
theorem dX0_greatestDay_1 : decode cX0_greatestDay 1 = .ok (.getfield 28, 3) := by decide +kernel
theorem dX0_greatestDay_4 : decode cX0_greatestDay 4 = .ok (.ifCond .ne 7, 3) := by decide +kernel
theorem dX0_greatestDay_7 : decode cX0_greatestDay 7 = .ok (.lconst 0, 1) := by decide +kernel
theorem dX0_greatestDay_8 : decode cX0_greatestDay 8 = .ok (.goto 19, 3) := by decide +kernel
theorem dX0_greatestDay_11 : decode cX0_greatestDay 11 = .ok (.aload_n 0, 1) := by decide +kernel
theorem dX0_greatestDay_12 : decode cX0_greatestDay 12 = .ok (.getfield 22, 3) := by decide +kernel
theorem dX0_greatestDay_15 : decode cX0_greatestDay 15 = .ok (.aload_n 0, 1) := by decide +kernel
theorem dX0_greatestDay_16 : decode cX0_greatestDay 16 = .ok (.getfield 25, 3) := by decide +kernel
theorem dX0_greatestDay_19 : decode cX0_greatestDay 19 = .ok (.aload_n 0, 1) := by decide +kernel
theorem dX0_greatestDay_20 : decode cX0_greatestDay 20 = .ok (.getfield 28, 3) := by decide +kernel
theorem dX0_greatestDay_23 : decode cX0_greatestDay 23 = .ok (.iconst 1, 1) := by decide +kernel
theorem dX0_greatestDay_24 : decode cX0_greatestDay 24 = .ok (.isub, 1) := by decide +kernel
theorem dX0_greatestDay_25 : decode cX0_greatestDay 25 = .ok (.iaload, 1) := by decide +kernel
theorem dX0_greatestDay_26 : decode cX0_greatestDay 26 = .ok (.laload, 1) := by decide +kernel
theorem dX0_greatestDay_27 : decode cX0_greatestDay 27 = .ok (.lreturn, 1) := by decide +kernel
theorem dX0_turnFor_0 : decode cX0_turnFor 0 = .ok (.aload_n 0, 1) := by decide +kernel
theorem dX0_turnFor_1 : decode cX0_turnFor 1 = .ok (.getfield 28, 3) := by decide +kernel
theorem dX0_turnFor_4 : decode cX0_turnFor 4 = .ok (.istore_n 3, 1) := by decide +kernel
theorem dX0_turnFor_5 : decode cX0_turnFor 5 = .ok (.iload_n 3, 1) := by decide +kernel
theorem dX0_turnFor_6 : decode cX0_turnFor 6 = .ok (.ifCond .le 27, 3) := by decide +kernel
theorem dX0_turnFor_9 : decode cX0_turnFor 9 = .ok (.aload_n 0, 1) := by decide +kernel
theorem dX0_turnFor_10 : decode cX0_turnFor 10 = .ok (.getfield 22, 3) := by decide +kernel
theorem dX0_turnFor_13 : decode cX0_turnFor 13 = .ok (.aload_n 0, 1) := by decide +kernel
theorem dX0_turnFor_14 : decode cX0_turnFor 14 = .ok (.getfield 25, 3) := by decide +kernel
theorem dX0_turnFor_17 : decode cX0_turnFor 17 = .ok (.iload_n 3, 1) := by decide +kernel
theorem dX0_turnFor_18 : decode cX0_turnFor 18 = .ok (.iconst 1, 1) := by decide +kernel
theorem dX0_turnFor_19 : decode cX0_turnFor 19 = .ok (.isub, 1) := by decide +kernel
theorem dX0_turnFor_20 : decode cX0_turnFor 20 = .ok (.iaload, 1) := by decide +kernel
theorem dX0_turnFor_21 : decode cX0_turnFor 21 = .ok (.laload, 1) := by decide +kernel
theorem dX0_turnFor_22 : decode cX0_turnFor 22 = .ok (.lload_n 1, 1) := by decide +kernel
theorem dX0_turnFor_23 : decode cX0_turnFor 23 = .ok (.lcmp, 1) := by decide +kernel
theorem dX0_turnFor_24 : decode cX0_turnFor 24 = .ok (.ifCond .le 9, 3) := by decide +kernel
theorem dX0_turnFor_27 : decode cX0_turnFor 27 = .ok (.iinc 3 (-1), 3) := by decide +kernel
theorem dX0_turnFor_30 : decode cX0_turnFor 30 = .ok (.goto (-25), 3) := by decide +kernel
theorem dX0_turnFor_33 : decode cX0_turnFor 33 = .ok (.iload_n 3, 1) := by decide +kernel
theorem dX0_turnFor_34 : decode cX0_turnFor 34 = .ok (.ireturn, 1) := by decide +kernel
theorem dX0_insert_0 : decode cX0_insert 0 = .ok (.aload_n 0, 1) := by decide +kernel
theorem dX0_insert_1 : decode cX0_insert 1 = .ok (.getfield 28, 3) := by decide +kernel
theorem dX0_insert_4 : decode cX0_insert 4 = .ok (.sipush 400, 3) := by decide +kernel
theorem dX0_insert_7 : decode cX0_insert 7 = .ok (.if_icmp .ge 15, 3) := by decide +kernel
theorem dX0_insert_10 : decode cX0_insert 10 = .ok (.iload_n 1, 1) := by decide +kernel
theorem dX0_insert_11 : decode cX0_insert 11 = .ok (.ifCond .lt 11, 3) := by decide +kernel
theorem dX0_insert_14 : decode cX0_insert 14 = .ok (.iload_n 1, 1) := by decide +kernel
theorem dX0_insert_15 : decode cX0_insert 15 = .ok (.aload_n 0, 1) := by decide +kernel
theorem dX0_insert_16 : decode cX0_insert 16 = .ok (.getfield 28, 3) := by decide +kernel
theorem dX0_insert_19 : decode cX0_insert 19 = .ok (.if_icmp .le 4, 3) := by decide +kernel
theorem dX0_insert_22 : decode cX0_insert 22 = .ok (.return_, 1) := by decide +kernel
theorem dX0_insert_23 : decode cX0_insert 23 = .ok (.aload_n 0, 1) := by decide +kernel
theorem dX0_insert_24 : decode cX0_insert 24 = .ok (.getfield 9, 3) := by decide +kernel
theorem dX0_insert_27 : decode cX0_insert 27 = .ok (.aload_n 0, 1) := by decide +kernel
theorem dX0_insert_28 : decode cX0_insert 28 = .ok (.getfield 28, 3) := by decide +kernel
theorem dX0_insert_31 : decode cX0_insert 31 = .ok (.iload_n 2, 1) := by decide +kernel
theorem dX0_insert_32 : decode cX0_insert 32 = .ok (.iastore, 1) := by decide +kernel
theorem dX0_insert_33 : decode cX0_insert 33 = .ok (.aload_n 0, 1) := by decide +kernel
theorem dX0_insert_34 : decode cX0_insert 34 = .ok (.getfield 15, 3) := by decide +kernel
theorem dX0_insert_37 : decode cX0_insert 37 = .ok (.aload_n 0, 1) := by decide +kernel
theorem dX0_insert_38 : decode cX0_insert 38 = .ok (.getfield 28, 3) := by decide +kernel
theorem dX0_insert_41 : decode cX0_insert 41 = .ok (.iload_n 3, 1) := by decide +kernel
theorem dX0_insert_42 : decode cX0_insert 42 = .ok (.iastore, 1) := by decide +kernel
theorem dX0_insert_43 : decode cX0_insert 43 = .ok (.aload_n 0, 1) := by decide +kernel
theorem dX0_insert_44 : decode cX0_insert 44 = .ok (.getfield 18, 3) := by decide +kernel
theorem dX0_insert_47 : decode cX0_insert 47 = .ok (.aload_n 0, 1) := by decide +kernel
theorem dX0_insert_48 : decode cX0_insert 48 = .ok (.getfield 28, 3) := by decide +kernel
theorem dX0_insert_51 : decode cX0_insert 51 = .ok (.lload 4, 2) := by decide +kernel
theorem dX0_insert_53 : decode cX0_insert 53 = .ok (.lastore, 1) := by decide +kernel
theorem dX0_insert_54 : decode cX0_insert 54 = .ok (.aload_n 0, 1) := by decide +kernel
theorem dX0_insert_55 : decode cX0_insert 55 = .ok (.getfield 22, 3) := by decide +kernel
theorem dX0_insert_58 : decode cX0_insert 58 = .ok (.aload_n 0, 1) := by decide +kernel
theorem dX0_insert_59 : decode cX0_insert 59 = .ok (.getfield 28, 3) := by decide +kernel
theorem dX0_insert_62 : decode cX0_insert 62 = .ok (.lload 6, 2) := by decide +kernel
theorem dX0_insert_64 : decode cX0_insert 64 = .ok (.lastore, 1) := by decide +kernel
theorem dX0_insert_65 : decode cX0_insert 65 = .ok (.aload_n 0, 1) := by decide +kernel
theorem dX0_insert_66 : decode cX0_insert 66 = .ok (.getfield 28, 3) := by decide +kernel
theorem dX0_insert_69 : decode cX0_insert 69 = .ok (.istore 8, 2) := by decide +kernel
theorem dX0_insert_71 : decode cX0_insert 71 = .ok (.iload 8, 2) := by decide +kernel
theorem dX0_insert_73 : decode cX0_insert 73 = .ok (.iload_n 1, 1) := by decide +kernel
theorem dX0_insert_74 : decode cX0_insert 74 = .ok (.if_icmp .le 25, 3) := by decide +kernel
theorem dX0_insert_77 : decode cX0_insert 77 = .ok (.aload_n 0, 1) := by decide +kernel
theorem dX0_insert_78 : decode cX0_insert 78 = .ok (.getfield 25, 3) := by decide +kernel
theorem dX0_insert_81 : decode cX0_insert 81 = .ok (.iload 8, 2) := by decide +kernel
theorem dX0_insert_83 : decode cX0_insert 83 = .ok (.aload_n 0, 1) := by decide +kernel
theorem dX0_insert_84 : decode cX0_insert 84 = .ok (.getfield 25, 3) := by decide +kernel
theorem dX0_insert_87 : decode cX0_insert 87 = .ok (.iload 8, 2) := by decide +kernel
theorem dX0_insert_89 : decode cX0_insert 89 = .ok (.iconst 1, 1) := by decide +kernel
theorem dX0_insert_90 : decode cX0_insert 90 = .ok (.isub, 1) := by decide +kernel
theorem dX0_insert_91 : decode cX0_insert 91 = .ok (.iaload, 1) := by decide +kernel
theorem dX0_insert_92 : decode cX0_insert 92 = .ok (.iastore, 1) := by decide +kernel
theorem dX0_insert_93 : decode cX0_insert 93 = .ok (.iinc 8 (-1), 3) := by decide +kernel
theorem dX0_insert_96 : decode cX0_insert 96 = .ok (.goto (-25), 3) := by decide +kernel
theorem dX0_insert_99 : decode cX0_insert 99 = .ok (.aload_n 0, 1) := by decide +kernel
theorem dX0_insert_100 : decode cX0_insert 100 = .ok (.getfield 25, 3) := by decide +kernel
theorem dX0_insert_103 : decode cX0_insert 103 = .ok (.iload_n 1, 1) := by decide +kernel
theorem dX0_insert_104 : decode cX0_insert 104 = .ok (.aload_n 0, 1) := by decide +kernel
theorem dX0_insert_105 : decode cX0_insert 105 = .ok (.getfield 28, 3) := by decide +kernel
theorem dX0_insert_108 : decode cX0_insert 108 = .ok (.iastore, 1) := by decide +kernel
theorem dX0_insert_109 : decode cX0_insert 109 = .ok (.aload_n 0, 1) := by decide +kernel
theorem dX0_insert_110 : decode cX0_insert 110 = .ok (.dup, 1) := by decide +kernel
theorem dX0_insert_111 : decode cX0_insert 111 = .ok (.getfield 28, 3) := by decide +kernel
theorem dX0_insert_114 : decode cX0_insert 114 = .ok (.iconst 1, 1) := by decide +kernel
theorem dX0_insert_115 : decode cX0_insert 115 = .ok (.iadd, 1) := by decide +kernel
theorem dX0_insert_116 : decode cX0_insert 116 = .ok (.putfield 28, 3) := by decide +kernel
theorem dX0_insert_119 : decode cX0_insert 119 = .ok (.return_, 1) := by decide +kernel
theorem dX0_removeNewest_0 : decode cX0_removeNewest 0 = .ok (.aload_n 0, 1) := by decide +kernel
theorem dX0_removeNewest_1 : decode cX0_removeNewest 1 = .ok (.getfield 28, 3) := by decide +kernel
theorem dX0_removeNewest_4 : decode cX0_removeNewest 4 = .ok (.ifCond .le 7, 3) := by decide +kernel
theorem dX0_removeNewest_7 : decode cX0_removeNewest 7 = .ok (.iload_n 1, 1) := by decide +kernel
theorem dX0_removeNewest_8 : decode cX0_removeNewest 8 = .ok (.ifCond .ge 4, 3) := by decide +kernel
theorem dX0_removeNewest_11 : decode cX0_removeNewest 11 = .ok (.return_, 1) := by decide +kernel
theorem dX0_removeNewest_12 : decode cX0_removeNewest 12 = .ok (.aload_n 0, 1) := by decide +kernel
theorem dX0_removeNewest_13 : decode cX0_removeNewest 13 = .ok (.dup, 1) := by decide +kernel
theorem dX0_removeNewest_14 : decode cX0_removeNewest 14 = .ok (.getfield 28, 3) := by decide +kernel
theorem dX0_removeNewest_17 : decode cX0_removeNewest 17 = .ok (.iconst 1, 1) := by decide +kernel
theorem dX0_removeNewest_18 : decode cX0_removeNewest 18 = .ok (.isub, 1) := by decide +kernel
theorem dX0_removeNewest_19 : decode cX0_removeNewest 19 = .ok (.putfield 28, 3) := by decide +kernel
theorem dX0_removeNewest_22 : decode cX0_removeNewest 22 = .ok (.iload_n 1, 1) := by decide +kernel
theorem dX0_removeNewest_23 : decode cX0_removeNewest 23 = .ok (.istore_n 2, 1) := by decide +kernel
theorem dX0_removeNewest_24 : decode cX0_removeNewest 24 = .ok (.iload_n 2, 1) := by decide +kernel
theorem dX0_removeNewest_25 : decode cX0_removeNewest 25 = .ok (.aload_n 0, 1) := by decide +kernel
theorem dX0_removeNewest_26 : decode cX0_removeNewest 26 = .ok (.getfield 28, 3) := by decide +kernel
theorem dX0_removeNewest_29 : decode cX0_removeNewest 29 = .ok (.if_icmp .ge 23, 3) := by decide +kernel
theorem dX0_removeNewest_32 : decode cX0_removeNewest 32 = .ok (.aload_n 0, 1) := by decide +kernel
theorem dX0_removeNewest_33 : decode cX0_removeNewest 33 = .ok (.getfield 25, 3) := by decide +kernel
theorem dX0_removeNewest_36 : decode cX0_removeNewest 36 = .ok (.iload_n 2, 1) := by decide +kernel
theorem dX0_removeNewest_37 : decode cX0_removeNewest 37 = .ok (.aload_n 0, 1) := by decide +kernel
theorem dX0_removeNewest_38 : decode cX0_removeNewest 38 = .ok (.getfield 25, 3) := by decide +kernel
theorem dX0_removeNewest_41 : decode cX0_removeNewest 41 = .ok (.iload_n 2, 1) := by decide +kernel
theorem dX0_removeNewest_42 : decode cX0_removeNewest 42 = .ok (.iconst 1, 1) := by decide +kernel
theorem dX0_removeNewest_43 : decode cX0_removeNewest 43 = .ok (.iadd, 1) := by decide +kernel
theorem dX0_removeNewest_44 : decode cX0_removeNewest 44 = .ok (.iaload, 1) := by decide +kernel
theorem dX0_removeNewest_45 : decode cX0_removeNewest 45 = .ok (.iastore, 1) := by decide +kernel
theorem dX0_removeNewest_46 : decode cX0_removeNewest 46 = .ok (.iinc 2 1, 3) := by decide +kernel
theorem dX0_removeNewest_49 : decode cX0_removeNewest 49 = .ok (.goto (-25), 3) := by decide +kernel
theorem dX0_removeNewest_52 : decode cX0_removeNewest 52 = .ok (.return_, 1) := by decide +kernel
theorem dX1_init_0 : decode cX1_init 0 = .ok (.aload_n 0, 1) := by decide +kernel
theorem dX1_init_1 : decode cX1_init 1 = .ok (.invokespecial 3, 3) := by decide +kernel
theorem dX1_init_4 : decode cX1_init 4 = .ok (.aload_n 0, 1) := by decide +kernel
theorem dX1_init_5 : decode cX1_init 5 = .ok (.bipush 48, 2) := by decide +kernel
theorem dX1_init_7 : decode cX1_init 7 = .ok (.newarray .int, 2) := by decide +kernel
theorem dX1_init_9 : decode cX1_init 9 = .ok (.putfield 9, 3) := by decide +kernel
theorem dX1_init_12 : decode cX1_init 12 = .ok (.aload_n 0, 1) := by decide +kernel
theorem dX1_init_13 : decode cX1_init 13 = .ok (.bipush 48, 2) := by decide +kernel
theorem dX1_init_15 : decode cX1_init 15 = .ok (.newarray .long, 2) := by decide +kernel
theorem dX1_init_17 : decode cX1_init 17 = .ok (.putfield 15, 3) := by decide +kernel
theorem dX1_init_20 : decode cX1_init 20 = .ok (.aload_n 0, 1) := by decide +kernel
theorem dX1_init_21 : decode cX1_init 21 = .ok (.bipush 48, 2) := by decide +kernel
theorem dX1_init_23 : decode cX1_init 23 = .ok (.newarray .long, 2) := by decide +kernel
theorem dX1_init_25 : decode cX1_init 25 = .ok (.putfield 19, 3) := by decide +kernel
theorem dX1_init_28 : decode cX1_init 28 = .ok (.aload_n 0, 1) := by decide +kernel
theorem dX1_init_29 : decode cX1_init 29 = .ok (.bipush 48, 2) := by decide +kernel
theorem dX1_init_31 : decode cX1_init 31 = .ok (.newarray .boolean, 2) := by decide +kernel
theorem dX1_init_33 : decode cX1_init 33 = .ok (.putfield 22, 3) := by decide +kernel
theorem dX1_init_36 : decode cX1_init 36 = .ok (.aload_n 0, 1) := by decide +kernel
theorem dX1_init_37 : decode cX1_init 37 = .ok (.bipush 48, 2) := by decide +kernel
theorem dX1_init_39 : decode cX1_init 39 = .ok (.newarray .int, 2) := by decide +kernel
theorem dX1_init_41 : decode cX1_init 41 = .ok (.putfield 26, 3) := by decide +kernel
theorem dX1_init_44 : decode cX1_init 44 = .ok (.aload_n 0, 1) := by decide +kernel
theorem dX1_init_45 : decode cX1_init 45 = .ok (.bipush 48, 2) := by decide +kernel
theorem dX1_init_47 : decode cX1_init 47 = .ok (.newarray .int, 2) := by decide +kernel
theorem dX1_init_49 : decode cX1_init 49 = .ok (.putfield 29, 3) := by decide +kernel
theorem dX1_init_52 : decode cX1_init 52 = .ok (.return_, 1) := by decide +kernel
theorem dX1_has_0 : decode cX1_has 0 = .ok (.iload_n 1, 1) := by decide +kernel
theorem dX1_has_1 : decode cX1_has 1 = .ok (.ifCond .lt 15, 3) := by decide +kernel
theorem dX1_has_4 : decode cX1_has 4 = .ok (.iload_n 1, 1) := by decide +kernel
theorem dX1_has_5 : decode cX1_has 5 = .ok (.aload_n 0, 1) := by decide +kernel
theorem dX1_has_6 : decode cX1_has 6 = .ok (.getfield 32, 3) := by decide +kernel
theorem dX1_has_9 : decode cX1_has 9 = .ok (.if_icmp .ge 7, 3) := by decide +kernel
theorem dX1_has_12 : decode cX1_has 12 = .ok (.iconst 1, 1) := by decide +kernel
theorem dX1_has_13 : decode cX1_has 13 = .ok (.goto 4, 3) := by decide +kernel
theorem dX1_has_16 : decode cX1_has 16 = .ok (.iconst 0, 1) := by decide +kernel
theorem dX1_has_17 : decode cX1_has 17 = .ok (.ireturn, 1) := by decide +kernel
theorem dX1_isLot_0 : decode cX1_isLot 0 = .ok (.aload_n 0, 1) := by decide +kernel
theorem dX1_isLot_1 : decode cX1_isLot 1 = .ok (.iload_n 1, 1) := by decide +kernel
theorem dX1_isLot_2 : decode cX1_isLot 2 = .ok (.invokevirtual 36, 3) := by decide +kernel
theorem dX1_isLot_5 : decode cX1_isLot 5 = .ok (.ifCond .eq 17, 3) := by decide +kernel
theorem dX1_isLot_8 : decode cX1_isLot 8 = .ok (.aload_n 0, 1) := by decide +kernel
theorem dX1_isLot_9 : decode cX1_isLot 9 = .ok (.getfield 9, 3) := by decide +kernel
theorem dX1_isLot_12 : decode cX1_isLot 12 = .ok (.iload_n 1, 1) := by decide +kernel
theorem dX1_isLot_13 : decode cX1_isLot 13 = .ok (.iaload, 1) := by decide +kernel
theorem dX1_isLot_14 : decode cX1_isLot 14 = .ok (.iconst 5, 1) := by decide +kernel
theorem dX1_isLot_15 : decode cX1_isLot 15 = .ok (.if_icmp .ne 7, 3) := by decide +kernel
theorem dX1_isLot_18 : decode cX1_isLot 18 = .ok (.iconst 1, 1) := by decide +kernel
theorem dX1_isLot_19 : decode cX1_isLot 19 = .ok (.goto 4, 3) := by decide +kernel
theorem dX1_isLot_22 : decode cX1_isLot 22 = .ok (.iconst 0, 1) := by decide +kernel
theorem dX1_isLot_23 : decode cX1_isLot 23 = .ok (.ireturn, 1) := by decide +kernel
theorem dX1_isDrain_0 : decode cX1_isDrain 0 = .ok (.aload_n 0, 1) := by decide +kernel
theorem dX1_isDrain_1 : decode cX1_isDrain 1 = .ok (.iload_n 1, 1) := by decide +kernel
theorem dX1_isDrain_2 : decode cX1_isDrain 2 = .ok (.invokevirtual 36, 3) := by decide +kernel
theorem dX1_isDrain_5 : decode cX1_isDrain 5 = .ok (.ifCond .eq 16, 3) := by decide +kernel
theorem dX1_isDrain_8 : decode cX1_isDrain 8 = .ok (.aload_n 0, 1) := by decide +kernel
theorem dX1_isDrain_9 : decode cX1_isDrain 9 = .ok (.getfield 9, 3) := by decide +kernel
theorem dX1_isDrain_12 : decode cX1_isDrain 12 = .ok (.iload_n 1, 1) := by decide +kernel
theorem dX1_isDrain_13 : decode cX1_isDrain 13 = .ok (.iaload, 1) := by decide +kernel
theorem dX1_isDrain_14 : decode cX1_isDrain 14 = .ok (.ifCond .ne 7, 3) := by decide +kernel
theorem dX1_isDrain_17 : decode cX1_isDrain 17 = .ok (.iconst 1, 1) := by decide +kernel
theorem dX1_isDrain_18 : decode cX1_isDrain 18 = .ok (.goto 4, 3) := by decide +kernel
theorem dX1_isDrain_21 : decode cX1_isDrain 21 = .ok (.iconst 0, 1) := by decide +kernel
theorem dX1_isDrain_22 : decode cX1_isDrain 22 = .ok (.ireturn, 1) := by decide +kernel
theorem dX1_canTake_0 : decode cX1_canTake 0 = .ok (.aload_n 0, 1) := by decide +kernel
theorem dX1_canTake_1 : decode cX1_canTake 1 = .ok (.iload_n 1, 1) := by decide +kernel
theorem dX1_canTake_2 : decode cX1_canTake 2 = .ok (.invokevirtual 36, 3) := by decide +kernel
theorem dX1_canTake_5 : decode cX1_canTake 5 = .ok (.ifCond .eq 17, 3) := by decide +kernel
theorem dX1_canTake_8 : decode cX1_canTake 8 = .ok (.aload_n 0, 1) := by decide +kernel
theorem dX1_canTake_9 : decode cX1_canTake 9 = .ok (.getfield 9, 3) := by decide +kernel
theorem dX1_canTake_12 : decode cX1_canTake 12 = .ok (.iload_n 1, 1) := by decide +kernel
theorem dX1_canTake_13 : decode cX1_canTake 13 = .ok (.iaload, 1) := by decide +kernel
theorem dX1_canTake_14 : decode cX1_canTake 14 = .ok (.iconst 5, 1) := by decide +kernel
theorem dX1_canTake_15 : decode cX1_canTake 15 = .ok (.if_icmp .eq 7, 3) := by decide +kernel
theorem dX1_canTake_18 : decode cX1_canTake 18 = .ok (.iconst 1, 1) := by decide +kernel
theorem dX1_canTake_19 : decode cX1_canTake 19 = .ok (.goto 4, 3) := by decide +kernel
theorem dX1_canTake_22 : decode cX1_canTake 22 = .ok (.iconst 0, 1) := by decide +kernel
theorem dX1_canTake_23 : decode cX1_canTake 23 = .ok (.ireturn, 1) := by decide +kernel
theorem dX1_add_0 : decode cX1_add 0 = .ok (.aload_n 0, 1) := by decide +kernel
theorem dX1_add_1 : decode cX1_add 1 = .ok (.getfield 32, 3) := by decide +kernel
theorem dX1_add_4 : decode cX1_add 4 = .ok (.bipush 48, 2) := by decide +kernel
theorem dX1_add_6 : decode cX1_add 6 = .ok (.if_icmp .lt 6, 3) := by decide +kernel
theorem dX1_add_9 : decode cX1_add 9 = .ok (.bipush (-2), 2) := by decide +kernel
theorem dX1_add_11 : decode cX1_add 11 = .ok (.ireturn, 1) := by decide +kernel
theorem dX1_add_12 : decode cX1_add 12 = .ok (.aload_n 0, 1) := by decide +kernel
theorem dX1_add_13 : decode cX1_add 13 = .ok (.getfield 9, 3) := by decide +kernel
theorem dX1_add_16 : decode cX1_add 16 = .ok (.aload_n 0, 1) := by decide +kernel
theorem dX1_add_17 : decode cX1_add 17 = .ok (.getfield 32, 3) := by decide +kernel
theorem dX1_add_20 : decode cX1_add 20 = .ok (.iload_n 1, 1) := by decide +kernel
theorem dX1_add_21 : decode cX1_add 21 = .ok (.iastore, 1) := by decide +kernel
theorem dX1_add_22 : decode cX1_add 22 = .ok (.aload_n 0, 1) := by decide +kernel
theorem dX1_add_23 : decode cX1_add 23 = .ok (.getfield 26, 3) := by decide +kernel
theorem dX1_add_26 : decode cX1_add 26 = .ok (.aload_n 0, 1) := by decide +kernel
theorem dX1_add_27 : decode cX1_add 27 = .ok (.getfield 32, 3) := by decide +kernel
theorem dX1_add_30 : decode cX1_add 30 = .ok (.iconst (-1), 1) := by decide +kernel
theorem dX1_add_31 : decode cX1_add 31 = .ok (.iastore, 1) := by decide +kernel
theorem dX1_add_32 : decode cX1_add 32 = .ok (.aload_n 0, 1) := by decide +kernel
theorem dX1_add_33 : decode cX1_add 33 = .ok (.dup, 1) := by decide +kernel
theorem dX1_add_34 : decode cX1_add 34 = .ok (.getfield 32, 3) := by decide +kernel
theorem dX1_add_37 : decode cX1_add 37 = .ok (.iconst 1, 1) := by decide +kernel
theorem dX1_add_38 : decode cX1_add 38 = .ok (.iadd, 1) := by decide +kernel
theorem dX1_add_39 : decode cX1_add 39 = .ok (.putfield 32, 3) := by decide +kernel
theorem dX1_add_42 : decode cX1_add 42 = .ok (.aload_n 0, 1) := by decide +kernel
theorem dX1_add_43 : decode cX1_add 43 = .ok (.getfield 32, 3) := by decide +kernel
theorem dX1_add_46 : decode cX1_add 46 = .ok (.iconst 1, 1) := by decide +kernel
theorem dX1_add_47 : decode cX1_add 47 = .ok (.isub, 1) := by decide +kernel
theorem dX1_add_48 : decode cX1_add 48 = .ok (.ireturn, 1) := by decide +kernel
theorem dX1_addLot_0 : decode cX1_addLot 0 = .ok (.aload_n 0, 1) := by decide +kernel
theorem dX1_addLot_1 : decode cX1_addLot 1 = .ok (.iconst 5, 1) := by decide +kernel
theorem dX1_addLot_2 : decode cX1_addLot 2 = .ok (.invokevirtual 40, 3) := by decide +kernel
theorem dX1_addLot_5 : decode cX1_addLot 5 = .ok (.istore 5, 2) := by decide +kernel
theorem dX1_addLot_7 : decode cX1_addLot 7 = .ok (.iload 5, 2) := by decide +kernel
theorem dX1_addLot_9 : decode cX1_addLot 9 = .ok (.ifCond .ge 6, 3) := by decide +kernel
theorem dX1_addLot_12 : decode cX1_addLot 12 = .ok (.iload 5, 2) := by decide +kernel
theorem dX1_addLot_14 : decode cX1_addLot 14 = .ok (.ireturn, 1) := by decide +kernel
theorem dX1_addLot_15 : decode cX1_addLot 15 = .ok (.aload_n 0, 1) := by decide +kernel
theorem dX1_addLot_16 : decode cX1_addLot 16 = .ok (.getfield 15, 3) := by decide +kernel
theorem dX1_addLot_19 : decode cX1_addLot 19 = .ok (.iload 5, 2) := by decide +kernel
theorem dX1_addLot_21 : decode cX1_addLot 21 = .ok (.lload_n 1, 1) := by decide +kernel
theorem dX1_addLot_22 : decode cX1_addLot 22 = .ok (.lastore, 1) := by decide +kernel
theorem dX1_addLot_23 : decode cX1_addLot 23 = .ok (.aload_n 0, 1) := by decide +kernel
theorem dX1_addLot_24 : decode cX1_addLot 24 = .ok (.getfield 19, 3) := by decide +kernel
theorem dX1_addLot_27 : decode cX1_addLot 27 = .ok (.iload 5, 2) := by decide +kernel
theorem dX1_addLot_29 : decode cX1_addLot 29 = .ok (.lload_n 3, 1) := by decide +kernel
theorem dX1_addLot_30 : decode cX1_addLot 30 = .ok (.lastore, 1) := by decide +kernel
theorem dX1_addLot_31 : decode cX1_addLot 31 = .ok (.aload_n 0, 1) := by decide +kernel
theorem dX1_addLot_32 : decode cX1_addLot 32 = .ok (.getfield 44, 3) := by decide +kernel
theorem dX1_addLot_35 : decode cX1_addLot 35 = .ok (.istore 6, 2) := by decide +kernel
theorem dX1_addLot_37 : decode cX1_addLot 37 = .ok (.iload 6, 2) := by decide +kernel
theorem dX1_addLot_39 : decode cX1_addLot 39 = .ok (.ifCond .le 44, 3) := by decide +kernel
theorem dX1_addLot_42 : decode cX1_addLot 42 = .ok (.aload_n 0, 1) := by decide +kernel
theorem dX1_addLot_43 : decode cX1_addLot 43 = .ok (.getfield 19, 3) := by decide +kernel
theorem dX1_addLot_46 : decode cX1_addLot 46 = .ok (.aload_n 0, 1) := by decide +kernel
theorem dX1_addLot_47 : decode cX1_addLot 47 = .ok (.getfield 29, 3) := by decide +kernel
theorem dX1_addLot_50 : decode cX1_addLot 50 = .ok (.iload 6, 2) := by decide +kernel
theorem dX1_addLot_52 : decode cX1_addLot 52 = .ok (.iconst 1, 1) := by decide +kernel
theorem dX1_addLot_53 : decode cX1_addLot 53 = .ok (.isub, 1) := by decide +kernel
theorem dX1_addLot_54 : decode cX1_addLot 54 = .ok (.iaload, 1) := by decide +kernel
theorem dX1_addLot_55 : decode cX1_addLot 55 = .ok (.laload, 1) := by decide +kernel
theorem dX1_addLot_56 : decode cX1_addLot 56 = .ok (.lload_n 3, 1) := by decide +kernel
theorem dX1_addLot_57 : decode cX1_addLot 57 = .ok (.lcmp, 1) := by decide +kernel
theorem dX1_addLot_58 : decode cX1_addLot 58 = .ok (.ifCond .le 25, 3) := by decide +kernel
theorem dX1_addLot_61 : decode cX1_addLot 61 = .ok (.aload_n 0, 1) := by decide +kernel
theorem dX1_addLot_62 : decode cX1_addLot 62 = .ok (.getfield 29, 3) := by decide +kernel
theorem dX1_addLot_65 : decode cX1_addLot 65 = .ok (.iload 6, 2) := by decide +kernel
theorem dX1_addLot_67 : decode cX1_addLot 67 = .ok (.aload_n 0, 1) := by decide +kernel
theorem dX1_addLot_68 : decode cX1_addLot 68 = .ok (.getfield 29, 3) := by decide +kernel
theorem dX1_addLot_71 : decode cX1_addLot 71 = .ok (.iload 6, 2) := by decide +kernel
theorem dX1_addLot_73 : decode cX1_addLot 73 = .ok (.iconst 1, 1) := by decide +kernel
theorem dX1_addLot_74 : decode cX1_addLot 74 = .ok (.isub, 1) := by decide +kernel
theorem dX1_addLot_75 : decode cX1_addLot 75 = .ok (.iaload, 1) := by decide +kernel
theorem dX1_addLot_76 : decode cX1_addLot 76 = .ok (.iastore, 1) := by decide +kernel
theorem dX1_addLot_77 : decode cX1_addLot 77 = .ok (.iinc 6 (-1), 3) := by decide +kernel
theorem dX1_addLot_80 : decode cX1_addLot 80 = .ok (.goto (-43), 3) := by decide +kernel
theorem dX1_addLot_83 : decode cX1_addLot 83 = .ok (.aload_n 0, 1) := by decide +kernel
theorem dX1_addLot_84 : decode cX1_addLot 84 = .ok (.getfield 29, 3) := by decide +kernel
theorem dX1_addLot_87 : decode cX1_addLot 87 = .ok (.iload 6, 2) := by decide +kernel
theorem dX1_addLot_89 : decode cX1_addLot 89 = .ok (.iload 5, 2) := by decide +kernel
theorem dX1_addLot_91 : decode cX1_addLot 91 = .ok (.iastore, 1) := by decide +kernel
theorem dX1_addLot_92 : decode cX1_addLot 92 = .ok (.aload_n 0, 1) := by decide +kernel
theorem dX1_addLot_93 : decode cX1_addLot 93 = .ok (.dup, 1) := by decide +kernel
theorem dX1_addLot_94 : decode cX1_addLot 94 = .ok (.getfield 44, 3) := by decide +kernel
theorem dX1_addLot_97 : decode cX1_addLot 97 = .ok (.iconst 1, 1) := by decide +kernel
theorem dX1_addLot_98 : decode cX1_addLot 98 = .ok (.iadd, 1) := by decide +kernel
theorem dX1_addLot_99 : decode cX1_addLot 99 = .ok (.putfield 44, 3) := by decide +kernel
theorem dX1_addLot_102 : decode cX1_addLot 102 = .ok (.iload 5, 2) := by decide +kernel
theorem dX1_addLot_104 : decode cX1_addLot 104 = .ok (.ireturn, 1) := by decide +kernel
theorem dX2_init_0 : decode cX2_init 0 = .ok (.aload_n 0, 1) := by decide +kernel
theorem dX2_init_1 : decode cX2_init 1 = .ok (.invokespecial 3, 3) := by decide +kernel
theorem dX2_init_4 : decode cX2_init 4 = .ok (.aload_n 0, 1) := by decide +kernel
theorem dX2_init_5 : decode cX2_init 5 = .ok (.bipush 48, 2) := by decide +kernel
theorem dX2_init_7 : decode cX2_init 7 = .ok (.newarray .int, 2) := by decide +kernel
theorem dX2_init_9 : decode cX2_init 9 = .ok (.putfield 9, 3) := by decide +kernel
theorem dX2_init_12 : decode cX2_init 12 = .ok (.aload_n 0, 1) := by decide +kernel
theorem dX2_init_13 : decode cX2_init 13 = .ok (.bipush 48, 2) := by decide +kernel
theorem dX2_init_15 : decode cX2_init 15 = .ok (.newarray .long, 2) := by decide +kernel
theorem dX2_init_17 : decode cX2_init 17 = .ok (.putfield 15, 3) := by decide +kernel
theorem dX2_init_20 : decode cX2_init 20 = .ok (.aload_n 0, 1) := by decide +kernel
theorem dX2_init_21 : decode cX2_init 21 = .ok (.bipush 48, 2) := by decide +kernel
theorem dX2_init_23 : decode cX2_init 23 = .ok (.newarray .int, 2) := by decide +kernel
theorem dX2_init_25 : decode cX2_init 25 = .ok (.putfield 19, 3) := by decide +kernel
theorem dX2_init_28 : decode cX2_init 28 = .ok (.return_, 1) := by decide +kernel
theorem dX2_enter_0 : decode cX2_enter 0 = .ok (.iconst 0, 1) := by decide +kernel
theorem dX2_enter_1 : decode cX2_enter 1 = .ok (.istore 4, 2) := by decide +kernel
theorem dX2_enter_3 : decode cX2_enter 3 = .ok (.iload 4, 2) := by decide +kernel
theorem dX2_enter_5 : decode cX2_enter 5 = .ok (.aload_n 0, 1) := by decide +kernel
theorem dX2_enter_6 : decode cX2_enter 6 = .ok (.getfield 22, 3) := by decide +kernel
theorem dX2_enter_9 : decode cX2_enter 9 = .ok (.if_icmp .ge 20, 3) := by decide +kernel
theorem dX2_enter_12 : decode cX2_enter 12 = .ok (.aload_n 0, 1) := by decide +kernel
theorem dX2_enter_13 : decode cX2_enter 13 = .ok (.getfield 9, 3) := by decide +kernel
theorem dX2_enter_16 : decode cX2_enter 16 = .ok (.iload 4, 2) := by decide +kernel
theorem dX2_enter_18 : decode cX2_enter 18 = .ok (.iaload, 1) := by decide +kernel
theorem dX2_enter_19 : decode cX2_enter 19 = .ok (.iload_n 1, 1) := by decide +kernel
theorem dX2_enter_20 : decode cX2_enter 20 = .ok (.if_icmp .ge 9, 3) := by decide +kernel
theorem dX2_enter_23 : decode cX2_enter 23 = .ok (.iinc 4 1, 3) := by decide +kernel
theorem dX2_enter_26 : decode cX2_enter 26 = .ok (.goto (-23), 3) := by decide +kernel
theorem dX2_enter_29 : decode cX2_enter 29 = .ok (.iload 4, 2) := by decide +kernel
theorem dX2_enter_31 : decode cX2_enter 31 = .ok (.aload_n 0, 1) := by decide +kernel
theorem dX2_enter_32 : decode cX2_enter 32 = .ok (.getfield 22, 3) := by decide +kernel
theorem dX2_enter_35 : decode cX2_enter 35 = .ok (.if_icmp .ge 39, 3) := by decide +kernel
theorem dX2_enter_38 : decode cX2_enter 38 = .ok (.aload_n 0, 1) := by decide +kernel
theorem dX2_enter_39 : decode cX2_enter 39 = .ok (.getfield 9, 3) := by decide +kernel
theorem dX2_enter_42 : decode cX2_enter 42 = .ok (.iload 4, 2) := by decide +kernel
theorem dX2_enter_44 : decode cX2_enter 44 = .ok (.iaload, 1) := by decide +kernel
theorem dX2_enter_45 : decode cX2_enter 45 = .ok (.iload_n 1, 1) := by decide +kernel
theorem dX2_enter_46 : decode cX2_enter 46 = .ok (.if_icmp .ne 28, 3) := by decide +kernel
theorem dX2_enter_49 : decode cX2_enter 49 = .ok (.aload_n 0, 1) := by decide +kernel
theorem dX2_enter_50 : decode cX2_enter 50 = .ok (.getfield 15, 3) := by decide +kernel
theorem dX2_enter_53 : decode cX2_enter 53 = .ok (.iload 4, 2) := by decide +kernel
theorem dX2_enter_55 : decode cX2_enter 55 = .ok (.dup2, 1) := by decide +kernel
theorem dX2_enter_56 : decode cX2_enter 56 = .ok (.laload, 1) := by decide +kernel
theorem dX2_enter_57 : decode cX2_enter 57 = .ok (.lload_n 2, 1) := by decide +kernel
theorem dX2_enter_58 : decode cX2_enter 58 = .ok (.ladd, 1) := by decide +kernel
theorem dX2_enter_59 : decode cX2_enter 59 = .ok (.lastore, 1) := by decide +kernel
theorem dX2_enter_60 : decode cX2_enter 60 = .ok (.aload_n 0, 1) := by decide +kernel
theorem dX2_enter_61 : decode cX2_enter 61 = .ok (.getfield 19, 3) := by decide +kernel
theorem dX2_enter_64 : decode cX2_enter 64 = .ok (.iload 4, 2) := by decide +kernel
theorem dX2_enter_66 : decode cX2_enter 66 = .ok (.dup2, 1) := by decide +kernel
theorem dX2_enter_67 : decode cX2_enter 67 = .ok (.iaload, 1) := by decide +kernel
theorem dX2_enter_68 : decode cX2_enter 68 = .ok (.iconst 1, 1) := by decide +kernel
theorem dX2_enter_69 : decode cX2_enter 69 = .ok (.iadd, 1) := by decide +kernel
theorem dX2_enter_70 : decode cX2_enter 70 = .ok (.iastore, 1) := by decide +kernel
theorem dX2_enter_71 : decode cX2_enter 71 = .ok (.goto 11, 3) := by decide +kernel
theorem dX2_enter_74 : decode cX2_enter 74 = .ok (.aload_n 0, 1) := by decide +kernel
theorem dX2_enter_75 : decode cX2_enter 75 = .ok (.iload 4, 2) := by decide +kernel
theorem dX2_enter_77 : decode cX2_enter 77 = .ok (.iload_n 1, 1) := by decide +kernel
theorem dX2_enter_78 : decode cX2_enter 78 = .ok (.lload_n 2, 1) := by decide +kernel
theorem dX2_enter_79 : decode cX2_enter 79 = .ok (.invokevirtual 26, 3) := by decide +kernel
theorem dX2_enter_82 : decode cX2_enter 82 = .ok (.return_, 1) := by decide +kernel
theorem dX2_insert_0 : decode cX2_insert 0 = .ok (.aload_n 0, 1) := by decide +kernel
theorem dX2_insert_1 : decode cX2_insert 1 = .ok (.getfield 22, 3) := by decide +kernel
theorem dX2_insert_4 : decode cX2_insert 4 = .ok (.bipush 48, 2) := by decide +kernel
theorem dX2_insert_6 : decode cX2_insert 6 = .ok (.if_icmp .lt 4, 3) := by decide +kernel
theorem dX2_insert_9 : decode cX2_insert 9 = .ok (.return_, 1) := by decide +kernel
theorem dX2_insert_10 : decode cX2_insert 10 = .ok (.aload_n 0, 1) := by decide +kernel
theorem dX2_insert_11 : decode cX2_insert 11 = .ok (.getfield 22, 3) := by decide +kernel
theorem dX2_insert_14 : decode cX2_insert 14 = .ok (.istore 5, 2) := by decide +kernel
theorem dX2_insert_16 : decode cX2_insert 16 = .ok (.iload 5, 2) := by decide +kernel
theorem dX2_insert_18 : decode cX2_insert 18 = .ok (.iload_n 1, 1) := by decide +kernel
theorem dX2_insert_19 : decode cX2_insert 19 = .ok (.if_icmp .le 57, 3) := by decide +kernel
theorem dX2_insert_22 : decode cX2_insert 22 = .ok (.aload_n 0, 1) := by decide +kernel
theorem dX2_insert_23 : decode cX2_insert 23 = .ok (.getfield 9, 3) := by decide +kernel
theorem dX2_insert_26 : decode cX2_insert 26 = .ok (.iload 5, 2) := by decide +kernel
theorem dX2_insert_28 : decode cX2_insert 28 = .ok (.aload_n 0, 1) := by decide +kernel
theorem dX2_insert_29 : decode cX2_insert 29 = .ok (.getfield 9, 3) := by decide +kernel
theorem dX2_insert_32 : decode cX2_insert 32 = .ok (.iload 5, 2) := by decide +kernel
theorem dX2_insert_34 : decode cX2_insert 34 = .ok (.iconst 1, 1) := by decide +kernel
theorem dX2_insert_35 : decode cX2_insert 35 = .ok (.isub, 1) := by decide +kernel
theorem dX2_insert_36 : decode cX2_insert 36 = .ok (.iaload, 1) := by decide +kernel
theorem dX2_insert_37 : decode cX2_insert 37 = .ok (.iastore, 1) := by decide +kernel
theorem dX2_insert_38 : decode cX2_insert 38 = .ok (.aload_n 0, 1) := by decide +kernel
theorem dX2_insert_39 : decode cX2_insert 39 = .ok (.getfield 15, 3) := by decide +kernel
theorem dX2_insert_42 : decode cX2_insert 42 = .ok (.iload 5, 2) := by decide +kernel
theorem dX2_insert_44 : decode cX2_insert 44 = .ok (.aload_n 0, 1) := by decide +kernel
theorem dX2_insert_45 : decode cX2_insert 45 = .ok (.getfield 15, 3) := by decide +kernel
theorem dX2_insert_48 : decode cX2_insert 48 = .ok (.iload 5, 2) := by decide +kernel
theorem dX2_insert_50 : decode cX2_insert 50 = .ok (.iconst 1, 1) := by decide +kernel
theorem dX2_insert_51 : decode cX2_insert 51 = .ok (.isub, 1) := by decide +kernel
theorem dX2_insert_52 : decode cX2_insert 52 = .ok (.laload, 1) := by decide +kernel
theorem dX2_insert_53 : decode cX2_insert 53 = .ok (.lastore, 1) := by decide +kernel
theorem dX2_insert_54 : decode cX2_insert 54 = .ok (.aload_n 0, 1) := by decide +kernel
theorem dX2_insert_55 : decode cX2_insert 55 = .ok (.getfield 19, 3) := by decide +kernel
theorem dX2_insert_58 : decode cX2_insert 58 = .ok (.iload 5, 2) := by decide +kernel
theorem dX2_insert_60 : decode cX2_insert 60 = .ok (.aload_n 0, 1) := by decide +kernel
theorem dX2_insert_61 : decode cX2_insert 61 = .ok (.getfield 19, 3) := by decide +kernel
theorem dX2_insert_64 : decode cX2_insert 64 = .ok (.iload 5, 2) := by decide +kernel
theorem dX2_insert_66 : decode cX2_insert 66 = .ok (.iconst 1, 1) := by decide +kernel
theorem dX2_insert_67 : decode cX2_insert 67 = .ok (.isub, 1) := by decide +kernel
theorem dX2_insert_68 : decode cX2_insert 68 = .ok (.iaload, 1) := by decide +kernel
theorem dX2_insert_69 : decode cX2_insert 69 = .ok (.iastore, 1) := by decide +kernel
theorem dX2_insert_70 : decode cX2_insert 70 = .ok (.iinc 5 (-1), 3) := by decide +kernel
theorem dX2_insert_73 : decode cX2_insert 73 = .ok (.goto (-57), 3) := by decide +kernel
theorem dX2_insert_76 : decode cX2_insert 76 = .ok (.aload_n 0, 1) := by decide +kernel
theorem dX2_insert_77 : decode cX2_insert 77 = .ok (.getfield 9, 3) := by decide +kernel
theorem dX2_insert_80 : decode cX2_insert 80 = .ok (.iload_n 1, 1) := by decide +kernel
theorem dX2_insert_81 : decode cX2_insert 81 = .ok (.iload_n 2, 1) := by decide +kernel
theorem dX2_insert_82 : decode cX2_insert 82 = .ok (.iastore, 1) := by decide +kernel
theorem dX2_insert_83 : decode cX2_insert 83 = .ok (.aload_n 0, 1) := by decide +kernel
theorem dX2_insert_84 : decode cX2_insert 84 = .ok (.getfield 15, 3) := by decide +kernel
theorem dX2_insert_87 : decode cX2_insert 87 = .ok (.iload_n 1, 1) := by decide +kernel
theorem dX2_insert_88 : decode cX2_insert 88 = .ok (.lload_n 3, 1) := by decide +kernel
theorem dX2_insert_89 : decode cX2_insert 89 = .ok (.lastore, 1) := by decide +kernel
theorem dX2_insert_90 : decode cX2_insert 90 = .ok (.aload_n 0, 1) := by decide +kernel
theorem dX2_insert_91 : decode cX2_insert 91 = .ok (.getfield 19, 3) := by decide +kernel
theorem dX2_insert_94 : decode cX2_insert 94 = .ok (.iload_n 1, 1) := by decide +kernel
theorem dX2_insert_95 : decode cX2_insert 95 = .ok (.iconst 1, 1) := by decide +kernel
theorem dX2_insert_96 : decode cX2_insert 96 = .ok (.iastore, 1) := by decide +kernel
theorem dX2_insert_97 : decode cX2_insert 97 = .ok (.aload_n 0, 1) := by decide +kernel
theorem dX2_insert_98 : decode cX2_insert 98 = .ok (.dup, 1) := by decide +kernel
theorem dX2_insert_99 : decode cX2_insert 99 = .ok (.getfield 22, 3) := by decide +kernel
theorem dX2_insert_102 : decode cX2_insert 102 = .ok (.iconst 1, 1) := by decide +kernel
theorem dX2_insert_103 : decode cX2_insert 103 = .ok (.iadd, 1) := by decide +kernel
theorem dX2_insert_104 : decode cX2_insert 104 = .ok (.putfield 22, 3) := by decide +kernel
theorem dX2_insert_107 : decode cX2_insert 107 = .ok (.return_, 1) := by decide +kernel
theorem dX3_init_0 : decode cX3_init 0 = .ok (.aload_n 0, 1) := by decide +kernel
theorem dX3_init_1 : decode cX3_init 1 = .ok (.invokespecial 3, 3) := by decide +kernel
theorem dX3_init_4 : decode cX3_init 4 = .ok (.aload_n 0, 1) := by decide +kernel
theorem dX3_init_5 : decode cX3_init 5 = .ok (.sipush 2304, 3) := by decide +kernel
theorem dX3_init_8 : decode cX3_init 8 = .ok (.newarray .long, 2) := by decide +kernel
theorem dX3_init_10 : decode cX3_init 10 = .ok (.putfield 9, 3) := by decide +kernel
theorem dX3_init_13 : decode cX3_init 13 = .ok (.aload_n 0, 1) := by decide +kernel
theorem dX3_init_14 : decode cX3_init 14 = .ok (.bipush 48, 2) := by decide +kernel
theorem dX3_init_16 : decode cX3_init 16 = .ok (.newarray .long, 2) := by decide +kernel
theorem dX3_init_18 : decode cX3_init 18 = .ok (.putfield 15, 3) := by decide +kernel
theorem dX3_init_21 : decode cX3_init 21 = .ok (.aload_n 0, 1) := by decide +kernel
theorem dX3_init_22 : decode cX3_init 22 = .ok (.bipush 48, 2) := by decide +kernel
theorem dX3_init_24 : decode cX3_init 24 = .ok (.newarray .long, 2) := by decide +kernel
theorem dX3_init_26 : decode cX3_init 26 = .ok (.putfield 18, 3) := by decide +kernel
theorem dX3_init_29 : decode cX3_init 29 = .ok (.aload_n 0, 1) := by decide +kernel
theorem dX3_init_30 : decode cX3_init 30 = .ok (.bipush 48, 2) := by decide +kernel
theorem dX3_init_32 : decode cX3_init 32 = .ok (.newarray .long, 2) := by decide +kernel
theorem dX3_init_34 : decode cX3_init 34 = .ok (.putfield 21, 3) := by decide +kernel
theorem dX3_init_37 : decode cX3_init 37 = .ok (.aload_n 0, 1) := by decide +kernel
theorem dX3_init_38 : decode cX3_init 38 = .ok (.bipush 48, 2) := by decide +kernel
theorem dX3_init_40 : decode cX3_init 40 = .ok (.newarray .long, 2) := by decide +kernel
theorem dX3_init_42 : decode cX3_init 42 = .ok (.putfield 24, 3) := by decide +kernel
theorem dX3_init_45 : decode cX3_init 45 = .ok (.aload_n 0, 1) := by decide +kernel
theorem dX3_init_46 : decode cX3_init 46 = .ok (.bipush 48, 2) := by decide +kernel
theorem dX3_init_48 : decode cX3_init 48 = .ok (.newarray .int, 2) := by decide +kernel
theorem dX3_init_50 : decode cX3_init 50 = .ok (.putfield 27, 3) := by decide +kernel
theorem dX3_init_53 : decode cX3_init 53 = .ok (.aload_n 0, 1) := by decide +kernel
theorem dX3_init_54 : decode cX3_init 54 = .ok (.bipush 48, 2) := by decide +kernel
theorem dX3_init_56 : decode cX3_init 56 = .ok (.newarray .long, 2) := by decide +kernel
theorem dX3_init_58 : decode cX3_init 58 = .ok (.putfield 31, 3) := by decide +kernel
theorem dX3_init_61 : decode cX3_init 61 = .ok (.aload_n 0, 1) := by decide +kernel
theorem dX3_init_62 : decode cX3_init 62 = .ok (.bipush 48, 2) := by decide +kernel
theorem dX3_init_64 : decode cX3_init 64 = .ok (.newarray .long, 2) := by decide +kernel
theorem dX3_init_66 : decode cX3_init 66 = .ok (.putfield 34, 3) := by decide +kernel
theorem dX3_init_69 : decode cX3_init 69 = .ok (.aload_n 0, 1) := by decide +kernel
theorem dX3_init_70 : decode cX3_init 70 = .ok (.aload_n 1, 1) := by decide +kernel
theorem dX3_init_71 : decode cX3_init 71 = .ok (.putfield 37, 3) := by decide +kernel
theorem dX3_init_74 : decode cX3_init 74 = .ok (.return_, 1) := by decide +kernel
theorem dX3_unitsIn_0 : decode cX3_unitsIn 0 = .ok (.aload_n 0, 1) := by decide +kernel
theorem dX3_unitsIn_1 : decode cX3_unitsIn 1 = .ok (.getfield 15, 3) := by decide +kernel
theorem dX3_unitsIn_4 : decode cX3_unitsIn 4 = .ok (.iload_n 1, 1) := by decide +kernel
theorem dX3_unitsIn_5 : decode cX3_unitsIn 5 = .ok (.laload, 1) := by decide +kernel
theorem dX3_unitsIn_6 : decode cX3_unitsIn 6 = .ok (.aload_n 0, 1) := by decide +kernel
theorem dX3_unitsIn_7 : decode cX3_unitsIn 7 = .ok (.getfield 18, 3) := by decide +kernel
theorem dX3_unitsIn_10 : decode cX3_unitsIn 10 = .ok (.iload_n 1, 1) := by decide +kernel
theorem dX3_unitsIn_11 : decode cX3_unitsIn 11 = .ok (.laload, 1) := by decide +kernel
theorem dX3_unitsIn_12 : decode cX3_unitsIn 12 = .ok (.lsub, 1) := by decide +kernel
theorem dX3_unitsIn_13 : decode cX3_unitsIn 13 = .ok (.lreturn, 1) := by decide +kernel
theorem dX3_unitsOf_0 : decode cX3_unitsOf 0 = .ok (.aload_n 0, 1) := by decide +kernel
theorem dX3_unitsOf_1 : decode cX3_unitsOf 1 = .ok (.getfield 9, 3) := by decide +kernel
theorem dX3_unitsOf_4 : decode cX3_unitsOf 4 = .ok (.iload_n 1, 1) := by decide +kernel
theorem dX3_unitsOf_5 : decode cX3_unitsOf 5 = .ok (.bipush 48, 2) := by decide +kernel
theorem dX3_unitsOf_7 : decode cX3_unitsOf 7 = .ok (.imul, 1) := by decide +kernel
theorem dX3_unitsOf_8 : decode cX3_unitsOf 8 = .ok (.iload_n 2, 1) := by decide +kernel
theorem dX3_unitsOf_9 : decode cX3_unitsOf 9 = .ok (.iadd, 1) := by decide +kernel
theorem dX3_unitsOf_10 : decode cX3_unitsOf 10 = .ok (.laload, 1) := by decide +kernel
theorem dX3_unitsOf_11 : decode cX3_unitsOf 11 = .ok (.lreturn, 1) := by decide +kernel
theorem dX3_hasReached_0 : decode cX3_hasReached 0 = .ok (.aload_n 0, 1) := by decide +kernel
theorem dX3_hasReached_1 : decode cX3_hasReached 1 = .ok (.getfield 24, 3) := by decide +kernel
theorem dX3_hasReached_4 : decode cX3_hasReached 4 = .ok (.iload_n 2, 1) := by decide +kernel
theorem dX3_hasReached_5 : decode cX3_hasReached 5 = .ok (.laload, 1) := by decide +kernel
theorem dX3_hasReached_6 : decode cX3_hasReached 6 = .ok (.lconst 1, 1) := by decide +kernel
theorem dX3_hasReached_7 : decode cX3_hasReached 7 = .ok (.iload_n 1, 1) := by decide +kernel
theorem dX3_hasReached_8 : decode cX3_hasReached 8 = .ok (.lshl, 1) := by decide +kernel
theorem dX3_hasReached_9 : decode cX3_hasReached 9 = .ok (.land, 1) := by decide +kernel
theorem dX3_hasReached_10 : decode cX3_hasReached 10 = .ok (.lconst 0, 1) := by decide +kernel
theorem dX3_hasReached_11 : decode cX3_hasReached 11 = .ok (.lcmp, 1) := by decide +kernel
theorem dX3_hasReached_12 : decode cX3_hasReached 12 = .ok (.ifCond .eq 7, 3) := by decide +kernel
theorem dX3_hasReached_15 : decode cX3_hasReached 15 = .ok (.iconst 1, 1) := by decide +kernel
theorem dX3_hasReached_16 : decode cX3_hasReached 16 = .ok (.goto 4, 3) := by decide +kernel
theorem dX3_hasReached_19 : decode cX3_hasReached 19 = .ok (.iconst 0, 1) := by decide +kernel
theorem dX3_hasReached_20 : decode cX3_hasReached 20 = .ok (.ireturn, 1) := by decide +kernel
theorem dX3_sumOfLots_0 : decode cX3_sumOfLots 0 = .ok (.lconst 0, 1) := by decide +kernel
theorem dX3_sumOfLots_1 : decode cX3_sumOfLots 1 = .ok (.lstore_n 2, 1) := by decide +kernel
theorem dX3_sumOfLots_2 : decode cX3_sumOfLots 2 = .ok (.iconst 0, 1) := by decide +kernel
theorem dX3_sumOfLots_3 : decode cX3_sumOfLots 3 = .ok (.istore 4, 2) := by decide +kernel
theorem dX3_sumOfLots_5 : decode cX3_sumOfLots 5 = .ok (.iload 4, 2) := by decide +kernel
theorem dX3_sumOfLots_7 : decode cX3_sumOfLots 7 = .ok (.aload_n 0, 1) := by decide +kernel
theorem dX3_sumOfLots_8 : decode cX3_sumOfLots 8 = .ok (.getfield 37, 3) := by decide +kernel
theorem dX3_sumOfLots_11 : decode cX3_sumOfLots 11 = .ok (.getfield 41, 3) := by decide +kernel
theorem dX3_sumOfLots_14 : decode cX3_sumOfLots 14 = .ok (.if_icmp .ge 19, 3) := by decide +kernel
theorem dX3_sumOfLots_17 : decode cX3_sumOfLots 17 = .ok (.lload_n 2, 1) := by decide +kernel
theorem dX3_sumOfLots_18 : decode cX3_sumOfLots 18 = .ok (.aload_n 0, 1) := by decide +kernel
theorem dX3_sumOfLots_19 : decode cX3_sumOfLots 19 = .ok (.iload_n 1, 1) := by decide +kernel
theorem dX3_sumOfLots_20 : decode cX3_sumOfLots 20 = .ok (.iload 4, 2) := by decide +kernel
theorem dX3_sumOfLots_22 : decode cX3_sumOfLots 22 = .ok (.invokevirtual 47, 3) := by decide +kernel
theorem dX3_sumOfLots_25 : decode cX3_sumOfLots 25 = .ok (.ladd, 1) := by decide +kernel
theorem dX3_sumOfLots_26 : decode cX3_sumOfLots 26 = .ok (.lstore_n 2, 1) := by decide +kernel
theorem dX3_sumOfLots_27 : decode cX3_sumOfLots 27 = .ok (.iinc 4 1, 3) := by decide +kernel
theorem dX3_sumOfLots_30 : decode cX3_sumOfLots 30 = .ok (.goto (-25), 3) := by decide +kernel
theorem dX3_sumOfLots_33 : decode cX3_sumOfLots 33 = .ok (.lload_n 2, 1) := by decide +kernel
theorem dX3_sumOfLots_34 : decode cX3_sumOfLots 34 = .ok (.lreturn, 1) := by decide +kernel
theorem dX3_admit_0 : decode cX3_admit 0 = .ok (.aload_n 0, 1) := by decide +kernel
theorem dX3_admit_1 : decode cX3_admit 1 = .ok (.getfield 9, 3) := by decide +kernel
theorem dX3_admit_4 : decode cX3_admit 4 = .ok (.iload_n 1, 1) := by decide +kernel
theorem dX3_admit_5 : decode cX3_admit 5 = .ok (.bipush 48, 2) := by decide +kernel
theorem dX3_admit_7 : decode cX3_admit 7 = .ok (.imul, 1) := by decide +kernel
theorem dX3_admit_8 : decode cX3_admit 8 = .ok (.iload_n 1, 1) := by decide +kernel
theorem dX3_admit_9 : decode cX3_admit 9 = .ok (.iadd, 1) := by decide +kernel
theorem dX3_admit_10 : decode cX3_admit 10 = .ok (.aload_n 0, 1) := by decide +kernel
theorem dX3_admit_11 : decode cX3_admit 11 = .ok (.getfield 37, 3) := by decide +kernel
theorem dX3_admit_14 : decode cX3_admit 14 = .ok (.getfield 51, 3) := by decide +kernel
theorem dX3_admit_17 : decode cX3_admit 17 = .ok (.iload_n 1, 1) := by decide +kernel
theorem dX3_admit_18 : decode cX3_admit 18 = .ok (.laload, 1) := by decide +kernel
theorem dX3_admit_19 : decode cX3_admit 19 = .ok (.lastore, 1) := by decide +kernel
theorem dX3_admit_20 : decode cX3_admit 20 = .ok (.aload_n 0, 1) := by decide +kernel
theorem dX3_admit_21 : decode cX3_admit 21 = .ok (.getfield 15, 3) := by decide +kernel
theorem dX3_admit_24 : decode cX3_admit 24 = .ok (.iload_n 1, 1) := by decide +kernel
theorem dX3_admit_25 : decode cX3_admit 25 = .ok (.aload_n 0, 1) := by decide +kernel
theorem dX3_admit_26 : decode cX3_admit 26 = .ok (.getfield 37, 3) := by decide +kernel
theorem dX3_admit_29 : decode cX3_admit 29 = .ok (.getfield 51, 3) := by decide +kernel
theorem dX3_admit_32 : decode cX3_admit 32 = .ok (.iload_n 1, 1) := by decide +kernel
theorem dX3_admit_33 : decode cX3_admit 33 = .ok (.laload, 1) := by decide +kernel
theorem dX3_admit_34 : decode cX3_admit 34 = .ok (.lastore, 1) := by decide +kernel
theorem dX3_admit_35 : decode cX3_admit 35 = .ok (.aload_n 0, 1) := by decide +kernel
theorem dX3_admit_36 : decode cX3_admit 36 = .ok (.getfield 24, 3) := by decide +kernel
theorem dX3_admit_39 : decode cX3_admit 39 = .ok (.iload_n 1, 1) := by decide +kernel
theorem dX3_admit_40 : decode cX3_admit 40 = .ok (.lconst 1, 1) := by decide +kernel
theorem dX3_admit_41 : decode cX3_admit 41 = .ok (.iload_n 1, 1) := by decide +kernel
theorem dX3_admit_42 : decode cX3_admit 42 = .ok (.lshl, 1) := by decide +kernel
theorem dX3_admit_43 : decode cX3_admit 43 = .ok (.lastore, 1) := by decide +kernel
theorem dX3_admit_44 : decode cX3_admit 44 = .ok (.return_, 1) := by decide +kernel
theorem dX3_replay_0 : decode cX3_replay 0 = .ok (.aload_n 0, 1) := by decide +kernel
theorem dX3_replay_1 : decode cX3_replay 1 = .ok (.invokevirtual 54, 3) := by decide +kernel
theorem dX3_replay_4 : decode cX3_replay 4 = .ok (.iconst 0, 1) := by decide +kernel
theorem dX3_replay_5 : decode cX3_replay 5 = .ok (.istore_n 2, 1) := by decide +kernel
theorem dX3_replay_6 : decode cX3_replay 6 = .ok (.iload_n 2, 1) := by decide +kernel
theorem dX3_replay_7 : decode cX3_replay 7 = .ok (.aload_n 1, 1) := by decide +kernel
theorem dX3_replay_8 : decode cX3_replay 8 = .ok (.getfield 57, 3) := by decide +kernel
theorem dX3_replay_11 : decode cX3_replay 11 = .ok (.if_icmp .ge 54, 3) := by decide +kernel
theorem dX3_replay_14 : decode cX3_replay 14 = .ok (.aload_n 1, 1) := by decide +kernel
theorem dX3_replay_15 : decode cX3_replay 15 = .ok (.getfield 60, 3) := by decide +kernel
theorem dX3_replay_18 : decode cX3_replay 18 = .ok (.iload_n 2, 1) := by decide +kernel
theorem dX3_replay_19 : decode cX3_replay 19 = .ok (.iaload, 1) := by decide +kernel
theorem dX3_replay_20 : decode cX3_replay 20 = .ok (.istore_n 3, 1) := by decide +kernel
theorem dX3_replay_21 : decode cX3_replay 21 = .ok (.aload_n 1, 1) := by decide +kernel
theorem dX3_replay_22 : decode cX3_replay 22 = .ok (.getfield 63, 3) := by decide +kernel
theorem dX3_replay_25 : decode cX3_replay 25 = .ok (.iload_n 3, 1) := by decide +kernel
theorem dX3_replay_26 : decode cX3_replay 26 = .ok (.laload, 1) := by decide +kernel
theorem dX3_replay_27 : decode cX3_replay 27 = .ok (.lconst 0, 1) := by decide +kernel
theorem dX3_replay_28 : decode cX3_replay 28 = .ok (.lcmp, 1) := by decide +kernel
theorem dX3_replay_29 : decode cX3_replay 29 = .ok (.ifCond .le 30, 3) := by decide +kernel
theorem dX3_replay_32 : decode cX3_replay 32 = .ok (.aload_n 0, 1) := by decide +kernel
theorem dX3_replay_33 : decode cX3_replay 33 = .ok (.aload_n 1, 1) := by decide +kernel
theorem dX3_replay_34 : decode cX3_replay 34 = .ok (.getfield 64, 3) := by decide +kernel
theorem dX3_replay_37 : decode cX3_replay 37 = .ok (.iload_n 3, 1) := by decide +kernel
theorem dX3_replay_38 : decode cX3_replay 38 = .ok (.iaload, 1) := by decide +kernel
theorem dX3_replay_39 : decode cX3_replay 39 = .ok (.aload_n 1, 1) := by decide +kernel
theorem dX3_replay_40 : decode cX3_replay 40 = .ok (.getfield 67, 3) := by decide +kernel
theorem dX3_replay_43 : decode cX3_replay 43 = .ok (.iload_n 3, 1) := by decide +kernel
theorem dX3_replay_44 : decode cX3_replay 44 = .ok (.iaload, 1) := by decide +kernel
theorem dX3_replay_45 : decode cX3_replay 45 = .ok (.aload_n 1, 1) := by decide +kernel
theorem dX3_replay_46 : decode cX3_replay 46 = .ok (.getfield 63, 3) := by decide +kernel
theorem dX3_replay_49 : decode cX3_replay 49 = .ok (.iload_n 3, 1) := by decide +kernel
theorem dX3_replay_50 : decode cX3_replay 50 = .ok (.laload, 1) := by decide +kernel
theorem dX3_replay_51 : decode cX3_replay 51 = .ok (.invokevirtual 70, 3) := by decide +kernel
theorem dX3_replay_54 : decode cX3_replay 54 = .ok (.ifCond .ne 5, 3) := by decide +kernel
theorem dX3_replay_57 : decode cX3_replay 57 = .ok (.iconst 0, 1) := by decide +kernel
theorem dX3_replay_58 : decode cX3_replay 58 = .ok (.ireturn, 1) := by decide +kernel
theorem dX3_replay_59 : decode cX3_replay 59 = .ok (.iinc 2 1, 3) := by decide +kernel
theorem dX3_replay_62 : decode cX3_replay 62 = .ok (.goto (-56), 3) := by decide +kernel
theorem dX3_replay_65 : decode cX3_replay 65 = .ok (.iconst 1, 1) := by decide +kernel
theorem dX3_replay_66 : decode cX3_replay 66 = .ok (.ireturn, 1) := by decide +kernel
theorem dX3_clear_0 : decode cX3_clear 0 = .ok (.aload_n 0, 1) := by decide +kernel
theorem dX3_clear_1 : decode cX3_clear 1 = .ok (.getfield 9, 3) := by decide +kernel
theorem dX3_clear_4 : decode cX3_clear 4 = .ok (.lconst 0, 1) := by decide +kernel
theorem dX3_clear_5 : decode cX3_clear 5 = .ok (.invokestatic 74, 3) := by decide +kernel
theorem dX3_clear_8 : decode cX3_clear 8 = .ok (.aload_n 0, 1) := by decide +kernel
theorem dX3_clear_9 : decode cX3_clear 9 = .ok (.getfield 15, 3) := by decide +kernel
theorem dX3_clear_12 : decode cX3_clear 12 = .ok (.lconst 0, 1) := by decide +kernel
theorem dX3_clear_13 : decode cX3_clear 13 = .ok (.invokestatic 74, 3) := by decide +kernel
theorem dX3_clear_16 : decode cX3_clear 16 = .ok (.aload_n 0, 1) := by decide +kernel
theorem dX3_clear_17 : decode cX3_clear 17 = .ok (.getfield 18, 3) := by decide +kernel
theorem dX3_clear_20 : decode cX3_clear 20 = .ok (.lconst 0, 1) := by decide +kernel
theorem dX3_clear_21 : decode cX3_clear 21 = .ok (.invokestatic 74, 3) := by decide +kernel
theorem dX3_clear_24 : decode cX3_clear 24 = .ok (.aload_n 0, 1) := by decide +kernel
theorem dX3_clear_25 : decode cX3_clear 25 = .ok (.getfield 21, 3) := by decide +kernel
theorem dX3_clear_28 : decode cX3_clear 28 = .ok (.lconst 0, 1) := by decide +kernel
theorem dX3_clear_29 : decode cX3_clear 29 = .ok (.invokestatic 74, 3) := by decide +kernel
theorem dX3_clear_32 : decode cX3_clear 32 = .ok (.aload_n 0, 1) := by decide +kernel
theorem dX3_clear_33 : decode cX3_clear 33 = .ok (.getfield 24, 3) := by decide +kernel
theorem dX3_clear_36 : decode cX3_clear 36 = .ok (.lconst 0, 1) := by decide +kernel
theorem dX3_clear_37 : decode cX3_clear 37 = .ok (.invokestatic 74, 3) := by decide +kernel
theorem dX3_clear_40 : decode cX3_clear 40 = .ok (.iconst 0, 1) := by decide +kernel
theorem dX3_clear_41 : decode cX3_clear 41 = .ok (.istore_n 1, 1) := by decide +kernel
theorem dX3_clear_42 : decode cX3_clear 42 = .ok (.iload_n 1, 1) := by decide +kernel
theorem dX3_clear_43 : decode cX3_clear 43 = .ok (.aload_n 0, 1) := by decide +kernel
theorem dX3_clear_44 : decode cX3_clear 44 = .ok (.getfield 37, 3) := by decide +kernel
theorem dX3_clear_47 : decode cX3_clear 47 = .ok (.getfield 41, 3) := by decide +kernel
theorem dX3_clear_50 : decode cX3_clear 50 = .ok (.if_icmp .ge 25, 3) := by decide +kernel
theorem dX3_clear_53 : decode cX3_clear 53 = .ok (.aload_n 0, 1) := by decide +kernel
theorem dX3_clear_54 : decode cX3_clear 54 = .ok (.getfield 37, 3) := by decide +kernel
theorem dX3_clear_57 : decode cX3_clear 57 = .ok (.iload_n 1, 1) := by decide +kernel
theorem dX3_clear_58 : decode cX3_clear 58 = .ok (.invokevirtual 80, 3) := by decide +kernel
theorem dX3_clear_61 : decode cX3_clear 61 = .ok (.ifCond .eq 8, 3) := by decide +kernel
theorem dX3_clear_64 : decode cX3_clear 64 = .ok (.aload_n 0, 1) := by decide +kernel
theorem dX3_clear_65 : decode cX3_clear 65 = .ok (.iload_n 1, 1) := by decide +kernel
theorem dX3_clear_66 : decode cX3_clear 66 = .ok (.invokevirtual 84, 3) := by decide +kernel
theorem dX3_clear_69 : decode cX3_clear 69 = .ok (.iinc 1 1, 3) := by decide +kernel
theorem dX3_clear_72 : decode cX3_clear 72 = .ok (.goto (-30), 3) := by decide +kernel
theorem dX3_clear_75 : decode cX3_clear 75 = .ok (.return_, 1) := by decide +kernel
theorem dX3_move_0 : decode cX3_move 0 = .ok (.aload_n 0, 1) := by decide +kernel
theorem dX3_move_1 : decode cX3_move 1 = .ok (.iload_n 1, 1) := by decide +kernel
theorem dX3_move_2 : decode cX3_move 2 = .ok (.invokevirtual 88, 3) := by decide +kernel
theorem dX3_move_5 : decode cX3_move 5 = .ok (.lstore 5, 2) := by decide +kernel
theorem dX3_move_7 : decode cX3_move 7 = .ok (.lload 5, 2) := by decide +kernel
theorem dX3_move_9 : decode cX3_move 9 = .ok (.lconst 0, 1) := by decide +kernel
theorem dX3_move_10 : decode cX3_move 10 = .ok (.lcmp, 1) := by decide +kernel
theorem dX3_move_11 : decode cX3_move 11 = .ok (.ifCond .le 10, 3) := by decide +kernel
theorem dX3_move_14 : decode cX3_move 14 = .ok (.lload_n 3, 1) := by decide +kernel
theorem dX3_move_15 : decode cX3_move 15 = .ok (.lload 5, 2) := by decide +kernel
theorem dX3_move_17 : decode cX3_move 17 = .ok (.lcmp, 1) := by decide +kernel
theorem dX3_move_18 : decode cX3_move 18 = .ok (.ifCond .le 5, 3) := by decide +kernel
theorem dX3_move_21 : decode cX3_move 21 = .ok (.iconst 0, 1) := by decide +kernel
theorem dX3_move_22 : decode cX3_move 22 = .ok (.ireturn, 1) := by decide +kernel
theorem dX3_move_23 : decode cX3_move 23 = .ok (.aload_n 0, 1) := by decide +kernel
theorem dX3_move_24 : decode cX3_move 24 = .ok (.getfield 37, 3) := by decide +kernel
theorem dX3_move_27 : decode cX3_move 27 = .ok (.iload_n 1, 1) := by decide +kernel
theorem dX3_move_28 : decode cX3_move 28 = .ok (.invokevirtual 80, 3) := by decide +kernel
theorem dX3_move_31 : decode cX3_move 31 = .ok (.ifCond .eq 14, 3) := by decide +kernel
theorem dX3_move_34 : decode cX3_move 34 = .ok (.aload_n 0, 1) := by decide +kernel
theorem dX3_move_35 : decode cX3_move 35 = .ok (.iload_n 1, 1) := by decide +kernel
theorem dX3_move_36 : decode cX3_move 36 = .ok (.iload_n 2, 1) := by decide +kernel
theorem dX3_move_37 : decode cX3_move 37 = .ok (.iload_n 1, 1) := by decide +kernel
theorem dX3_move_38 : decode cX3_move 38 = .ok (.lload_n 3, 1) := by decide +kernel
theorem dX3_move_39 : decode cX3_move 39 = .ok (.invokevirtual 92, 3) := by decide +kernel
theorem dX3_move_42 : decode cX3_move 42 = .ok (.goto 49, 3) := by decide +kernel
theorem dX3_move_45 : decode cX3_move 45 = .ok (.aload_n 0, 1) := by decide +kernel
theorem dX3_move_46 : decode cX3_move 46 = .ok (.iload_n 1, 1) := by decide +kernel
theorem dX3_move_47 : decode cX3_move 47 = .ok (.lload 5, 2) := by decide +kernel
theorem dX3_move_49 : decode cX3_move 49 = .ok (.lload_n 3, 1) := by decide +kernel
theorem dX3_move_50 : decode cX3_move 50 = .ok (.invokevirtual 96, 3) := by decide +kernel
theorem dX3_move_53 : decode cX3_move 53 = .ok (.iconst 0, 1) := by decide +kernel
theorem dX3_move_54 : decode cX3_move 54 = .ok (.istore 7, 2) := by decide +kernel
theorem dX3_move_56 : decode cX3_move 56 = .ok (.iload 7, 2) := by decide +kernel
theorem dX3_move_58 : decode cX3_move 58 = .ok (.aload_n 0, 1) := by decide +kernel
theorem dX3_move_59 : decode cX3_move 59 = .ok (.getfield 100, 3) := by decide +kernel
theorem dX3_move_62 : decode cX3_move 62 = .ok (.if_icmp .ge 29, 3) := by decide +kernel
theorem dX3_move_65 : decode cX3_move 65 = .ok (.aload_n 0, 1) := by decide +kernel
theorem dX3_move_66 : decode cX3_move 66 = .ok (.iload_n 1, 1) := by decide +kernel
theorem dX3_move_67 : decode cX3_move 67 = .ok (.iload_n 2, 1) := by decide +kernel
theorem dX3_move_68 : decode cX3_move 68 = .ok (.aload_n 0, 1) := by decide +kernel
theorem dX3_move_69 : decode cX3_move 69 = .ok (.getfield 27, 3) := by decide +kernel
theorem dX3_move_72 : decode cX3_move 72 = .ok (.iload 7, 2) := by decide +kernel
theorem dX3_move_74 : decode cX3_move 74 = .ok (.iaload, 1) := by decide +kernel
theorem dX3_move_75 : decode cX3_move 75 = .ok (.aload_n 0, 1) := by decide +kernel
theorem dX3_move_76 : decode cX3_move 76 = .ok (.getfield 31, 3) := by decide +kernel
theorem dX3_move_79 : decode cX3_move 79 = .ok (.iload 7, 2) := by decide +kernel
theorem dX3_move_81 : decode cX3_move 81 = .ok (.laload, 1) := by decide +kernel
theorem dX3_move_82 : decode cX3_move 82 = .ok (.invokevirtual 92, 3) := by decide +kernel
theorem dX3_move_85 : decode cX3_move 85 = .ok (.iinc 7 1, 3) := by decide +kernel
theorem dX3_move_88 : decode cX3_move 88 = .ok (.goto (-32), 3) := by decide +kernel
theorem dX3_move_91 : decode cX3_move 91 = .ok (.aload_n 0, 1) := by decide +kernel
theorem dX3_move_92 : decode cX3_move 92 = .ok (.getfield 18, 3) := by decide +kernel
theorem dX3_move_95 : decode cX3_move 95 = .ok (.iload_n 1, 1) := by decide +kernel
theorem dX3_move_96 : decode cX3_move 96 = .ok (.dup2, 1) := by decide +kernel
theorem dX3_move_97 : decode cX3_move 97 = .ok (.laload, 1) := by decide +kernel
theorem dX3_move_98 : decode cX3_move 98 = .ok (.lload_n 3, 1) := by decide +kernel
theorem dX3_move_99 : decode cX3_move 99 = .ok (.ladd, 1) := by decide +kernel
theorem dX3_move_100 : decode cX3_move 100 = .ok (.lastore, 1) := by decide +kernel
theorem dX3_move_101 : decode cX3_move 101 = .ok (.aload_n 0, 1) := by decide +kernel
theorem dX3_move_102 : decode cX3_move 102 = .ok (.getfield 15, 3) := by decide +kernel
theorem dX3_move_105 : decode cX3_move 105 = .ok (.iload_n 2, 1) := by decide +kernel
theorem dX3_move_106 : decode cX3_move 106 = .ok (.dup2, 1) := by decide +kernel
theorem dX3_move_107 : decode cX3_move 107 = .ok (.laload, 1) := by decide +kernel
theorem dX3_move_108 : decode cX3_move 108 = .ok (.lload_n 3, 1) := by decide +kernel
theorem dX3_move_109 : decode cX3_move 109 = .ok (.ladd, 1) := by decide +kernel
theorem dX3_move_110 : decode cX3_move 110 = .ok (.lastore, 1) := by decide +kernel
theorem dX3_move_111 : decode cX3_move 111 = .ok (.aload_n 0, 1) := by decide +kernel
theorem dX3_move_112 : decode cX3_move 112 = .ok (.getfield 37, 3) := by decide +kernel
theorem dX3_move_115 : decode cX3_move 115 = .ok (.iload_n 2, 1) := by decide +kernel
theorem dX3_move_116 : decode cX3_move 116 = .ok (.invokevirtual 103, 3) := by decide +kernel
theorem dX3_move_119 : decode cX3_move 119 = .ok (.ifCond .eq 13, 3) := by decide +kernel
theorem dX3_move_122 : decode cX3_move 122 = .ok (.aload_n 0, 1) := by decide +kernel
theorem dX3_move_123 : decode cX3_move 123 = .ok (.getfield 21, 3) := by decide +kernel
theorem dX3_move_126 : decode cX3_move 126 = .ok (.iload_n 1, 1) := by decide +kernel
theorem dX3_move_127 : decode cX3_move 127 = .ok (.dup2, 1) := by decide +kernel
theorem dX3_move_128 : decode cX3_move 128 = .ok (.laload, 1) := by decide +kernel
theorem dX3_move_129 : decode cX3_move 129 = .ok (.lload_n 3, 1) := by decide +kernel
theorem dX3_move_130 : decode cX3_move 130 = .ok (.ladd, 1) := by decide +kernel
theorem dX3_move_131 : decode cX3_move 131 = .ok (.lastore, 1) := by decide +kernel
theorem dX3_move_132 : decode cX3_move 132 = .ok (.iconst 1, 1) := by decide +kernel
theorem dX3_move_133 : decode cX3_move 133 = .ok (.ireturn, 1) := by decide +kernel
theorem dX3_carry_0 : decode cX3_carry 0 = .ok (.lload 4, 2) := by decide +kernel
theorem dX3_carry_2 : decode cX3_carry 2 = .ok (.lconst 0, 1) := by decide +kernel
theorem dX3_carry_3 : decode cX3_carry 3 = .ok (.lcmp, 1) := by decide +kernel
theorem dX3_carry_4 : decode cX3_carry 4 = .ok (.ifCond .le 47, 3) := by decide +kernel
theorem dX3_carry_7 : decode cX3_carry 7 = .ok (.aload_n 0, 1) := by decide +kernel
theorem dX3_carry_8 : decode cX3_carry 8 = .ok (.getfield 9, 3) := by decide +kernel
theorem dX3_carry_11 : decode cX3_carry 11 = .ok (.iload_n 1, 1) := by decide +kernel
theorem dX3_carry_12 : decode cX3_carry 12 = .ok (.bipush 48, 2) := by decide +kernel
theorem dX3_carry_14 : decode cX3_carry 14 = .ok (.imul, 1) := by decide +kernel
theorem dX3_carry_15 : decode cX3_carry 15 = .ok (.iload_n 3, 1) := by decide +kernel
theorem dX3_carry_16 : decode cX3_carry 16 = .ok (.iadd, 1) := by decide +kernel
theorem dX3_carry_17 : decode cX3_carry 17 = .ok (.dup2, 1) := by decide +kernel
theorem dX3_carry_18 : decode cX3_carry 18 = .ok (.laload, 1) := by decide +kernel
theorem dX3_carry_19 : decode cX3_carry 19 = .ok (.lload 4, 2) := by decide +kernel
theorem dX3_carry_21 : decode cX3_carry 21 = .ok (.lsub, 1) := by decide +kernel
theorem dX3_carry_22 : decode cX3_carry 22 = .ok (.lastore, 1) := by decide +kernel
theorem dX3_carry_23 : decode cX3_carry 23 = .ok (.aload_n 0, 1) := by decide +kernel
theorem dX3_carry_24 : decode cX3_carry 24 = .ok (.getfield 9, 3) := by decide +kernel
theorem dX3_carry_27 : decode cX3_carry 27 = .ok (.iload_n 2, 1) := by decide +kernel
theorem dX3_carry_28 : decode cX3_carry 28 = .ok (.bipush 48, 2) := by decide +kernel
theorem dX3_carry_30 : decode cX3_carry 30 = .ok (.imul, 1) := by decide +kernel
theorem dX3_carry_31 : decode cX3_carry 31 = .ok (.iload_n 3, 1) := by decide +kernel
theorem dX3_carry_32 : decode cX3_carry 32 = .ok (.iadd, 1) := by decide +kernel
theorem dX3_carry_33 : decode cX3_carry 33 = .ok (.dup2, 1) := by decide +kernel
theorem dX3_carry_34 : decode cX3_carry 34 = .ok (.laload, 1) := by decide +kernel
theorem dX3_carry_35 : decode cX3_carry 35 = .ok (.lload 4, 2) := by decide +kernel
theorem dX3_carry_37 : decode cX3_carry 37 = .ok (.ladd, 1) := by decide +kernel
theorem dX3_carry_38 : decode cX3_carry 38 = .ok (.lastore, 1) := by decide +kernel
theorem dX3_carry_39 : decode cX3_carry 39 = .ok (.aload_n 0, 1) := by decide +kernel
theorem dX3_carry_40 : decode cX3_carry 40 = .ok (.getfield 24, 3) := by decide +kernel
theorem dX3_carry_43 : decode cX3_carry 43 = .ok (.iload_n 2, 1) := by decide +kernel
theorem dX3_carry_44 : decode cX3_carry 44 = .ok (.dup2, 1) := by decide +kernel
theorem dX3_carry_45 : decode cX3_carry 45 = .ok (.laload, 1) := by decide +kernel
theorem dX3_carry_46 : decode cX3_carry 46 = .ok (.lconst 1, 1) := by decide +kernel
theorem dX3_carry_47 : decode cX3_carry 47 = .ok (.iload_n 3, 1) := by decide +kernel
theorem dX3_carry_48 : decode cX3_carry 48 = .ok (.lshl, 1) := by decide +kernel
theorem dX3_carry_49 : decode cX3_carry 49 = .ok (.lor, 1) := by decide +kernel
theorem dX3_carry_50 : decode cX3_carry 50 = .ok (.lastore, 1) := by decide +kernel
theorem dX3_carry_51 : decode cX3_carry 51 = .ok (.return_, 1) := by decide +kernel
theorem dX3_part_0 : decode cX3_part 0 = .ok (.aload_n 0, 1) := by decide +kernel
theorem dX3_part_1 : decode cX3_part 1 = .ok (.iconst 0, 1) := by decide +kernel
theorem dX3_part_2 : decode cX3_part 2 = .ok (.putfield 100, 3) := by decide +kernel
theorem dX3_part_5 : decode cX3_part 5 = .ok (.lload_n 2, 1) := by decide +kernel
theorem dX3_part_6 : decode cX3_part 6 = .ok (.lconst 0, 1) := by decide +kernel
theorem dX3_part_7 : decode cX3_part 7 = .ok (.lcmp, 1) := by decide +kernel
theorem dX3_part_8 : decode cX3_part 8 = .ok (.ifCond .gt 4, 3) := by decide +kernel
theorem dX3_part_11 : decode cX3_part 11 = .ok (.return_, 1) := by decide +kernel
theorem dX3_part_12 : decode cX3_part 12 = .ok (.lload 4, 2) := by decide +kernel
theorem dX3_part_14 : decode cX3_part 14 = .ok (.lstore 6, 2) := by decide +kernel
theorem dX3_part_16 : decode cX3_part 16 = .ok (.iconst 0, 1) := by decide +kernel
theorem dX3_part_17 : decode cX3_part 17 = .ok (.istore 8, 2) := by decide +kernel
theorem dX3_part_19 : decode cX3_part 19 = .ok (.iload 8, 2) := by decide +kernel
theorem dX3_part_21 : decode cX3_part 21 = .ok (.aload_n 0, 1) := by decide +kernel
theorem dX3_part_22 : decode cX3_part 22 = .ok (.getfield 37, 3) := by decide +kernel
theorem dX3_part_25 : decode cX3_part 25 = .ok (.getfield 41, 3) := by decide +kernel
theorem dX3_part_28 : decode cX3_part 28 = .ok (.if_icmp .ge 89, 3) := by decide +kernel
theorem dX3_part_31 : decode cX3_part 31 = .ok (.aload_n 0, 1) := by decide +kernel
theorem dX3_part_32 : decode cX3_part 32 = .ok (.iload_n 1, 1) := by decide +kernel
theorem dX3_part_33 : decode cX3_part 33 = .ok (.iload 8, 2) := by decide +kernel
theorem dX3_part_35 : decode cX3_part 35 = .ok (.invokevirtual 47, 3) := by decide +kernel
theorem dX3_part_38 : decode cX3_part 38 = .ok (.lload 4, 2) := by decide +kernel
theorem dX3_part_40 : decode cX3_part 40 = .ok (.lmul, 1) := by decide +kernel
theorem dX3_part_41 : decode cX3_part 41 = .ok (.lstore 9, 2) := by decide +kernel
theorem dX3_part_43 : decode cX3_part 43 = .ok (.lload 9, 2) := by decide +kernel
theorem dX3_part_45 : decode cX3_part 45 = .ok (.lconst 0, 1) := by decide +kernel
theorem dX3_part_46 : decode cX3_part 46 = .ok (.lcmp, 1) := by decide +kernel
theorem dX3_part_47 : decode cX3_part 47 = .ok (.ifCond .le 64, 3) := by decide +kernel
theorem dX3_part_50 : decode cX3_part 50 = .ok (.aload_n 0, 1) := by decide +kernel
theorem dX3_part_51 : decode cX3_part 51 = .ok (.getfield 27, 3) := by decide +kernel
theorem dX3_part_54 : decode cX3_part 54 = .ok (.aload_n 0, 1) := by decide +kernel
theorem dX3_part_55 : decode cX3_part 55 = .ok (.getfield 100, 3) := by decide +kernel
theorem dX3_part_58 : decode cX3_part 58 = .ok (.iload 8, 2) := by decide +kernel
theorem dX3_part_60 : decode cX3_part 60 = .ok (.iastore, 1) := by decide +kernel
theorem dX3_part_61 : decode cX3_part 61 = .ok (.aload_n 0, 1) := by decide +kernel
theorem dX3_part_62 : decode cX3_part 62 = .ok (.getfield 31, 3) := by decide +kernel
theorem dX3_part_65 : decode cX3_part 65 = .ok (.aload_n 0, 1) := by decide +kernel
theorem dX3_part_66 : decode cX3_part 66 = .ok (.getfield 100, 3) := by decide +kernel
theorem dX3_part_69 : decode cX3_part 69 = .ok (.lload 9, 2) := by decide +kernel
theorem dX3_part_71 : decode cX3_part 71 = .ok (.lload_n 2, 1) := by decide +kernel
theorem dX3_part_72 : decode cX3_part 72 = .ok (.ldiv, 1) := by decide +kernel
theorem dX3_part_73 : decode cX3_part 73 = .ok (.lastore, 1) := by decide +kernel
theorem dX3_part_74 : decode cX3_part 74 = .ok (.aload_n 0, 1) := by decide +kernel
theorem dX3_part_75 : decode cX3_part 75 = .ok (.getfield 34, 3) := by decide +kernel
theorem dX3_part_78 : decode cX3_part 78 = .ok (.aload_n 0, 1) := by decide +kernel
theorem dX3_part_79 : decode cX3_part 79 = .ok (.getfield 100, 3) := by decide +kernel
theorem dX3_part_82 : decode cX3_part 82 = .ok (.lload 9, 2) := by decide +kernel
theorem dX3_part_84 : decode cX3_part 84 = .ok (.lload_n 2, 1) := by decide +kernel
theorem dX3_part_85 : decode cX3_part 85 = .ok (.lrem, 1) := by decide +kernel
theorem dX3_part_86 : decode cX3_part 86 = .ok (.lastore, 1) := by decide +kernel
theorem dX3_part_87 : decode cX3_part 87 = .ok (.lload 6, 2) := by decide +kernel
theorem dX3_part_89 : decode cX3_part 89 = .ok (.aload_n 0, 1) := by decide +kernel
theorem dX3_part_90 : decode cX3_part 90 = .ok (.getfield 31, 3) := by decide +kernel
theorem dX3_part_93 : decode cX3_part 93 = .ok (.aload_n 0, 1) := by decide +kernel
theorem dX3_part_94 : decode cX3_part 94 = .ok (.getfield 100, 3) := by decide +kernel
theorem dX3_part_97 : decode cX3_part 97 = .ok (.laload, 1) := by decide +kernel
theorem dX3_part_98 : decode cX3_part 98 = .ok (.lsub, 1) := by decide +kernel
theorem dX3_part_99 : decode cX3_part 99 = .ok (.lstore 6, 2) := by decide +kernel
theorem dX3_part_101 : decode cX3_part 101 = .ok (.aload_n 0, 1) := by decide +kernel
theorem dX3_part_102 : decode cX3_part 102 = .ok (.dup, 1) := by decide +kernel
theorem dX3_part_103 : decode cX3_part 103 = .ok (.getfield 100, 3) := by decide +kernel
theorem dX3_part_106 : decode cX3_part 106 = .ok (.iconst 1, 1) := by decide +kernel
theorem dX3_part_107 : decode cX3_part 107 = .ok (.iadd, 1) := by decide +kernel
theorem dX3_part_108 : decode cX3_part 108 = .ok (.putfield 100, 3) := by decide +kernel
theorem dX3_part_111 : decode cX3_part 111 = .ok (.iinc 8 1, 3) := by decide +kernel
theorem dX3_part_114 : decode cX3_part 114 = .ok (.goto (-95), 3) := by decide +kernel
theorem dX3_part_117 : decode cX3_part 117 = .ok (.iconst 0, 1) := by decide +kernel
theorem dX3_part_118 : decode cX3_part 118 = .ok (.istore 8, 2) := by decide +kernel
theorem dX3_part_120 : decode cX3_part 120 = .ok (.iload 8, 2) := by decide +kernel
theorem dX3_part_122 : decode cX3_part 122 = .ok (.aload_n 0, 1) := by decide +kernel
theorem dX3_part_123 : decode cX3_part 123 = .ok (.getfield 100, 3) := by decide +kernel
theorem dX3_part_126 : decode cX3_part 126 = .ok (.if_icmp .ge 47, 3) := by decide +kernel
theorem dX3_part_129 : decode cX3_part 129 = .ok (.lload 6, 2) := by decide +kernel
theorem dX3_part_131 : decode cX3_part 131 = .ok (.lconst 0, 1) := by decide +kernel
theorem dX3_part_132 : decode cX3_part 132 = .ok (.lcmp, 1) := by decide +kernel
theorem dX3_part_133 : decode cX3_part 133 = .ok (.ifCond .le 40, 3) := by decide +kernel
theorem dX3_part_136 : decode cX3_part 136 = .ok (.aload_n 0, 1) := by decide +kernel
theorem dX3_part_137 : decode cX3_part 137 = .ok (.invokevirtual 106, 3) := by decide +kernel
theorem dX3_part_140 : decode cX3_part 140 = .ok (.istore 9, 2) := by decide +kernel
theorem dX3_part_142 : decode cX3_part 142 = .ok (.aload_n 0, 1) := by decide +kernel
theorem dX3_part_143 : decode cX3_part 143 = .ok (.getfield 31, 3) := by decide +kernel
theorem dX3_part_146 : decode cX3_part 146 = .ok (.iload 9, 2) := by decide +kernel
theorem dX3_part_148 : decode cX3_part 148 = .ok (.dup2, 1) := by decide +kernel
theorem dX3_part_149 : decode cX3_part 149 = .ok (.laload, 1) := by decide +kernel
theorem dX3_part_150 : decode cX3_part 150 = .ok (.lconst 1, 1) := by decide +kernel
theorem dX3_part_151 : decode cX3_part 151 = .ok (.ladd, 1) := by decide +kernel
theorem dX3_part_152 : decode cX3_part 152 = .ok (.lastore, 1) := by decide +kernel
theorem dX3_part_153 : decode cX3_part 153 = .ok (.aload_n 0, 1) := by decide +kernel
theorem dX3_part_154 : decode cX3_part 154 = .ok (.getfield 34, 3) := by decide +kernel
theorem dX3_part_157 : decode cX3_part 157 = .ok (.iload 9, 2) := by decide +kernel
theorem dX3_part_159 : decode cX3_part 159 = .ok (.lconst 0, 1) := by decide +kernel
theorem dX3_part_160 : decode cX3_part 160 = .ok (.lastore, 1) := by decide +kernel
theorem dX3_part_161 : decode cX3_part 161 = .ok (.lload 6, 2) := by decide +kernel
theorem dX3_part_163 : decode cX3_part 163 = .ok (.lconst 1, 1) := by decide +kernel
theorem dX3_part_164 : decode cX3_part 164 = .ok (.lsub, 1) := by decide +kernel
theorem dX3_part_165 : decode cX3_part 165 = .ok (.lstore 6, 2) := by decide +kernel
theorem dX3_part_167 : decode cX3_part 167 = .ok (.iinc 8 1, 3) := by decide +kernel
theorem dX3_part_170 : decode cX3_part 170 = .ok (.goto (-50), 3) := by decide +kernel
theorem dX3_part_173 : decode cX3_part 173 = .ok (.return_, 1) := by decide +kernel
theorem dX3_greatestRest_0 : decode cX3_greatestRest 0 = .ok (.iconst 0, 1) := by decide +kernel
theorem dX3_greatestRest_1 : decode cX3_greatestRest 1 = .ok (.istore_n 1, 1) := by decide +kernel
theorem dX3_greatestRest_2 : decode cX3_greatestRest 2 = .ok (.iconst 1, 1) := by decide +kernel
theorem dX3_greatestRest_3 : decode cX3_greatestRest 3 = .ok (.istore_n 2, 1) := by decide +kernel
theorem dX3_greatestRest_4 : decode cX3_greatestRest 4 = .ok (.iload_n 2, 1) := by decide +kernel
theorem dX3_greatestRest_5 : decode cX3_greatestRest 5 = .ok (.aload_n 0, 1) := by decide +kernel
theorem dX3_greatestRest_6 : decode cX3_greatestRest 6 = .ok (.getfield 100, 3) := by decide +kernel
theorem dX3_greatestRest_9 : decode cX3_greatestRest 9 = .ok (.if_icmp .ge 27, 3) := by decide +kernel
theorem dX3_greatestRest_12 : decode cX3_greatestRest 12 = .ok (.aload_n 0, 1) := by decide +kernel
theorem dX3_greatestRest_13 : decode cX3_greatestRest 13 = .ok (.getfield 34, 3) := by decide +kernel
theorem dX3_greatestRest_16 : decode cX3_greatestRest 16 = .ok (.iload_n 2, 1) := by decide +kernel
theorem dX3_greatestRest_17 : decode cX3_greatestRest 17 = .ok (.laload, 1) := by decide +kernel
theorem dX3_greatestRest_18 : decode cX3_greatestRest 18 = .ok (.aload_n 0, 1) := by decide +kernel
theorem dX3_greatestRest_19 : decode cX3_greatestRest 19 = .ok (.getfield 34, 3) := by decide +kernel
theorem dX3_greatestRest_22 : decode cX3_greatestRest 22 = .ok (.iload_n 1, 1) := by decide +kernel
theorem dX3_greatestRest_23 : decode cX3_greatestRest 23 = .ok (.laload, 1) := by decide +kernel
theorem dX3_greatestRest_24 : decode cX3_greatestRest 24 = .ok (.lcmp, 1) := by decide +kernel
theorem dX3_greatestRest_25 : decode cX3_greatestRest 25 = .ok (.ifCond .le 5, 3) := by decide +kernel
theorem dX3_greatestRest_28 : decode cX3_greatestRest 28 = .ok (.iload_n 2, 1) := by decide +kernel
theorem dX3_greatestRest_29 : decode cX3_greatestRest 29 = .ok (.istore_n 1, 1) := by decide +kernel
theorem dX3_greatestRest_30 : decode cX3_greatestRest 30 = .ok (.iinc 2 1, 3) := by decide +kernel
theorem dX3_greatestRest_33 : decode cX3_greatestRest 33 = .ok (.goto (-29), 3) := by decide +kernel
theorem dX3_greatestRest_36 : decode cX3_greatestRest 36 = .ok (.iload_n 1, 1) := by decide +kernel
theorem dX3_greatestRest_37 : decode cX3_greatestRest 37 = .ok (.ireturn, 1) := by decide +kernel
theorem dX3_countOtherNodes_0 : decode cX3_countOtherNodes 0 = .ok (.iconst 0, 1) := by decide +kernel
theorem dX3_countOtherNodes_1 : decode cX3_countOtherNodes 1 = .ok (.istore_n 2, 1) := by decide +kernel
theorem dX3_countOtherNodes_2 : decode cX3_countOtherNodes 2 = .ok (.iconst 0, 1) := by decide +kernel
theorem dX3_countOtherNodes_3 : decode cX3_countOtherNodes 3 = .ok (.istore_n 3, 1) := by decide +kernel
theorem dX3_countOtherNodes_4 : decode cX3_countOtherNodes 4 = .ok (.iload_n 3, 1) := by decide +kernel
theorem dX3_countOtherNodes_5 : decode cX3_countOtherNodes 5 = .ok (.aload_n 0, 1) := by decide +kernel
theorem dX3_countOtherNodes_6 : decode cX3_countOtherNodes 6 = .ok (.getfield 37, 3) := by decide +kernel
theorem dX3_countOtherNodes_9 : decode cX3_countOtherNodes 9 = .ok (.getfield 41, 3) := by decide +kernel
theorem dX3_countOtherNodes_12 : decode cX3_countOtherNodes 12 = .ok (.if_icmp .ge 21, 3) := by decide +kernel
theorem dX3_countOtherNodes_15 : decode cX3_countOtherNodes 15 = .ok (.aload_n 0, 1) := by decide +kernel
theorem dX3_countOtherNodes_16 : decode cX3_countOtherNodes 16 = .ok (.aload_n 1, 1) := by decide +kernel
theorem dX3_countOtherNodes_17 : decode cX3_countOtherNodes 17 = .ok (.iload_n 3, 1) := by decide +kernel
theorem dX3_countOtherNodes_18 : decode cX3_countOtherNodes 18 = .ok (.invokevirtual 110, 3) := by decide +kernel
theorem dX3_countOtherNodes_21 : decode cX3_countOtherNodes 21 = .ok (.ifCond .eq 6, 3) := by decide +kernel
theorem dX3_countOtherNodes_24 : decode cX3_countOtherNodes 24 = .ok (.iinc 2 1, 3) := by decide +kernel
theorem dX3_countOtherNodes_27 : decode cX3_countOtherNodes 27 = .ok (.iinc 3 1, 3) := by decide +kernel
theorem dX3_countOtherNodes_30 : decode cX3_countOtherNodes 30 = .ok (.goto (-26), 3) := by decide +kernel
theorem dX3_countOtherNodes_33 : decode cX3_countOtherNodes 33 = .ok (.iload_n 2, 1) := by decide +kernel
theorem dX3_countOtherNodes_34 : decode cX3_countOtherNodes 34 = .ok (.ireturn, 1) := by decide +kernel
theorem dX3_differs_0 : decode cX3_differs 0 = .ok (.iconst 0, 1) := by decide +kernel
theorem dX3_differs_1 : decode cX3_differs 1 = .ok (.istore_n 3, 1) := by decide +kernel
theorem dX3_differs_2 : decode cX3_differs 2 = .ok (.iload_n 3, 1) := by decide +kernel
theorem dX3_differs_3 : decode cX3_differs 3 = .ok (.aload_n 0, 1) := by decide +kernel
theorem dX3_differs_4 : decode cX3_differs 4 = .ok (.getfield 37, 3) := by decide +kernel
theorem dX3_differs_7 : decode cX3_differs 7 = .ok (.getfield 41, 3) := by decide +kernel
theorem dX3_differs_10 : decode cX3_differs 10 = .ok (.if_icmp .ge 27, 3) := by decide +kernel
theorem dX3_differs_13 : decode cX3_differs 13 = .ok (.aload_n 0, 1) := by decide +kernel
theorem dX3_differs_14 : decode cX3_differs 14 = .ok (.iload_n 2, 1) := by decide +kernel
theorem dX3_differs_15 : decode cX3_differs 15 = .ok (.iload_n 3, 1) := by decide +kernel
theorem dX3_differs_16 : decode cX3_differs 16 = .ok (.invokevirtual 47, 3) := by decide +kernel
theorem dX3_differs_19 : decode cX3_differs 19 = .ok (.aload_n 1, 1) := by decide +kernel
theorem dX3_differs_20 : decode cX3_differs 20 = .ok (.iload_n 2, 1) := by decide +kernel
theorem dX3_differs_21 : decode cX3_differs 21 = .ok (.iload_n 3, 1) := by decide +kernel
theorem dX3_differs_22 : decode cX3_differs 22 = .ok (.invokevirtual 47, 3) := by decide +kernel
theorem dX3_differs_25 : decode cX3_differs 25 = .ok (.lcmp, 1) := by decide +kernel
theorem dX3_differs_26 : decode cX3_differs 26 = .ok (.ifCond .eq 5, 3) := by decide +kernel
theorem dX3_differs_29 : decode cX3_differs 29 = .ok (.iconst 1, 1) := by decide +kernel
theorem dX3_differs_30 : decode cX3_differs 30 = .ok (.ireturn, 1) := by decide +kernel
theorem dX3_differs_31 : decode cX3_differs 31 = .ok (.iinc 3 1, 3) := by decide +kernel
theorem dX3_differs_34 : decode cX3_differs 34 = .ok (.goto (-32), 3) := by decide +kernel
theorem dX3_differs_37 : decode cX3_differs 37 = .ok (.iconst 0, 1) := by decide +kernel
theorem dX3_differs_38 : decode cX3_differs 38 = .ok (.ireturn, 1) := by decide +kernel
theorem dJ9_min_f86c9_0 : decode cJ9_min_f86c9 0 = .ok (.lload_n 0, 1) := by decide +kernel
theorem dJ9_min_f86c9_1 : decode cJ9_min_f86c9 1 = .ok (.lload_n 2, 1) := by decide +kernel
theorem dJ9_min_f86c9_2 : decode cJ9_min_f86c9 2 = .ok (.lcmp, 1) := by decide +kernel
theorem dJ9_min_f86c9_3 : decode cJ9_min_f86c9 3 = .ok (.ifCond .gt 7, 3) := by decide +kernel
theorem dJ9_min_f86c9_6 : decode cJ9_min_f86c9 6 = .ok (.lload_n 0, 1) := by decide +kernel
theorem dJ9_min_f86c9_7 : decode cJ9_min_f86c9 7 = .ok (.goto 4, 3) := by decide +kernel
theorem dJ9_min_f86c9_10 : decode cJ9_min_f86c9 10 = .ok (.lload_n 2, 1) := by decide +kernel
theorem dJ9_min_f86c9_11 : decode cJ9_min_f86c9 11 = .ok (.lreturn, 1) := by decide +kernel
theorem dJ7_fill_d0a16_0 : decode cJ7_fill_d0a16 0 = .ok (.iconst 0, 1) := by decide +kernel
theorem dJ7_fill_d0a16_1 : decode cJ7_fill_d0a16 1 = .ok (.istore_n 3, 1) := by decide +kernel
theorem dJ7_fill_d0a16_2 : decode cJ7_fill_d0a16 2 = .ok (.aload_n 0, 1) := by decide +kernel
theorem dJ7_fill_d0a16_3 : decode cJ7_fill_d0a16 3 = .ok (.arraylength, 1) := by decide +kernel
theorem dJ7_fill_d0a16_4 : decode cJ7_fill_d0a16 4 = .ok (.istore 4, 2) := by decide +kernel
theorem dJ7_fill_d0a16_6 : decode cJ7_fill_d0a16 6 = .ok (.iload_n 3, 1) := by decide +kernel
theorem dJ7_fill_d0a16_7 : decode cJ7_fill_d0a16 7 = .ok (.iload 4, 2) := by decide +kernel
theorem dJ7_fill_d0a16_9 : decode cJ7_fill_d0a16 9 = .ok (.if_icmp .ge 13, 3) := by decide +kernel
theorem dJ7_fill_d0a16_12 : decode cJ7_fill_d0a16 12 = .ok (.aload_n 0, 1) := by decide +kernel
theorem dJ7_fill_d0a16_13 : decode cJ7_fill_d0a16 13 = .ok (.iload_n 3, 1) := by decide +kernel
theorem dJ7_fill_d0a16_14 : decode cJ7_fill_d0a16 14 = .ok (.lload_n 1, 1) := by decide +kernel
theorem dJ7_fill_d0a16_15 : decode cJ7_fill_d0a16 15 = .ok (.lastore, 1) := by decide +kernel
theorem dJ7_fill_d0a16_16 : decode cJ7_fill_d0a16 16 = .ok (.iinc 3 1, 3) := by decide +kernel
theorem dJ7_fill_d0a16_19 : decode cJ7_fill_d0a16 19 = .ok (.goto (-13), 3) := by decide +kernel
theorem dJ7_fill_d0a16_22 : decode cJ7_fill_d0a16 22 = .ok (.return_, 1) := by decide +kernel
