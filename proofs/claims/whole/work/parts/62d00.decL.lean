theorem dL_flow_0 : decode cL_flow 0 = .ok (.aload_n 0, 1) := by decide +kernel
theorem dL_flow_1 : decode cL_flow 1 = .ok (.iload_n 1, 1) := by decide +kernel
theorem dL_flow_2 : decode cL_flow 2 = .ok (.iload_n 2, 1) := by decide +kernel
theorem dL_flow_3 : decode cL_flow 3 = .ok (.lload_n 3, 1) := by decide +kernel
theorem dL_flow_4 : decode cL_flow 4 = .ok (.lload 5, 2) := by decide +kernel
theorem dL_flow_6 : decode cL_flow 6 = .ok (.invokevirtual 7, 3) := by decide +kernel
theorem dL_flow_9 : decode cL_flow 9 = .ok (.goto 15, 3) := by decide +kernel
theorem dL_flow_12 : decode cL_flow 12 = .ok (.astore 7, 2) := by decide +kernel
theorem dL_flow_14 : decode cL_flow 14 = .ok (.iconst 1, 1) := by decide +kernel
theorem dL_flow_15 : decode cL_flow 15 = .ok (.ireturn, 1) := by decide +kernel
theorem dL_flow_16 : decode cL_flow 16 = .ok (.astore 7, 2) := by decide +kernel
theorem dL_flow_18 : decode cL_flow 18 = .ok (.iconst 2, 1) := by decide +kernel
theorem dL_flow_19 : decode cL_flow 19 = .ok (.ireturn, 1) := by decide +kernel
theorem dL_flow_20 : decode cL_flow 20 = .ok (.astore 7, 2) := by decide +kernel
theorem dL_flow_22 : decode cL_flow 22 = .ok (.iconst 3, 1) := by decide +kernel
theorem dL_flow_23 : decode cL_flow 23 = .ok (.ireturn, 1) := by decide +kernel
theorem dL_flow_24 : decode cL_flow 24 = .ok (.iconst 0, 1) := by decide +kernel
theorem dL_flow_25 : decode cL_flow 25 = .ok (.ireturn, 1) := by decide +kernel
theorem dL_law_0 : decode cL_law 0 = .ok (.new 8, 3) := by decide +kernel
theorem dL_law_3 : decode cL_law 3 = .ok (.dup, 1) := by decide +kernel
theorem dL_law_4 : decode cL_law 4 = .ok (.invokespecial 19, 3) := by decide +kernel
theorem dL_law_7 : decode cL_law 7 = .ok (.astore_n 1, 1) := by decide +kernel
theorem dL_law_8 : decode cL_law 8 = .ok (.new 20, 3) := by decide +kernel
theorem dL_law_11 : decode cL_law 11 = .ok (.dup, 1) := by decide +kernel
theorem dL_law_12 : decode cL_law 12 = .ok (.invokespecial 22, 3) := by decide +kernel
theorem dL_law_15 : decode cL_law 15 = .ok (.astore_n 2, 1) := by decide +kernel
theorem dL_law_16 : decode cL_law 16 = .ok (.iconst 0, 1) := by decide +kernel
theorem dL_law_17 : decode cL_law 17 = .ok (.istore_n 3, 1) := by decide +kernel
theorem dL_law_18 : decode cL_law 18 = .ok (.iload_n 3, 1) := by decide +kernel
theorem dL_law_19 : decode cL_law 19 = .ok (.aload_n 0, 1) := by decide +kernel
theorem dL_law_20 : decode cL_law 20 = .ok (.arraylength, 1) := by decide +kernel
theorem dL_law_21 : decode cL_law 21 = .ok (.bipush 7, 2) := by decide +kernel
theorem dL_law_23 : decode cL_law 23 = .ok (.isub, 1) := by decide +kernel
theorem dL_law_24 : decode cL_law 24 = .ok (.if_icmp .gt 837, 3) := by decide +kernel
theorem dL_law_27 : decode cL_law 27 = .ok (.aload_n 0, 1) := by decide +kernel
theorem dL_law_28 : decode cL_law 28 = .ok (.iload_n 3, 1) := by decide +kernel
theorem dL_law_29 : decode cL_law 29 = .ok (.iaload, 1) := by decide +kernel
theorem dL_law_30 : decode cL_law 30 = .ok (.bipush 15, 2) := by decide +kernel
theorem dL_law_32 : decode cL_law 32 = .ok (.iand, 1) := by decide +kernel
theorem dL_law_33 : decode cL_law 33 = .ok (.tableswitch 822 0 14 #[75, 168, 191, 317, 341, 385, 418, 451, 494, 517, 550, 599, 702, 775, 798], 75) := by decide +kernel
theorem dL_law_108 : decode cL_law 108 = .ok (.aload_n 1, 1) := by decide +kernel
theorem dL_law_109 : decode cL_law 109 = .ok (.aload_n 0, 1) := by decide +kernel
theorem dL_law_110 : decode cL_law 110 = .ok (.iload_n 3, 1) := by decide +kernel
theorem dL_law_111 : decode cL_law 111 = .ok (.iconst 1, 1) := by decide +kernel
theorem dL_law_112 : decode cL_law 112 = .ok (.iadd, 1) := by decide +kernel
theorem dL_law_113 : decode cL_law 113 = .ok (.iaload, 1) := by decide +kernel
theorem dL_law_114 : decode cL_law 114 = .ok (.i2l, 1) := by decide +kernel
theorem dL_law_115 : decode cL_law 115 = .ok (.bipush 32, 2) := by decide +kernel
theorem dL_law_117 : decode cL_law 117 = .ok (.lshl, 1) := by decide +kernel
theorem dL_law_118 : decode cL_law 118 = .ok (.aload_n 0, 1) := by decide +kernel
theorem dL_law_119 : decode cL_law 119 = .ok (.iload_n 3, 1) := by decide +kernel
theorem dL_law_120 : decode cL_law 120 = .ok (.iconst 2, 1) := by decide +kernel
theorem dL_law_121 : decode cL_law 121 = .ok (.iadd, 1) := by decide +kernel
theorem dL_law_122 : decode cL_law 122 = .ok (.iaload, 1) := by decide +kernel
theorem dL_law_123 : decode cL_law 123 = .ok (.i2l, 1) := by decide +kernel
theorem dL_law_124 : decode cL_law 124 = .ok (.ldc2_w 23, 3) := by decide +kernel
theorem dL_law_127 : decode cL_law 127 = .ok (.land, 1) := by decide +kernel
theorem dL_law_128 : decode cL_law 128 = .ok (.lor, 1) := by decide +kernel
theorem dL_law_129 : decode cL_law 129 = .ok (.aload_n 0, 1) := by decide +kernel
theorem dL_law_130 : decode cL_law 130 = .ok (.iload_n 3, 1) := by decide +kernel
