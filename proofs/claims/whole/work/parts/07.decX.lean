/-! decode rows: printed by gen.py -/
theorem ed_14_0 : decode (ex_cod 14) 0 = .ok (.aload_n 0, 1) := by decide +kernel
theorem ed_14_1 : decode (ex_cod 14) 1 = .ok (.invokespecial 1, 3) := by decide +kernel
theorem ed_14_4 : decode (ex_cod 14) 4 = .ok (.aload_n 0, 1) := by decide +kernel
theorem ed_14_5 : decode (ex_cod 14) 5 = .ok (.iconst 1, 1) := by decide +kernel
theorem ed_14_6 : decode (ex_cod 14) 6 = .ok (.iload_n 1, 1) := by decide +kernel
theorem ed_14_7 : decode (ex_cod 14) 7 = .ok (.bipush 7, 2) := by decide +kernel
theorem ed_14_9 : decode (ex_cod 14) 9 = .ok (.invokestatic 9, 3) := by decide +kernel
theorem ed_14_12 : decode (ex_cod 14) 12 = .ok (.invokestatic 15, 3) := by decide +kernel
theorem ed_14_15 : decode (ex_cod 14) 15 = .ok (.putfield 18, 3) := by decide +kernel
theorem ed_14_18 : decode (ex_cod 14) 18 = .ok (.aload_n 0, 1) := by decide +kernel
theorem ed_14_19 : decode (ex_cod 14) 19 = .ok (.bipush 16, 2) := by decide +kernel
theorem ed_14_21 : decode (ex_cod 14) 21 = .ok (.newarray .int, 2) := by decide +kernel
theorem ed_14_23 : decode (ex_cod 14) 23 = .ok (.putfield 22, 3) := by decide +kernel
theorem ed_14_26 : decode (ex_cod 14) 26 = .ok (.aload_n 0, 1) := by decide +kernel
theorem ed_14_27 : decode (ex_cod 14) 27 = .ok (.iconst 2, 1) := by decide +kernel
theorem ed_14_28 : decode (ex_cod 14) 28 = .ok (.aload_n 0, 1) := by decide +kernel
theorem ed_14_29 : decode (ex_cod 14) 29 = .ok (.getfield 18, 3) := by decide +kernel
theorem ed_14_32 : decode (ex_cod 14) 32 = .ok (.imul, 1) := by decide +kernel
theorem ed_14_33 : decode (ex_cod 14) 33 = .ok (.newarray .int, 2) := by decide +kernel
theorem ed_14_35 : decode (ex_cod 14) 35 = .ok (.putfield 26, 3) := by decide +kernel
theorem ed_14_38 : decode (ex_cod 14) 38 = .ok (.aload_n 0, 1) := by decide +kernel
theorem ed_14_39 : decode (ex_cod 14) 39 = .ok (.new 29, 3) := by decide +kernel
theorem ed_14_42 : decode (ex_cod 14) 42 = .ok (.dup, 1) := by decide +kernel
theorem ed_14_43 : decode (ex_cod 14) 43 = .ok (.iconst 2, 1) := by decide +kernel
theorem ed_14_44 : decode (ex_cod 14) 44 = .ok (.aload_n 0, 1) := by decide +kernel
theorem ed_14_45 : decode (ex_cod 14) 45 = .ok (.getfield 18, 3) := by decide +kernel
theorem ed_14_48 : decode (ex_cod 14) 48 = .ok (.imul, 1) := by decide +kernel
theorem ed_14_49 : decode (ex_cod 14) 49 = .ok (.invokespecial 31, 3) := by decide +kernel
theorem ed_14_52 : decode (ex_cod 14) 52 = .ok (.putfield 34, 3) := by decide +kernel
theorem ed_14_55 : decode (ex_cod 14) 55 = .ok (.aload_n 0, 1) := by decide +kernel
theorem ed_14_56 : decode (ex_cod 14) 56 = .ok (.new 29, 3) := by decide +kernel
theorem ed_14_59 : decode (ex_cod 14) 59 = .ok (.dup, 1) := by decide +kernel
theorem ed_14_60 : decode (ex_cod 14) 60 = .ok (.iconst 2, 1) := by decide +kernel
theorem ed_14_61 : decode (ex_cod 14) 61 = .ok (.aload_n 0, 1) := by decide +kernel
theorem ed_14_62 : decode (ex_cod 14) 62 = .ok (.getfield 18, 3) := by decide +kernel
theorem ed_14_65 : decode (ex_cod 14) 65 = .ok (.imul, 1) := by decide +kernel
theorem ed_14_66 : decode (ex_cod 14) 66 = .ok (.invokespecial 31, 3) := by decide +kernel
theorem ed_14_69 : decode (ex_cod 14) 69 = .ok (.putfield 38, 3) := by decide +kernel
theorem ed_14_72 : decode (ex_cod 14) 72 = .ok (.aload_n 0, 1) := by decide +kernel
theorem ed_14_73 : decode (ex_cod 14) 73 = .ok (.new 41, 3) := by decide +kernel
theorem ed_14_76 : decode (ex_cod 14) 76 = .ok (.dup, 1) := by decide +kernel
theorem ed_14_77 : decode (ex_cod 14) 77 = .ok (.invokespecial 43, 3) := by decide +kernel
theorem ed_14_80 : decode (ex_cod 14) 80 = .ok (.putfield 44, 3) := by decide +kernel
theorem ed_14_83 : decode (ex_cod 14) 83 = .ok (.aload_n 0, 1) := by decide +kernel
theorem ed_14_84 : decode (ex_cod 14) 84 = .ok (.new 41, 3) := by decide +kernel
theorem ed_14_87 : decode (ex_cod 14) 87 = .ok (.dup, 1) := by decide +kernel
theorem ed_14_88 : decode (ex_cod 14) 88 = .ok (.invokespecial 43, 3) := by decide +kernel
theorem ed_14_91 : decode (ex_cod 14) 91 = .ok (.putfield 48, 3) := by decide +kernel
theorem ed_14_94 : decode (ex_cod 14) 94 = .ok (.aload_n 0, 1) := by decide +kernel
theorem ed_14_95 : decode (ex_cod 14) 95 = .ok (.new 41, 3) := by decide +kernel
theorem ed_14_98 : decode (ex_cod 14) 98 = .ok (.dup, 1) := by decide +kernel
theorem ed_14_99 : decode (ex_cod 14) 99 = .ok (.invokespecial 43, 3) := by decide +kernel
theorem ed_14_102 : decode (ex_cod 14) 102 = .ok (.putfield 51, 3) := by decide +kernel
theorem ed_14_105 : decode (ex_cod 14) 105 = .ok (.aload_n 0, 1) := by decide +kernel
theorem ed_14_106 : decode (ex_cod 14) 106 = .ok (.new 41, 3) := by decide +kernel
theorem ed_14_109 : decode (ex_cod 14) 109 = .ok (.dup, 1) := by decide +kernel
theorem ed_14_110 : decode (ex_cod 14) 110 = .ok (.invokespecial 43, 3) := by decide +kernel
theorem ed_14_113 : decode (ex_cod 14) 113 = .ok (.putfield 54, 3) := by decide +kernel
theorem ed_14_116 : decode (ex_cod 14) 116 = .ok (.aload_n 0, 1) := by decide +kernel
theorem ed_14_117 : decode (ex_cod 14) 117 = .ok (.iconst 4, 1) := by decide +kernel
theorem ed_14_118 : decode (ex_cod 14) 118 = .ok (.anewarray 41, 3) := by decide +kernel
theorem ed_14_121 : decode (ex_cod 14) 121 = .ok (.dup, 1) := by decide +kernel
theorem ed_14_122 : decode (ex_cod 14) 122 = .ok (.iconst 0, 1) := by decide +kernel
theorem ed_14_123 : decode (ex_cod 14) 123 = .ok (.aload_n 0, 1) := by decide +kernel
theorem ed_14_124 : decode (ex_cod 14) 124 = .ok (.getfield 44, 3) := by decide +kernel
theorem ed_14_127 : decode (ex_cod 14) 127 = .ok (.aastore, 1) := by decide +kernel
theorem ed_14_128 : decode (ex_cod 14) 128 = .ok (.dup, 1) := by decide +kernel
theorem ed_14_129 : decode (ex_cod 14) 129 = .ok (.iconst 1, 1) := by decide +kernel
theorem ed_14_130 : decode (ex_cod 14) 130 = .ok (.aload_n 0, 1) := by decide +kernel
theorem ed_14_131 : decode (ex_cod 14) 131 = .ok (.getfield 48, 3) := by decide +kernel
theorem ed_14_134 : decode (ex_cod 14) 134 = .ok (.aastore, 1) := by decide +kernel
theorem ed_14_135 : decode (ex_cod 14) 135 = .ok (.dup, 1) := by decide +kernel
theorem ed_14_136 : decode (ex_cod 14) 136 = .ok (.iconst 2, 1) := by decide +kernel
theorem ed_14_137 : decode (ex_cod 14) 137 = .ok (.aload_n 0, 1) := by decide +kernel
theorem ed_14_138 : decode (ex_cod 14) 138 = .ok (.getfield 51, 3) := by decide +kernel
theorem ed_14_141 : decode (ex_cod 14) 141 = .ok (.aastore, 1) := by decide +kernel
theorem ed_14_142 : decode (ex_cod 14) 142 = .ok (.dup, 1) := by decide +kernel
theorem ed_14_143 : decode (ex_cod 14) 143 = .ok (.iconst 3, 1) := by decide +kernel
theorem ed_14_144 : decode (ex_cod 14) 144 = .ok (.aload_n 0, 1) := by decide +kernel
theorem ed_14_145 : decode (ex_cod 14) 145 = .ok (.getfield 54, 3) := by decide +kernel
theorem ed_14_148 : decode (ex_cod 14) 148 = .ok (.aastore, 1) := by decide +kernel
theorem ed_14_149 : decode (ex_cod 14) 149 = .ok (.putfield 57, 3) := by decide +kernel
theorem ed_14_152 : decode (ex_cod 14) 152 = .ok (.return_, 1) := by decide +kernel
theorem ed_15_0 : decode (ex_cod 15) 0 = .ok (.iload_n 1, 1) := by decide +kernel
theorem ed_15_1 : decode (ex_cod 15) 1 = .ok (.invokestatic 61, 3) := by decide +kernel
theorem ed_15_4 : decode (ex_cod 15) 4 = .ok (.ifCond .ne 5, 3) := by decide +kernel
theorem ed_15_7 : decode (ex_cod 15) 7 = .ok (.iconst 0, 1) := by decide +kernel
theorem ed_15_8 : decode (ex_cod 15) 8 = .ok (.ireturn, 1) := by decide +kernel
theorem ed_15_9 : decode (ex_cod 15) 9 = .ok (.aload_n 0, 1) := by decide +kernel
theorem ed_15_10 : decode (ex_cod 15) 10 = .ok (.iload_n 1, 1) := by decide +kernel
theorem ed_15_11 : decode (ex_cod 15) 11 = .ok (.invokevirtual 65, 3) := by decide +kernel
theorem ed_15_14 : decode (ex_cod 15) 14 = .ok (.aload_n 0, 1) := by decide +kernel
theorem ed_15_15 : decode (ex_cod 15) 15 = .ok (.iload_n 1, 1) := by decide +kernel
theorem ed_15_16 : decode (ex_cod 15) 16 = .ok (.invokevirtual 68, 3) := by decide +kernel
theorem ed_15_19 : decode (ex_cod 15) 19 = .ok (.ireturn, 1) := by decide +kernel
theorem ed_16_0 : decode (ex_cod 16) 0 = .ok (.iload_n 1, 1) := by decide +kernel
theorem ed_16_1 : decode (ex_cod 16) 1 = .ok (.invokestatic 61, 3) := by decide +kernel
theorem ed_16_4 : decode (ex_cod 16) 4 = .ok (.ifCond .ne 5, 3) := by decide +kernel
theorem ed_16_7 : decode (ex_cod 16) 7 = .ok (.iconst (-1), 1) := by decide +kernel
theorem ed_16_8 : decode (ex_cod 16) 8 = .ok (.ireturn, 1) := by decide +kernel
theorem ed_16_9 : decode (ex_cod 16) 9 = .ok (.aload_n 0, 1) := by decide +kernel
theorem ed_16_10 : decode (ex_cod 16) 10 = .ok (.iload_n 1, 1) := by decide +kernel
theorem ed_16_11 : decode (ex_cod 16) 11 = .ok (.invokevirtual 65, 3) := by decide +kernel
theorem ed_16_14 : decode (ex_cod 16) 14 = .ok (.aload_n 0, 1) := by decide +kernel
theorem ed_16_15 : decode (ex_cod 16) 15 = .ok (.iload_n 1, 1) := by decide +kernel
theorem ed_16_16 : decode (ex_cod 16) 16 = .ok (.iload_n 2, 1) := by decide +kernel
theorem ed_16_17 : decode (ex_cod 16) 17 = .ok (.iconst 1, 1) := by decide +kernel
theorem ed_16_18 : decode (ex_cod 16) 18 = .ok (.invokevirtual 72, 3) := by decide +kernel
theorem ed_16_21 : decode (ex_cod 16) 21 = .ok (.ireturn, 1) := by decide +kernel
theorem ed_17_0 : decode (ex_cod 17) 0 = .ok (.aload_n 0, 1) := by decide +kernel
theorem ed_17_1 : decode (ex_cod 17) 1 = .ok (.invokevirtual 76, 3) := by decide +kernel
theorem ed_17_4 : decode (ex_cod 17) 4 = .ok (.aload_n 0, 1) := by decide +kernel
theorem ed_17_5 : decode (ex_cod 17) 5 = .ok (.getfield 79, 3) := by decide +kernel
theorem ed_17_8 : decode (ex_cod 17) 8 = .ok (.ireturn, 1) := by decide +kernel
theorem ed_18_0 : decode (ex_cod 18) 0 = .ok (.aload_n 0, 1) := by decide +kernel
theorem ed_18_1 : decode (ex_cod 18) 1 = .ok (.getfield 34, 3) := by decide +kernel
theorem ed_18_4 : decode (ex_cod 18) 4 = .ok (.aload_n 0, 1) := by decide +kernel
theorem ed_18_5 : decode (ex_cod 18) 5 = .ok (.getfield 79, 3) := by decide +kernel
theorem ed_18_8 : decode (ex_cod 18) 8 = .ok (.iconst 1, 1) := by decide +kernel
theorem ed_18_9 : decode (ex_cod 18) 9 = .ok (.isub, 1) := by decide +kernel
theorem ed_18_10 : decode (ex_cod 18) 10 = .ok (.invokevirtual 82, 3) := by decide +kernel
theorem ed_18_13 : decode (ex_cod 18) 13 = .ok (.istore_n 1, 1) := by decide +kernel
theorem ed_18_14 : decode (ex_cod 18) 14 = .ok (.iload_n 1, 1) := by decide +kernel
theorem ed_18_15 : decode (ex_cod 18) 15 = .ok (.iconst (-1), 1) := by decide +kernel
theorem ed_18_16 : decode (ex_cod 18) 16 = .ok (.if_icmp .ne 5, 3) := by decide +kernel
theorem ed_18_19 : decode (ex_cod 18) 19 = .ok (.iconst (-1), 1) := by decide +kernel
theorem ed_18_20 : decode (ex_cod 18) 20 = .ok (.ireturn, 1) := by decide +kernel
theorem ed_18_21 : decode (ex_cod 18) 21 = .ok (.aload_n 0, 1) := by decide +kernel
theorem ed_18_22 : decode (ex_cod 18) 22 = .ok (.iload_n 1, 1) := by decide +kernel
theorem ed_18_23 : decode (ex_cod 18) 23 = .ok (.invokevirtual 85, 3) := by decide +kernel
theorem ed_18_26 : decode (ex_cod 18) 26 = .ok (.aload_n 0, 1) := by decide +kernel
theorem ed_18_27 : decode (ex_cod 18) 27 = .ok (.getfield 34, 3) := by decide +kernel
theorem ed_18_30 : decode (ex_cod 18) 30 = .ok (.getfield 88, 3) := by decide +kernel
theorem ed_18_33 : decode (ex_cod 18) 33 = .ok (.iload_n 1, 1) := by decide +kernel
theorem ed_18_34 : decode (ex_cod 18) 34 = .ok (.iaload, 1) := by decide +kernel
theorem ed_18_35 : decode (ex_cod 18) 35 = .ok (.ireturn, 1) := by decide +kernel
theorem ed_19_0 : decode (ex_cod 19) 0 = .ok (.aload_n 0, 1) := by decide +kernel
theorem ed_19_1 : decode (ex_cod 19) 1 = .ok (.aload_n 0, 1) := by decide +kernel
theorem ed_19_2 : decode (ex_cod 19) 2 = .ok (.getfield 79, 3) := by decide +kernel
theorem ed_19_5 : decode (ex_cod 19) 5 = .ok (.invokevirtual 91, 3) := by decide +kernel
theorem ed_19_8 : decode (ex_cod 19) 8 = .ok (.istore_n 1, 1) := by decide +kernel
theorem ed_19_9 : decode (ex_cod 19) 9 = .ok (.aload_n 0, 1) := by decide +kernel
theorem ed_19_10 : decode (ex_cod 19) 10 = .ok (.getfield 34, 3) := by decide +kernel
theorem ed_19_13 : decode (ex_cod 19) 13 = .ok (.invokevirtual 94, 3) := by decide +kernel
theorem ed_19_16 : decode (ex_cod 19) 16 = .ok (.aload_n 0, 1) := by decide +kernel
theorem ed_19_17 : decode (ex_cod 19) 17 = .ok (.invokevirtual 97, 3) := by decide +kernel
theorem ed_19_20 : decode (ex_cod 19) 20 = .ok (.aload_n 0, 1) := by decide +kernel
theorem ed_19_21 : decode (ex_cod 19) 21 = .ok (.getfield 38, 3) := by decide +kernel
theorem ed_19_24 : decode (ex_cod 19) 24 = .ok (.aload_n 0, 1) := by decide +kernel
theorem ed_19_25 : decode (ex_cod 19) 25 = .ok (.getfield 34, 3) := by decide +kernel
theorem ed_19_28 : decode (ex_cod 19) 28 = .ok (.invokevirtual 100, 3) := by decide +kernel
theorem ed_19_31 : decode (ex_cod 19) 31 = .ok (.iload_n 1, 1) := by decide +kernel
theorem ed_19_32 : decode (ex_cod 19) 32 = .ok (.ireturn, 1) := by decide +kernel
theorem ed_20_0 : decode (ex_cod 20) 0 = .ok (.aload_n 0, 1) := by decide +kernel
theorem ed_20_1 : decode (ex_cod 20) 1 = .ok (.getfield 34, 3) := by decide +kernel
theorem ed_20_4 : decode (ex_cod 20) 4 = .ok (.aload_n 0, 1) := by decide +kernel
theorem ed_20_5 : decode (ex_cod 20) 5 = .ok (.getfield 38, 3) := by decide +kernel
theorem ed_20_8 : decode (ex_cod 20) 8 = .ok (.invokevirtual 100, 3) := by decide +kernel
theorem ed_20_11 : decode (ex_cod 20) 11 = .ok (.aload_n 0, 1) := by decide +kernel
theorem ed_20_12 : decode (ex_cod 20) 12 = .ok (.invokevirtual 97, 3) := by decide +kernel
theorem ed_20_15 : decode (ex_cod 20) 15 = .ok (.iconst 0, 1) := by decide +kernel
theorem ed_20_16 : decode (ex_cod 20) 16 = .ok (.istore_n 1, 1) := by decide +kernel
theorem ed_20_17 : decode (ex_cod 20) 17 = .ok (.iload_n 1, 1) := by decide +kernel
theorem ed_20_18 : decode (ex_cod 20) 18 = .ok (.aload_n 0, 1) := by decide +kernel
theorem ed_20_19 : decode (ex_cod 20) 19 = .ok (.getfield 34, 3) := by decide +kernel
theorem ed_20_22 : decode (ex_cod 20) 22 = .ok (.getfield 88, 3) := by decide +kernel
theorem ed_20_25 : decode (ex_cod 20) 25 = .ok (.arraylength, 1) := by decide +kernel
theorem ed_20_26 : decode (ex_cod 20) 26 = .ok (.if_icmp .ge 38, 3) := by decide +kernel
theorem ed_20_29 : decode (ex_cod 20) 29 = .ok (.aload_n 0, 1) := by decide +kernel
theorem ed_20_30 : decode (ex_cod 20) 30 = .ok (.getfield 34, 3) := by decide +kernel
theorem ed_20_33 : decode (ex_cod 20) 33 = .ok (.getfield 88, 3) := by decide +kernel
theorem ed_20_36 : decode (ex_cod 20) 36 = .ok (.iload_n 1, 1) := by decide +kernel
theorem ed_20_37 : decode (ex_cod 20) 37 = .ok (.iaload, 1) := by decide +kernel
theorem ed_20_38 : decode (ex_cod 20) 38 = .ok (.iconst (-1), 1) := by decide +kernel
theorem ed_20_39 : decode (ex_cod 20) 39 = .ok (.if_icmp .eq 19, 3) := by decide +kernel
theorem ed_20_42 : decode (ex_cod 20) 42 = .ok (.aload_n 0, 1) := by decide +kernel
theorem ed_20_43 : decode (ex_cod 20) 43 = .ok (.getfield 44, 3) := by decide +kernel
theorem ed_20_46 : decode (ex_cod 20) 46 = .ok (.aload_n 0, 1) := by decide +kernel
theorem ed_20_47 : decode (ex_cod 20) 47 = .ok (.getfield 34, 3) := by decide +kernel
theorem ed_20_50 : decode (ex_cod 20) 50 = .ok (.getfield 88, 3) := by decide +kernel
theorem ed_20_53 : decode (ex_cod 20) 53 = .ok (.iload_n 1, 1) := by decide +kernel
theorem ed_20_54 : decode (ex_cod 20) 54 = .ok (.iaload, 1) := by decide +kernel
theorem ed_20_55 : decode (ex_cod 20) 55 = .ok (.invokevirtual 104, 3) := by decide +kernel
theorem ed_20_58 : decode (ex_cod 20) 58 = .ok (.iinc 1 1, 3) := by decide +kernel
theorem ed_20_61 : decode (ex_cod 20) 61 = .ok (.goto (-44), 3) := by decide +kernel
theorem ed_20_64 : decode (ex_cod 20) 64 = .ok (.aload_n 0, 1) := by decide +kernel
theorem ed_20_65 : decode (ex_cod 20) 65 = .ok (.getfield 44, 3) := by decide +kernel
theorem ed_20_68 : decode (ex_cod 20) 68 = .ok (.invokevirtual 107, 3) := by decide +kernel
theorem ed_20_71 : decode (ex_cod 20) 71 = .ok (.ireturn, 1) := by decide +kernel
theorem ed_21_0 : decode (ex_cod 21) 0 = .ok (.aload_n 0, 1) := by decide +kernel
theorem ed_21_1 : decode (ex_cod 21) 1 = .ok (.getfield 34, 3) := by decide +kernel
theorem ed_21_4 : decode (ex_cod 21) 4 = .ok (.invokevirtual 111, 3) := by decide +kernel
theorem ed_21_7 : decode (ex_cod 21) 7 = .ok (.istore_n 1, 1) := by decide +kernel
theorem ed_21_8 : decode (ex_cod 21) 8 = .ok (.aload_n 0, 1) := by decide +kernel
theorem ed_21_9 : decode (ex_cod 21) 9 = .ok (.getfield 34, 3) := by decide +kernel
theorem ed_21_12 : decode (ex_cod 21) 12 = .ok (.invokevirtual 94, 3) := by decide +kernel
theorem ed_21_15 : decode (ex_cod 21) 15 = .ok (.aload_n 0, 1) := by decide +kernel
theorem ed_21_16 : decode (ex_cod 21) 16 = .ok (.getfield 38, 3) := by decide +kernel
theorem ed_21_19 : decode (ex_cod 21) 19 = .ok (.invokevirtual 94, 3) := by decide +kernel
theorem ed_21_22 : decode (ex_cod 21) 22 = .ok (.aload_n 0, 1) := by decide +kernel
theorem ed_21_23 : decode (ex_cod 21) 23 = .ok (.invokevirtual 97, 3) := by decide +kernel
theorem ed_21_26 : decode (ex_cod 21) 26 = .ok (.aload_n 0, 1) := by decide +kernel
theorem ed_21_27 : decode (ex_cod 21) 27 = .ok (.iconst 0, 1) := by decide +kernel
theorem ed_21_28 : decode (ex_cod 21) 28 = .ok (.putfield 79, 3) := by decide +kernel
theorem ed_21_31 : decode (ex_cod 21) 31 = .ok (.iload_n 1, 1) := by decide +kernel
theorem ed_21_32 : decode (ex_cod 21) 32 = .ok (.ireturn, 1) := by decide +kernel
theorem ed_22_0 : decode (ex_cod 22) 0 = .ok (.aload_n 0, 1) := by decide +kernel
theorem ed_22_1 : decode (ex_cod 22) 1 = .ok (.getfield 114, 3) := by decide +kernel
theorem ed_22_4 : decode (ex_cod 22) 4 = .ok (.ireturn, 1) := by decide +kernel
theorem ed_23_0 : decode (ex_cod 23) 0 = .ok (.iload_n 1, 1) := by decide +kernel
theorem ed_23_1 : decode (ex_cod 23) 1 = .ok (.invokestatic 61, 3) := by decide +kernel
theorem ed_23_4 : decode (ex_cod 23) 4 = .ok (.ifCond .eq 11, 3) := by decide +kernel
theorem ed_23_7 : decode (ex_cod 23) 7 = .ok (.aload_n 0, 1) := by decide +kernel
theorem ed_23_8 : decode (ex_cod 23) 8 = .ok (.iload_n 1, 1) := by decide +kernel
theorem ed_23_9 : decode (ex_cod 23) 9 = .ok (.invokevirtual 68, 3) := by decide +kernel
theorem ed_23_12 : decode (ex_cod 23) 12 = .ok (.goto 4, 3) := by decide +kernel
theorem ed_23_15 : decode (ex_cod 23) 15 = .ok (.iconst 0, 1) := by decide +kernel
theorem ed_23_16 : decode (ex_cod 23) 16 = .ok (.ireturn, 1) := by decide +kernel
theorem ed_24_0 : decode (ex_cod 24) 0 = .ok (.iload_n 1, 1) := by decide +kernel
theorem ed_24_1 : decode (ex_cod 24) 1 = .ok (.invokestatic 61, 3) := by decide +kernel
theorem ed_24_4 : decode (ex_cod 24) 4 = .ok (.ifCond .eq 12, 3) := by decide +kernel
theorem ed_24_7 : decode (ex_cod 24) 7 = .ok (.aload_n 0, 1) := by decide +kernel
theorem ed_24_8 : decode (ex_cod 24) 8 = .ok (.getfield 22, 3) := by decide +kernel
theorem ed_24_11 : decode (ex_cod 24) 11 = .ok (.iload_n 1, 1) := by decide +kernel
theorem ed_24_12 : decode (ex_cod 24) 12 = .ok (.iaload, 1) := by decide +kernel
theorem ed_24_13 : decode (ex_cod 24) 13 = .ok (.goto 4, 3) := by decide +kernel
theorem ed_24_16 : decode (ex_cod 24) 16 = .ok (.iconst 0, 1) := by decide +kernel
theorem ed_24_17 : decode (ex_cod 24) 17 = .ok (.ireturn, 1) := by decide +kernel
theorem ed_25_0 : decode (ex_cod 25) 0 = .ok (.aload_n 0, 1) := by decide +kernel
theorem ed_25_1 : decode (ex_cod 25) 1 = .ok (.getfield 34, 3) := by decide +kernel
theorem ed_25_4 : decode (ex_cod 25) 4 = .ok (.iload_n 1, 1) := by decide +kernel
theorem ed_25_5 : decode (ex_cod 25) 5 = .ok (.invokevirtual 118, 3) := by decide +kernel
theorem ed_25_8 : decode (ex_cod 25) 8 = .ok (.ireturn, 1) := by decide +kernel
theorem ed_26_0 : decode (ex_cod 26) 0 = .ok (.aload_n 0, 1) := by decide +kernel
theorem ed_26_1 : decode (ex_cod 26) 1 = .ok (.getfield 38, 3) := by decide +kernel
theorem ed_26_4 : decode (ex_cod 26) 4 = .ok (.iload_n 1, 1) := by decide +kernel
theorem ed_26_5 : decode (ex_cod 26) 5 = .ok (.invokevirtual 118, 3) := by decide +kernel
theorem ed_26_8 : decode (ex_cod 26) 8 = .ok (.ireturn, 1) := by decide +kernel
theorem ed_27_0 : decode (ex_cod 27) 0 = .ok (.aload_n 0, 1) := by decide +kernel
theorem ed_27_1 : decode (ex_cod 27) 1 = .ok (.getfield 34, 3) := by decide +kernel
theorem ed_27_4 : decode (ex_cod 27) 4 = .ok (.iload_n 1, 1) := by decide +kernel
theorem ed_27_5 : decode (ex_cod 27) 5 = .ok (.invokevirtual 118, 3) := by decide +kernel
theorem ed_27_8 : decode (ex_cod 27) 8 = .ok (.istore_n 2, 1) := by decide +kernel
theorem ed_27_9 : decode (ex_cod 27) 9 = .ok (.iload_n 2, 1) := by decide +kernel
theorem ed_27_10 : decode (ex_cod 27) 10 = .ok (.iconst (-1), 1) := by decide +kernel
theorem ed_27_11 : decode (ex_cod 27) 11 = .ok (.if_icmp .ne 7, 3) := by decide +kernel
theorem ed_27_14 : decode (ex_cod 27) 14 = .ok (.iconst (-1), 1) := by decide +kernel
theorem ed_27_15 : decode (ex_cod 27) 15 = .ok (.goto 12, 3) := by decide +kernel
theorem ed_27_18 : decode (ex_cod 27) 18 = .ok (.aload_n 0, 1) := by decide +kernel
theorem ed_27_19 : decode (ex_cod 27) 19 = .ok (.getfield 34, 3) := by decide +kernel
theorem ed_27_22 : decode (ex_cod 27) 22 = .ok (.getfield 121, 3) := by decide +kernel
theorem ed_27_25 : decode (ex_cod 27) 25 = .ok (.iload_n 2, 1) := by decide +kernel
theorem ed_27_26 : decode (ex_cod 27) 26 = .ok (.iaload, 1) := by decide +kernel
theorem ed_27_27 : decode (ex_cod 27) 27 = .ok (.ireturn, 1) := by decide +kernel
theorem ed_28_0 : decode (ex_cod 28) 0 = .ok (.iconst 0, 1) := by decide +kernel
theorem ed_28_1 : decode (ex_cod 28) 1 = .ok (.istore_n 2, 1) := by decide +kernel
theorem ed_28_2 : decode (ex_cod 28) 2 = .ok (.iload_n 2, 1) := by decide +kernel
theorem ed_28_3 : decode (ex_cod 28) 3 = .ok (.aload_n 0, 1) := by decide +kernel
theorem ed_28_4 : decode (ex_cod 28) 4 = .ok (.getfield 57, 3) := by decide +kernel
theorem ed_28_7 : decode (ex_cod 28) 7 = .ok (.arraylength, 1) := by decide +kernel
theorem ed_28_8 : decode (ex_cod 28) 8 = .ok (.if_icmp .ge 26, 3) := by decide +kernel
theorem ed_28_11 : decode (ex_cod 28) 11 = .ok (.aload_n 0, 1) := by decide +kernel
theorem ed_28_12 : decode (ex_cod 28) 12 = .ok (.getfield 57, 3) := by decide +kernel
theorem ed_28_15 : decode (ex_cod 28) 15 = .ok (.iload_n 2, 1) := by decide +kernel
theorem ed_28_16 : decode (ex_cod 28) 16 = .ok (.aaload, 1) := by decide +kernel
theorem ed_28_17 : decode (ex_cod 28) 17 = .ok (.iload_n 1, 1) := by decide +kernel
theorem ed_28_18 : decode (ex_cod 28) 18 = .ok (.invokevirtual 124, 3) := by decide +kernel
theorem ed_28_21 : decode (ex_cod 28) 21 = .ok (.ifCond .eq 7, 3) := by decide +kernel
theorem ed_28_24 : decode (ex_cod 28) 24 = .ok (.iload_n 2, 1) := by decide +kernel
theorem ed_28_25 : decode (ex_cod 28) 25 = .ok (.iconst 1, 1) := by decide +kernel
theorem ed_28_26 : decode (ex_cod 28) 26 = .ok (.iadd, 1) := by decide +kernel
theorem ed_28_27 : decode (ex_cod 28) 27 = .ok (.ireturn, 1) := by decide +kernel
theorem ed_28_28 : decode (ex_cod 28) 28 = .ok (.iinc 2 1, 3) := by decide +kernel
theorem ed_28_31 : decode (ex_cod 28) 31 = .ok (.goto (-29), 3) := by decide +kernel
theorem ed_28_34 : decode (ex_cod 28) 34 = .ok (.iconst 0, 1) := by decide +kernel
theorem ed_28_35 : decode (ex_cod 28) 35 = .ok (.ireturn, 1) := by decide +kernel
theorem ed_29_0 : decode (ex_cod 29) 0 = .ok (.iload_n 1, 1) := by decide +kernel
theorem ed_29_1 : decode (ex_cod 29) 1 = .ok (.iconst 1, 1) := by decide +kernel
theorem ed_29_2 : decode (ex_cod 29) 2 = .ok (.if_icmp .lt 12, 3) := by decide +kernel
theorem ed_29_5 : decode (ex_cod 29) 5 = .ok (.iload_n 1, 1) := by decide +kernel
theorem ed_29_6 : decode (ex_cod 29) 6 = .ok (.aload_n 0, 1) := by decide +kernel
theorem ed_29_7 : decode (ex_cod 29) 7 = .ok (.getfield 57, 3) := by decide +kernel
theorem ed_29_10 : decode (ex_cod 29) 10 = .ok (.arraylength, 1) := by decide +kernel
theorem ed_29_11 : decode (ex_cod 29) 11 = .ok (.if_icmp .le 5, 3) := by decide +kernel
theorem ed_29_14 : decode (ex_cod 29) 14 = .ok (.iconst (-1), 1) := by decide +kernel
theorem ed_29_15 : decode (ex_cod 29) 15 = .ok (.ireturn, 1) := by decide +kernel
theorem ed_29_16 : decode (ex_cod 29) 16 = .ok (.aload_n 0, 1) := by decide +kernel
theorem ed_29_17 : decode (ex_cod 29) 17 = .ok (.getfield 57, 3) := by decide +kernel
theorem ed_29_20 : decode (ex_cod 29) 20 = .ok (.iload_n 1, 1) := by decide +kernel
theorem ed_29_21 : decode (ex_cod 29) 21 = .ok (.iconst 1, 1) := by decide +kernel
theorem ed_29_22 : decode (ex_cod 29) 22 = .ok (.isub, 1) := by decide +kernel
theorem ed_29_23 : decode (ex_cod 29) 23 = .ok (.aaload, 1) := by decide +kernel
theorem ed_29_24 : decode (ex_cod 29) 24 = .ok (.iload_n 2, 1) := by decide +kernel
theorem ed_29_25 : decode (ex_cod 29) 25 = .ok (.invokevirtual 127, 3) := by decide +kernel
theorem ed_29_28 : decode (ex_cod 29) 28 = .ok (.ireturn, 1) := by decide +kernel
theorem ed_30_0 : decode (ex_cod 30) 0 = .ok (.aload_n 0, 1) := by decide +kernel
theorem ed_30_1 : decode (ex_cod 30) 1 = .ok (.getfield 130, 3) := by decide +kernel
theorem ed_30_4 : decode (ex_cod 30) 4 = .ok (.ireturn, 1) := by decide +kernel
theorem ed_31_0 : decode (ex_cod 31) 0 = .ok (.iconst 0, 1) := by decide +kernel
theorem ed_31_1 : decode (ex_cod 31) 1 = .ok (.istore_n 1, 1) := by decide +kernel
theorem ed_31_2 : decode (ex_cod 31) 2 = .ok (.iconst 0, 1) := by decide +kernel
theorem ed_31_3 : decode (ex_cod 31) 3 = .ok (.istore_n 2, 1) := by decide +kernel
theorem ed_31_4 : decode (ex_cod 31) 4 = .ok (.iload_n 2, 1) := by decide +kernel
theorem ed_31_5 : decode (ex_cod 31) 5 = .ok (.aload_n 0, 1) := by decide +kernel
theorem ed_31_6 : decode (ex_cod 31) 6 = .ok (.getfield 26, 3) := by decide +kernel
theorem ed_31_9 : decode (ex_cod 31) 9 = .ok (.arraylength, 1) := by decide +kernel
theorem ed_31_10 : decode (ex_cod 31) 10 = .ok (.if_icmp .ge 20, 3) := by decide +kernel
theorem ed_31_13 : decode (ex_cod 31) 13 = .ok (.aload_n 0, 1) := by decide +kernel
theorem ed_31_14 : decode (ex_cod 31) 14 = .ok (.iload_n 2, 1) := by decide +kernel
theorem ed_31_15 : decode (ex_cod 31) 15 = .ok (.invokevirtual 133, 3) := by decide +kernel
theorem ed_31_18 : decode (ex_cod 31) 18 = .ok (.ifCond .eq 6, 3) := by decide +kernel
theorem ed_31_21 : decode (ex_cod 31) 21 = .ok (.iinc 1 1, 3) := by decide +kernel
theorem ed_31_24 : decode (ex_cod 31) 24 = .ok (.iinc 2 1, 3) := by decide +kernel
theorem ed_31_27 : decode (ex_cod 31) 27 = .ok (.goto (-23), 3) := by decide +kernel
theorem ed_31_30 : decode (ex_cod 31) 30 = .ok (.iload_n 1, 1) := by decide +kernel
theorem ed_31_31 : decode (ex_cod 31) 31 = .ok (.ireturn, 1) := by decide +kernel
theorem ed_32_0 : decode (ex_cod 32) 0 = .ok (.aload_n 0, 1) := by decide +kernel
theorem ed_32_1 : decode (ex_cod 32) 1 = .ok (.getfield 136, 3) := by decide +kernel
theorem ed_32_4 : decode (ex_cod 32) 4 = .ok (.ireturn, 1) := by decide +kernel
theorem ed_33_0 : decode (ex_cod 33) 0 = .ok (.iload_n 0, 1) := by decide +kernel
theorem ed_33_1 : decode (ex_cod 33) 1 = .ok (.ifCond .lt 13, 3) := by decide +kernel
theorem ed_33_4 : decode (ex_cod 33) 4 = .ok (.iload_n 0, 1) := by decide +kernel
theorem ed_33_5 : decode (ex_cod 33) 5 = .ok (.bipush 16, 2) := by decide +kernel
theorem ed_33_7 : decode (ex_cod 33) 7 = .ok (.if_icmp .ge 7, 3) := by decide +kernel
theorem ed_33_10 : decode (ex_cod 33) 10 = .ok (.iconst 1, 1) := by decide +kernel
theorem ed_33_11 : decode (ex_cod 33) 11 = .ok (.goto 4, 3) := by decide +kernel
theorem ed_33_14 : decode (ex_cod 33) 14 = .ok (.iconst 0, 1) := by decide +kernel
theorem ed_33_15 : decode (ex_cod 33) 15 = .ok (.ireturn, 1) := by decide +kernel
theorem ed_34_0 : decode (ex_cod 34) 0 = .ok (.aload_n 0, 1) := by decide +kernel
theorem ed_34_1 : decode (ex_cod 34) 1 = .ok (.getfield 34, 3) := by decide +kernel
theorem ed_34_4 : decode (ex_cod 34) 4 = .ok (.iload_n 1, 1) := by decide +kernel
theorem ed_34_5 : decode (ex_cod 34) 5 = .ok (.invokevirtual 118, 3) := by decide +kernel
theorem ed_34_8 : decode (ex_cod 34) 8 = .ok (.istore_n 2, 1) := by decide +kernel
theorem ed_34_9 : decode (ex_cod 34) 9 = .ok (.iload_n 2, 1) := by decide +kernel
theorem ed_34_10 : decode (ex_cod 34) 10 = .ok (.iconst (-1), 1) := by decide +kernel
theorem ed_34_11 : decode (ex_cod 34) 11 = .ok (.if_icmp .ne 12, 3) := by decide +kernel
theorem ed_34_14 : decode (ex_cod 34) 14 = .ok (.aload_n 0, 1) := by decide +kernel
theorem ed_34_15 : decode (ex_cod 34) 15 = .ok (.getfield 22, 3) := by decide +kernel
theorem ed_34_18 : decode (ex_cod 34) 18 = .ok (.iload_n 1, 1) := by decide +kernel
theorem ed_34_19 : decode (ex_cod 34) 19 = .ok (.iaload, 1) := by decide +kernel
theorem ed_34_20 : decode (ex_cod 34) 20 = .ok (.goto 9, 3) := by decide +kernel
theorem ed_34_23 : decode (ex_cod 34) 23 = .ok (.aload_n 0, 1) := by decide +kernel
theorem ed_34_24 : decode (ex_cod 34) 24 = .ok (.getfield 26, 3) := by decide +kernel
theorem ed_34_27 : decode (ex_cod 34) 27 = .ok (.iload_n 2, 1) := by decide +kernel
theorem ed_34_28 : decode (ex_cod 34) 28 = .ok (.iaload, 1) := by decide +kernel
theorem ed_34_29 : decode (ex_cod 34) 29 = .ok (.ireturn, 1) := by decide +kernel
theorem ed_35_0 : decode (ex_cod 35) 0 = .ok (.aload_n 0, 1) := by decide +kernel
theorem ed_35_1 : decode (ex_cod 35) 1 = .ok (.aload_n 0, 1) := by decide +kernel
theorem ed_35_2 : decode (ex_cod 35) 2 = .ok (.getfield 44, 3) := by decide +kernel
theorem ed_35_5 : decode (ex_cod 35) 5 = .ok (.iload_n 1, 1) := by decide +kernel
theorem ed_35_6 : decode (ex_cod 35) 6 = .ok (.invokevirtual 124, 3) := by decide +kernel
theorem ed_35_9 : decode (ex_cod 35) 9 = .ok (.ifCond .ne 14, 3) := by decide +kernel
theorem ed_35_12 : decode (ex_cod 35) 12 = .ok (.aload_n 0, 1) := by decide +kernel
theorem ed_35_13 : decode (ex_cod 35) 13 = .ok (.getfield 48, 3) := by decide +kernel
theorem ed_35_16 : decode (ex_cod 35) 16 = .ok (.iload_n 1, 1) := by decide +kernel
theorem ed_35_17 : decode (ex_cod 35) 17 = .ok (.invokevirtual 124, 3) := by decide +kernel
theorem ed_35_20 : decode (ex_cod 35) 20 = .ok (.ifCond .eq 7, 3) := by decide +kernel
theorem ed_35_23 : decode (ex_cod 35) 23 = .ok (.iconst 1, 1) := by decide +kernel
theorem ed_35_24 : decode (ex_cod 35) 24 = .ok (.goto 4, 3) := by decide +kernel
theorem ed_35_27 : decode (ex_cod 35) 27 = .ok (.iconst 0, 1) := by decide +kernel
theorem ed_35_28 : decode (ex_cod 35) 28 = .ok (.putfield 114, 3) := by decide +kernel
theorem ed_35_31 : decode (ex_cod 35) 31 = .ok (.aload_n 0, 1) := by decide +kernel
theorem ed_35_32 : decode (ex_cod 35) 32 = .ok (.getfield 114, 3) := by decide +kernel
theorem ed_35_35 : decode (ex_cod 35) 35 = .ok (.ifCond .eq 13, 3) := by decide +kernel
theorem ed_35_38 : decode (ex_cod 35) 38 = .ok (.aload_n 0, 1) := by decide +kernel
theorem ed_35_39 : decode (ex_cod 35) 39 = .ok (.aload_n 0, 1) := by decide +kernel
theorem ed_35_40 : decode (ex_cod 35) 40 = .ok (.getfield 48, 3) := by decide +kernel
theorem ed_35_43 : decode (ex_cod 35) 43 = .ok (.iload_n 1, 1) := by decide +kernel
theorem ed_35_44 : decode (ex_cod 35) 44 = .ok (.invokevirtual 139, 3) := by decide +kernel
theorem ed_35_47 : decode (ex_cod 35) 47 = .ok (.return_, 1) := by decide +kernel
theorem ed_35_48 : decode (ex_cod 35) 48 = .ok (.aload_n 0, 1) := by decide +kernel
theorem ed_35_49 : decode (ex_cod 35) 49 = .ok (.getfield 51, 3) := by decide +kernel
theorem ed_35_52 : decode (ex_cod 35) 52 = .ok (.iload_n 1, 1) := by decide +kernel
theorem ed_35_53 : decode (ex_cod 35) 53 = .ok (.invokevirtual 124, 3) := by decide +kernel
theorem ed_35_56 : decode (ex_cod 35) 56 = .ok (.ifCond .eq 53, 3) := by decide +kernel
theorem ed_35_59 : decode (ex_cod 35) 59 = .ok (.aload_n 0, 1) := by decide +kernel
theorem ed_35_60 : decode (ex_cod 35) 60 = .ok (.aload_n 0, 1) := by decide +kernel
theorem ed_35_61 : decode (ex_cod 35) 61 = .ok (.getfield 18, 3) := by decide +kernel
theorem ed_35_64 : decode (ex_cod 35) 64 = .ok (.aload_n 0, 1) := by decide +kernel
theorem ed_35_65 : decode (ex_cod 35) 65 = .ok (.getfield 130, 3) := by decide +kernel
theorem ed_35_68 : decode (ex_cod 35) 68 = .ok (.aload_n 0, 1) := by decide +kernel
theorem ed_35_69 : decode (ex_cod 35) 69 = .ok (.getfield 54, 3) := by decide +kernel
theorem ed_35_72 : decode (ex_cod 35) 72 = .ok (.invokevirtual 107, 3) := by decide +kernel
theorem ed_35_75 : decode (ex_cod 35) 75 = .ok (.aload_n 0, 1) := by decide +kernel
theorem ed_35_76 : decode (ex_cod 35) 76 = .ok (.getfield 51, 3) := by decide +kernel
theorem ed_35_79 : decode (ex_cod 35) 79 = .ok (.invokevirtual 107, 3) := by decide +kernel
theorem ed_35_82 : decode (ex_cod 35) 82 = .ok (.invokestatic 143, 3) := by decide +kernel
theorem ed_35_85 : decode (ex_cod 35) 85 = .ok (.iadd, 1) := by decide +kernel
theorem ed_35_86 : decode (ex_cod 35) 86 = .ok (.invokestatic 9, 3) := by decide +kernel
theorem ed_35_89 : decode (ex_cod 35) 89 = .ok (.putfield 130, 3) := by decide +kernel
theorem ed_35_92 : decode (ex_cod 35) 92 = .ok (.aload_n 0, 1) := by decide +kernel
theorem ed_35_93 : decode (ex_cod 35) 93 = .ok (.iload_n 1, 1) := by decide +kernel
theorem ed_35_94 : decode (ex_cod 35) 94 = .ok (.invokevirtual 146, 3) := by decide +kernel
theorem ed_35_97 : decode (ex_cod 35) 97 = .ok (.aload_n 0, 1) := by decide +kernel
theorem ed_35_98 : decode (ex_cod 35) 98 = .ok (.aload_n 0, 1) := by decide +kernel
theorem ed_35_99 : decode (ex_cod 35) 99 = .ok (.getfield 48, 3) := by decide +kernel
theorem ed_35_102 : decode (ex_cod 35) 102 = .ok (.iload_n 1, 1) := by decide +kernel
theorem ed_35_103 : decode (ex_cod 35) 103 = .ok (.invokevirtual 139, 3) := by decide +kernel
theorem ed_35_106 : decode (ex_cod 35) 106 = .ok (.goto 75, 3) := by decide +kernel
theorem ed_35_109 : decode (ex_cod 35) 109 = .ok (.aload_n 0, 1) := by decide +kernel
theorem ed_35_110 : decode (ex_cod 35) 110 = .ok (.getfield 54, 3) := by decide +kernel
theorem ed_35_113 : decode (ex_cod 35) 113 = .ok (.iload_n 1, 1) := by decide +kernel
theorem ed_35_114 : decode (ex_cod 35) 114 = .ok (.invokevirtual 124, 3) := by decide +kernel
theorem ed_35_117 : decode (ex_cod 35) 117 = .ok (.ifCond .eq 50, 3) := by decide +kernel
theorem ed_35_120 : decode (ex_cod 35) 120 = .ok (.aload_n 0, 1) := by decide +kernel
theorem ed_35_121 : decode (ex_cod 35) 121 = .ok (.iconst 0, 1) := by decide +kernel
theorem ed_35_122 : decode (ex_cod 35) 122 = .ok (.aload_n 0, 1) := by decide +kernel
theorem ed_35_123 : decode (ex_cod 35) 123 = .ok (.getfield 130, 3) := by decide +kernel
theorem ed_35_126 : decode (ex_cod 35) 126 = .ok (.aload_n 0, 1) := by decide +kernel
theorem ed_35_127 : decode (ex_cod 35) 127 = .ok (.getfield 51, 3) := by decide +kernel
theorem ed_35_130 : decode (ex_cod 35) 130 = .ok (.invokevirtual 107, 3) := by decide +kernel
theorem ed_35_133 : decode (ex_cod 35) 133 = .ok (.aload_n 0, 1) := by decide +kernel
theorem ed_35_134 : decode (ex_cod 35) 134 = .ok (.getfield 54, 3) := by decide +kernel
theorem ed_35_137 : decode (ex_cod 35) 137 = .ok (.invokevirtual 107, 3) := by decide +kernel
theorem ed_35_140 : decode (ex_cod 35) 140 = .ok (.invokestatic 143, 3) := by decide +kernel
theorem ed_35_143 : decode (ex_cod 35) 143 = .ok (.isub, 1) := by decide +kernel
theorem ed_35_144 : decode (ex_cod 35) 144 = .ok (.invokestatic 15, 3) := by decide +kernel
theorem ed_35_147 : decode (ex_cod 35) 147 = .ok (.putfield 130, 3) := by decide +kernel
theorem ed_35_150 : decode (ex_cod 35) 150 = .ok (.aload_n 0, 1) := by decide +kernel
theorem ed_35_151 : decode (ex_cod 35) 151 = .ok (.iload_n 1, 1) := by decide +kernel
theorem ed_35_152 : decode (ex_cod 35) 152 = .ok (.invokevirtual 146, 3) := by decide +kernel
theorem ed_35_155 : decode (ex_cod 35) 155 = .ok (.aload_n 0, 1) := by decide +kernel
theorem ed_35_156 : decode (ex_cod 35) 156 = .ok (.aload_n 0, 1) := by decide +kernel
theorem ed_35_157 : decode (ex_cod 35) 157 = .ok (.getfield 48, 3) := by decide +kernel
theorem ed_35_160 : decode (ex_cod 35) 160 = .ok (.iload_n 1, 1) := by decide +kernel
theorem ed_35_161 : decode (ex_cod 35) 161 = .ok (.invokevirtual 139, 3) := by decide +kernel
theorem ed_35_164 : decode (ex_cod 35) 164 = .ok (.goto 17, 3) := by decide +kernel
theorem ed_35_167 : decode (ex_cod 35) 167 = .ok (.aload_n 0, 1) := by decide +kernel
theorem ed_35_168 : decode (ex_cod 35) 168 = .ok (.iload_n 1, 1) := by decide +kernel
theorem ed_35_169 : decode (ex_cod 35) 169 = .ok (.invokevirtual 149, 3) := by decide +kernel
theorem ed_35_172 : decode (ex_cod 35) 172 = .ok (.aload_n 0, 1) := by decide +kernel
theorem ed_35_173 : decode (ex_cod 35) 173 = .ok (.aload_n 0, 1) := by decide +kernel
theorem ed_35_174 : decode (ex_cod 35) 174 = .ok (.getfield 44, 3) := by decide +kernel
theorem ed_35_177 : decode (ex_cod 35) 177 = .ok (.iload_n 1, 1) := by decide +kernel
theorem ed_35_178 : decode (ex_cod 35) 178 = .ok (.invokevirtual 139, 3) := by decide +kernel
theorem ed_35_181 : decode (ex_cod 35) 181 = .ok (.aload_n 0, 1) := by decide +kernel
theorem ed_35_182 : decode (ex_cod 35) 182 = .ok (.iload_n 1, 1) := by decide +kernel
theorem ed_35_183 : decode (ex_cod 35) 183 = .ok (.aload_n 0, 1) := by decide +kernel
theorem ed_35_184 : decode (ex_cod 35) 184 = .ok (.getfield 22, 3) := by decide +kernel
theorem ed_35_187 : decode (ex_cod 35) 187 = .ok (.iload_n 1, 1) := by decide +kernel
theorem ed_35_188 : decode (ex_cod 35) 188 = .ok (.iaload, 1) := by decide +kernel
theorem ed_35_189 : decode (ex_cod 35) 189 = .ok (.iconst 0, 1) := by decide +kernel
theorem ed_35_190 : decode (ex_cod 35) 190 = .ok (.invokevirtual 72, 3) := by decide +kernel
theorem ed_35_193 : decode (ex_cod 35) 193 = .ok (.pop, 1) := by decide +kernel
theorem ed_35_194 : decode (ex_cod 35) 194 = .ok (.return_, 1) := by decide +kernel
theorem ed_36_0 : decode (ex_cod 36) 0 = .ok (.iload_n 1, 1) := by decide +kernel
theorem ed_36_1 : decode (ex_cod 36) 1 = .ok (.iconst 1, 1) := by decide +kernel
theorem ed_36_2 : decode (ex_cod 36) 2 = .ok (.if_icmp .ge 7, 3) := by decide +kernel
theorem ed_36_5 : decode (ex_cod 36) 5 = .ok (.iconst 1, 1) := by decide +kernel
theorem ed_36_6 : decode (ex_cod 36) 6 = .ok (.goto 10, 3) := by decide +kernel
theorem ed_36_9 : decode (ex_cod 36) 9 = .ok (.iconst 1, 1) := by decide +kernel
theorem ed_36_10 : decode (ex_cod 36) 10 = .ok (.iload_n 0, 1) := by decide +kernel
theorem ed_36_11 : decode (ex_cod 36) 11 = .ok (.iload_n 1, 1) := by decide +kernel
theorem ed_36_12 : decode (ex_cod 36) 12 = .ok (.idiv, 1) := by decide +kernel
theorem ed_36_13 : decode (ex_cod 36) 13 = .ok (.invokestatic 15, 3) := by decide +kernel
theorem ed_36_16 : decode (ex_cod 36) 16 = .ok (.ireturn, 1) := by decide +kernel
theorem ed_37_0 : decode (ex_cod 37) 0 = .ok (.aload_n 0, 1) := by decide +kernel
theorem ed_37_1 : decode (ex_cod 37) 1 = .ok (.getfield 44, 3) := by decide +kernel
theorem ed_37_4 : decode (ex_cod 37) 4 = .ok (.invokevirtual 107, 3) := by decide +kernel
theorem ed_37_7 : decode (ex_cod 37) 7 = .ok (.aload_n 0, 1) := by decide +kernel
theorem ed_37_8 : decode (ex_cod 37) 8 = .ok (.getfield 51, 3) := by decide +kernel
theorem ed_37_11 : decode (ex_cod 37) 11 = .ok (.invokevirtual 107, 3) := by decide +kernel
theorem ed_37_14 : decode (ex_cod 37) 14 = .ok (.iadd, 1) := by decide +kernel
theorem ed_37_15 : decode (ex_cod 37) 15 = .ok (.istore_n 2, 1) := by decide +kernel
theorem ed_37_16 : decode (ex_cod 37) 16 = .ok (.iload_n 2, 1) := by decide +kernel
theorem ed_37_17 : decode (ex_cod 37) 17 = .ok (.aload_n 0, 1) := by decide +kernel
theorem ed_37_18 : decode (ex_cod 37) 18 = .ok (.getfield 48, 3) := by decide +kernel
theorem ed_37_21 : decode (ex_cod 37) 21 = .ok (.invokevirtual 107, 3) := by decide +kernel
theorem ed_37_24 : decode (ex_cod 37) 24 = .ok (.iadd, 1) := by decide +kernel
theorem ed_37_25 : decode (ex_cod 37) 25 = .ok (.aload_n 0, 1) := by decide +kernel
theorem ed_37_26 : decode (ex_cod 37) 26 = .ok (.getfield 54, 3) := by decide +kernel
theorem ed_37_29 : decode (ex_cod 37) 29 = .ok (.invokevirtual 107, 3) := by decide +kernel
theorem ed_37_32 : decode (ex_cod 37) 32 = .ok (.iadd, 1) := by decide +kernel
theorem ed_37_33 : decode (ex_cod 37) 33 = .ok (.istore_n 3, 1) := by decide +kernel
theorem ed_37_34 : decode (ex_cod 37) 34 = .ok (.iload_n 2, 1) := by decide +kernel
theorem ed_37_35 : decode (ex_cod 37) 35 = .ok (.aload_n 0, 1) := by decide +kernel
theorem ed_37_36 : decode (ex_cod 37) 36 = .ok (.getfield 18, 3) := by decide +kernel
theorem ed_37_39 : decode (ex_cod 37) 39 = .ok (.if_icmp .ne 64, 3) := by decide +kernel
theorem ed_37_42 : decode (ex_cod 37) 42 = .ok (.aload_n 0, 1) := by decide +kernel
theorem ed_37_43 : decode (ex_cod 37) 43 = .ok (.getfield 51, 3) := by decide +kernel
theorem ed_37_46 : decode (ex_cod 37) 46 = .ok (.invokevirtual 107, 3) := by decide +kernel
theorem ed_37_49 : decode (ex_cod 37) 49 = .ok (.ifCond .le 26, 3) := by decide +kernel
theorem ed_37_52 : decode (ex_cod 37) 52 = .ok (.aload_n 0, 1) := by decide +kernel
theorem ed_37_53 : decode (ex_cod 37) 53 = .ok (.getfield 51, 3) := by decide +kernel
theorem ed_37_56 : decode (ex_cod 37) 56 = .ok (.aload_n 0, 1) := by decide +kernel
theorem ed_37_57 : decode (ex_cod 37) 57 = .ok (.getfield 51, 3) := by decide +kernel
theorem ed_37_60 : decode (ex_cod 37) 60 = .ok (.iconst 0, 1) := by decide +kernel
theorem ed_37_61 : decode (ex_cod 37) 61 = .ok (.invokevirtual 127, 3) := by decide +kernel
theorem ed_37_64 : decode (ex_cod 37) 64 = .ok (.invokevirtual 152, 3) := by decide +kernel
theorem ed_37_67 : decode (ex_cod 37) 67 = .ok (.aload_n 0, 1) := by decide +kernel
theorem ed_37_68 : decode (ex_cod 37) 68 = .ok (.iload_n 1, 1) := by decide +kernel
theorem ed_37_69 : decode (ex_cod 37) 69 = .ok (.invokevirtual 146, 3) := by decide +kernel
theorem ed_37_72 : decode (ex_cod 37) 72 = .ok (.goto 69, 3) := by decide +kernel
theorem ed_37_75 : decode (ex_cod 37) 75 = .ok (.aload_n 0, 1) := by decide +kernel
theorem ed_37_76 : decode (ex_cod 37) 76 = .ok (.getfield 44, 3) := by decide +kernel
theorem ed_37_79 : decode (ex_cod 37) 79 = .ok (.iconst 0, 1) := by decide +kernel
theorem ed_37_80 : decode (ex_cod 37) 80 = .ok (.invokevirtual 127, 3) := by decide +kernel
theorem ed_37_83 : decode (ex_cod 37) 83 = .ok (.istore 4, 2) := by decide +kernel
theorem ed_37_85 : decode (ex_cod 37) 85 = .ok (.aload_n 0, 1) := by decide +kernel
theorem ed_37_86 : decode (ex_cod 37) 86 = .ok (.iload 4, 2) := by decide +kernel
theorem ed_37_88 : decode (ex_cod 37) 88 = .ok (.invokevirtual 155, 3) := by decide +kernel
theorem ed_37_91 : decode (ex_cod 37) 91 = .ok (.aload_n 0, 1) := by decide +kernel
theorem ed_37_92 : decode (ex_cod 37) 92 = .ok (.getfield 44, 3) := by decide +kernel
theorem ed_37_95 : decode (ex_cod 37) 95 = .ok (.iload 4, 2) := by decide +kernel
theorem ed_37_97 : decode (ex_cod 37) 97 = .ok (.invokevirtual 152, 3) := by decide +kernel
theorem ed_37_100 : decode (ex_cod 37) 100 = .ok (.goto 41, 3) := by decide +kernel
theorem ed_37_103 : decode (ex_cod 37) 103 = .ok (.iload_n 3, 1) := by decide +kernel
theorem ed_37_104 : decode (ex_cod 37) 104 = .ok (.aload_n 0, 1) := by decide +kernel
theorem ed_37_105 : decode (ex_cod 37) 105 = .ok (.getfield 18, 3) := by decide +kernel
theorem ed_37_108 : decode (ex_cod 37) 108 = .ok (.if_icmp .lt 33, 3) := by decide +kernel
theorem ed_37_111 : decode (ex_cod 37) 111 = .ok (.iload_n 3, 1) := by decide +kernel
theorem ed_37_112 : decode (ex_cod 37) 112 = .ok (.iconst 2, 1) := by decide +kernel
theorem ed_37_113 : decode (ex_cod 37) 113 = .ok (.aload_n 0, 1) := by decide +kernel
theorem ed_37_114 : decode (ex_cod 37) 114 = .ok (.getfield 18, 3) := by decide +kernel
theorem ed_37_117 : decode (ex_cod 37) 117 = .ok (.imul, 1) := by decide +kernel
theorem ed_37_118 : decode (ex_cod 37) 118 = .ok (.if_icmp .ne 18, 3) := by decide +kernel
theorem ed_37_121 : decode (ex_cod 37) 121 = .ok (.aload_n 0, 1) := by decide +kernel
theorem ed_37_122 : decode (ex_cod 37) 122 = .ok (.getfield 54, 3) := by decide +kernel
theorem ed_37_125 : decode (ex_cod 37) 125 = .ok (.aload_n 0, 1) := by decide +kernel
theorem ed_37_126 : decode (ex_cod 37) 126 = .ok (.getfield 54, 3) := by decide +kernel
theorem ed_37_129 : decode (ex_cod 37) 129 = .ok (.iconst 0, 1) := by decide +kernel
theorem ed_37_130 : decode (ex_cod 37) 130 = .ok (.invokevirtual 127, 3) := by decide +kernel
theorem ed_37_133 : decode (ex_cod 37) 133 = .ok (.invokevirtual 152, 3) := by decide +kernel
theorem ed_37_136 : decode (ex_cod 37) 136 = .ok (.aload_n 0, 1) := by decide +kernel
theorem ed_37_137 : decode (ex_cod 37) 137 = .ok (.iload_n 1, 1) := by decide +kernel
theorem ed_37_138 : decode (ex_cod 37) 138 = .ok (.invokevirtual 146, 3) := by decide +kernel
theorem ed_37_141 : decode (ex_cod 37) 141 = .ok (.return_, 1) := by decide +kernel
theorem ed_38_0 : decode (ex_cod 38) 0 = .ok (.aload_n 0, 1) := by decide +kernel
theorem ed_38_1 : decode (ex_cod 38) 1 = .ok (.getfield 44, 3) := by decide +kernel
theorem ed_38_4 : decode (ex_cod 38) 4 = .ok (.invokevirtual 107, 3) := by decide +kernel
theorem ed_38_7 : decode (ex_cod 38) 7 = .ok (.aload_n 0, 1) := by decide +kernel
theorem ed_38_8 : decode (ex_cod 38) 8 = .ok (.getfield 130, 3) := by decide +kernel
theorem ed_38_11 : decode (ex_cod 38) 11 = .ok (.if_icmp .gt 28, 3) := by decide +kernel
theorem ed_38_14 : decode (ex_cod 38) 14 = .ok (.aload_n 0, 1) := by decide +kernel
theorem ed_38_15 : decode (ex_cod 38) 15 = .ok (.getfield 44, 3) := by decide +kernel
theorem ed_38_18 : decode (ex_cod 38) 18 = .ok (.invokevirtual 107, 3) := by decide +kernel
theorem ed_38_21 : decode (ex_cod 38) 21 = .ok (.aload_n 0, 1) := by decide +kernel
theorem ed_38_22 : decode (ex_cod 38) 22 = .ok (.getfield 130, 3) := by decide +kernel
theorem ed_38_25 : decode (ex_cod 38) 25 = .ok (.if_icmp .ne 18, 3) := by decide +kernel
theorem ed_38_28 : decode (ex_cod 38) 28 = .ok (.aload_n 0, 1) := by decide +kernel
theorem ed_38_29 : decode (ex_cod 38) 29 = .ok (.getfield 54, 3) := by decide +kernel
theorem ed_38_32 : decode (ex_cod 38) 32 = .ok (.iload_n 1, 1) := by decide +kernel
theorem ed_38_33 : decode (ex_cod 38) 33 = .ok (.invokevirtual 124, 3) := by decide +kernel
theorem ed_38_36 : decode (ex_cod 38) 36 = .ok (.ifCond .eq 7, 3) := by decide +kernel
theorem ed_38_39 : decode (ex_cod 38) 39 = .ok (.iconst 1, 1) := by decide +kernel
theorem ed_38_40 : decode (ex_cod 38) 40 = .ok (.goto 4, 3) := by decide +kernel
theorem ed_38_43 : decode (ex_cod 38) 43 = .ok (.iconst 0, 1) := by decide +kernel
theorem ed_38_44 : decode (ex_cod 38) 44 = .ok (.istore_n 2, 1) := by decide +kernel
theorem ed_38_45 : decode (ex_cod 38) 45 = .ok (.aload_n 0, 1) := by decide +kernel
theorem ed_38_46 : decode (ex_cod 38) 46 = .ok (.getfield 44, 3) := by decide +kernel
theorem ed_38_49 : decode (ex_cod 38) 49 = .ok (.invokevirtual 107, 3) := by decide +kernel
theorem ed_38_52 : decode (ex_cod 38) 52 = .ok (.ifCond .le 33, 3) := by decide +kernel
theorem ed_38_55 : decode (ex_cod 38) 55 = .ok (.iload_n 2, 1) := by decide +kernel
theorem ed_38_56 : decode (ex_cod 38) 56 = .ok (.ifCond .eq 29, 3) := by decide +kernel
theorem ed_38_59 : decode (ex_cod 38) 59 = .ok (.aload_n 0, 1) := by decide +kernel
theorem ed_38_60 : decode (ex_cod 38) 60 = .ok (.getfield 44, 3) := by decide +kernel
theorem ed_38_63 : decode (ex_cod 38) 63 = .ok (.iconst 0, 1) := by decide +kernel
theorem ed_38_64 : decode (ex_cod 38) 64 = .ok (.invokevirtual 127, 3) := by decide +kernel
theorem ed_38_67 : decode (ex_cod 38) 67 = .ok (.istore_n 3, 1) := by decide +kernel
theorem ed_38_68 : decode (ex_cod 38) 68 = .ok (.aload_n 0, 1) := by decide +kernel
theorem ed_38_69 : decode (ex_cod 38) 69 = .ok (.iload_n 3, 1) := by decide +kernel
theorem ed_38_70 : decode (ex_cod 38) 70 = .ok (.invokevirtual 155, 3) := by decide +kernel
theorem ed_38_73 : decode (ex_cod 38) 73 = .ok (.aload_n 0, 1) := by decide +kernel
theorem ed_38_74 : decode (ex_cod 38) 74 = .ok (.aload_n 0, 1) := by decide +kernel
theorem ed_38_75 : decode (ex_cod 38) 75 = .ok (.getfield 51, 3) := by decide +kernel
theorem ed_38_78 : decode (ex_cod 38) 78 = .ok (.iload_n 3, 1) := by decide +kernel
theorem ed_38_79 : decode (ex_cod 38) 79 = .ok (.invokevirtual 139, 3) := by decide +kernel
theorem ed_38_82 : decode (ex_cod 38) 82 = .ok (.goto 36, 3) := by decide +kernel
theorem ed_38_85 : decode (ex_cod 38) 85 = .ok (.aload_n 0, 1) := by decide +kernel
theorem ed_38_86 : decode (ex_cod 38) 86 = .ok (.getfield 48, 3) := by decide +kernel
theorem ed_38_89 : decode (ex_cod 38) 89 = .ok (.invokevirtual 107, 3) := by decide +kernel
theorem ed_38_92 : decode (ex_cod 38) 92 = .ok (.ifCond .le 26, 3) := by decide +kernel
theorem ed_38_95 : decode (ex_cod 38) 95 = .ok (.aload_n 0, 1) := by decide +kernel
theorem ed_38_96 : decode (ex_cod 38) 96 = .ok (.getfield 48, 3) := by decide +kernel
theorem ed_38_99 : decode (ex_cod 38) 99 = .ok (.iconst 0, 1) := by decide +kernel
theorem ed_38_100 : decode (ex_cod 38) 100 = .ok (.invokevirtual 127, 3) := by decide +kernel
theorem ed_38_103 : decode (ex_cod 38) 103 = .ok (.istore_n 3, 1) := by decide +kernel
theorem ed_38_104 : decode (ex_cod 38) 104 = .ok (.aload_n 0, 1) := by decide +kernel
theorem ed_38_105 : decode (ex_cod 38) 105 = .ok (.iload_n 3, 1) := by decide +kernel
theorem ed_38_106 : decode (ex_cod 38) 106 = .ok (.invokevirtual 155, 3) := by decide +kernel
theorem ed_38_109 : decode (ex_cod 38) 109 = .ok (.aload_n 0, 1) := by decide +kernel
theorem ed_38_110 : decode (ex_cod 38) 110 = .ok (.aload_n 0, 1) := by decide +kernel
theorem ed_38_111 : decode (ex_cod 38) 111 = .ok (.getfield 54, 3) := by decide +kernel
theorem ed_38_114 : decode (ex_cod 38) 114 = .ok (.iload_n 3, 1) := by decide +kernel
theorem ed_38_115 : decode (ex_cod 38) 115 = .ok (.invokevirtual 139, 3) := by decide +kernel
theorem ed_38_118 : decode (ex_cod 38) 118 = .ok (.return_, 1) := by decide +kernel
theorem ed_39_0 : decode (ex_cod 39) 0 = .ok (.aload_n 0, 1) := by decide +kernel
theorem ed_39_1 : decode (ex_cod 39) 1 = .ok (.getfield 34, 3) := by decide +kernel
theorem ed_39_4 : decode (ex_cod 39) 4 = .ok (.iload_n 1, 1) := by decide +kernel
theorem ed_39_5 : decode (ex_cod 39) 5 = .ok (.invokevirtual 118, 3) := by decide +kernel
theorem ed_39_8 : decode (ex_cod 39) 8 = .ok (.istore_n 2, 1) := by decide +kernel
theorem ed_39_9 : decode (ex_cod 39) 9 = .ok (.iload_n 2, 1) := by decide +kernel
theorem ed_39_10 : decode (ex_cod 39) 10 = .ok (.iconst (-1), 1) := by decide +kernel
theorem ed_39_11 : decode (ex_cod 39) 11 = .ok (.if_icmp .ne 4, 3) := by decide +kernel
theorem ed_39_14 : decode (ex_cod 39) 14 = .ok (.return_, 1) := by decide +kernel
theorem ed_39_15 : decode (ex_cod 39) 15 = .ok (.aload_n 0, 1) := by decide +kernel
theorem ed_39_16 : decode (ex_cod 39) 16 = .ok (.getfield 34, 3) := by decide +kernel
theorem ed_39_19 : decode (ex_cod 39) 19 = .ok (.getfield 121, 3) := by decide +kernel
theorem ed_39_22 : decode (ex_cod 39) 22 = .ok (.iload_n 2, 1) := by decide +kernel
theorem ed_39_23 : decode (ex_cod 39) 23 = .ok (.iaload, 1) := by decide +kernel
theorem ed_39_24 : decode (ex_cod 39) 24 = .ok (.istore_n 3, 1) := by decide +kernel
theorem ed_39_25 : decode (ex_cod 39) 25 = .ok (.iload_n 3, 1) := by decide +kernel
theorem ed_39_26 : decode (ex_cod 39) 26 = .ok (.iconst (-1), 1) := by decide +kernel
theorem ed_39_27 : decode (ex_cod 39) 27 = .ok (.if_icmp .eq 21, 3) := by decide +kernel
theorem ed_39_30 : decode (ex_cod 39) 30 = .ok (.iload_n 3, 1) := by decide +kernel
theorem ed_39_31 : decode (ex_cod 39) 31 = .ok (.aload_n 0, 1) := by decide +kernel
theorem ed_39_32 : decode (ex_cod 39) 32 = .ok (.getfield 79, 3) := by decide +kernel
theorem ed_39_35 : decode (ex_cod 39) 35 = .ok (.if_icmp .ne 7, 3) := by decide +kernel
theorem ed_39_38 : decode (ex_cod 39) 38 = .ok (.aload_n 0, 1) := by decide +kernel
theorem ed_39_39 : decode (ex_cod 39) 39 = .ok (.invokevirtual 76, 3) := by decide +kernel
theorem ed_39_42 : decode (ex_cod 39) 42 = .ok (.aload_n 0, 1) := by decide +kernel
theorem ed_39_43 : decode (ex_cod 39) 43 = .ok (.iload_n 3, 1) := by decide +kernel
theorem ed_39_44 : decode (ex_cod 39) 44 = .ok (.invokevirtual 91, 3) := by decide +kernel
theorem ed_39_47 : decode (ex_cod 39) 47 = .ok (.pop, 1) := by decide +kernel
theorem ed_39_48 : decode (ex_cod 39) 48 = .ok (.aload_n 0, 1) := by decide +kernel
theorem ed_39_49 : decode (ex_cod 39) 49 = .ok (.getfield 34, 3) := by decide +kernel
theorem ed_39_52 : decode (ex_cod 39) 52 = .ok (.iload_n 2, 1) := by decide +kernel
theorem ed_39_53 : decode (ex_cod 39) 53 = .ok (.invokevirtual 158, 3) := by decide +kernel
theorem ed_39_56 : decode (ex_cod 39) 56 = .ok (.return_, 1) := by decide +kernel
theorem ed_40_0 : decode (ex_cod 40) 0 = .ok (.iconst 0, 1) := by decide +kernel
theorem ed_40_1 : decode (ex_cod 40) 1 = .ok (.istore_n 3, 1) := by decide +kernel
theorem ed_40_2 : decode (ex_cod 40) 2 = .ok (.iload_n 3, 1) := by decide +kernel
theorem ed_40_3 : decode (ex_cod 40) 3 = .ok (.aload_n 0, 1) := by decide +kernel
theorem ed_40_4 : decode (ex_cod 40) 4 = .ok (.getfield 57, 3) := by decide +kernel
theorem ed_40_7 : decode (ex_cod 40) 7 = .ok (.arraylength, 1) := by decide +kernel
theorem ed_40_8 : decode (ex_cod 40) 8 = .ok (.if_icmp .ge 19, 3) := by decide +kernel
theorem ed_40_11 : decode (ex_cod 40) 11 = .ok (.aload_n 0, 1) := by decide +kernel
theorem ed_40_12 : decode (ex_cod 40) 12 = .ok (.getfield 57, 3) := by decide +kernel
theorem ed_40_15 : decode (ex_cod 40) 15 = .ok (.iload_n 3, 1) := by decide +kernel
theorem ed_40_16 : decode (ex_cod 40) 16 = .ok (.aaload, 1) := by decide +kernel
theorem ed_40_17 : decode (ex_cod 40) 17 = .ok (.iload_n 2, 1) := by decide +kernel
theorem ed_40_18 : decode (ex_cod 40) 18 = .ok (.invokevirtual 152, 3) := by decide +kernel
theorem ed_40_21 : decode (ex_cod 40) 21 = .ok (.iinc 3 1, 3) := by decide +kernel
theorem ed_40_24 : decode (ex_cod 40) 24 = .ok (.goto (-22), 3) := by decide +kernel
theorem ed_40_27 : decode (ex_cod 40) 27 = .ok (.aload_n 1, 1) := by decide +kernel
theorem ed_40_28 : decode (ex_cod 40) 28 = .ok (.iload_n 2, 1) := by decide +kernel
theorem ed_40_29 : decode (ex_cod 40) 29 = .ok (.invokevirtual 104, 3) := by decide +kernel
theorem ed_40_32 : decode (ex_cod 40) 32 = .ok (.return_, 1) := by decide +kernel
theorem ed_41_0 : decode (ex_cod 41) 0 = .ok (.iconst 0, 1) := by decide +kernel
theorem ed_41_1 : decode (ex_cod 41) 1 = .ok (.istore_n 1, 1) := by decide +kernel
theorem ed_41_2 : decode (ex_cod 41) 2 = .ok (.iload_n 1, 1) := by decide +kernel
theorem ed_41_3 : decode (ex_cod 41) 3 = .ok (.aload_n 0, 1) := by decide +kernel
theorem ed_41_4 : decode (ex_cod 41) 4 = .ok (.getfield 57, 3) := by decide +kernel
theorem ed_41_7 : decode (ex_cod 41) 7 = .ok (.arraylength, 1) := by decide +kernel
theorem ed_41_8 : decode (ex_cod 41) 8 = .ok (.if_icmp .ge 18, 3) := by decide +kernel
theorem ed_41_11 : decode (ex_cod 41) 11 = .ok (.aload_n 0, 1) := by decide +kernel
theorem ed_41_12 : decode (ex_cod 41) 12 = .ok (.getfield 57, 3) := by decide +kernel
theorem ed_41_15 : decode (ex_cod 41) 15 = .ok (.iload_n 1, 1) := by decide +kernel
theorem ed_41_16 : decode (ex_cod 41) 16 = .ok (.aaload, 1) := by decide +kernel
theorem ed_41_17 : decode (ex_cod 41) 17 = .ok (.invokevirtual 161, 3) := by decide +kernel
theorem ed_41_20 : decode (ex_cod 41) 20 = .ok (.iinc 1 1, 3) := by decide +kernel
theorem ed_41_23 : decode (ex_cod 41) 23 = .ok (.goto (-21), 3) := by decide +kernel
theorem ed_41_26 : decode (ex_cod 41) 26 = .ok (.aload_n 0, 1) := by decide +kernel
theorem ed_41_27 : decode (ex_cod 41) 27 = .ok (.iconst 0, 1) := by decide +kernel
theorem ed_41_28 : decode (ex_cod 41) 28 = .ok (.putfield 130, 3) := by decide +kernel
theorem ed_41_31 : decode (ex_cod 41) 31 = .ok (.return_, 1) := by decide +kernel
theorem ed_42_0 : decode (ex_cod 42) 0 = .ok (.aload_n 0, 1) := by decide +kernel
theorem ed_42_1 : decode (ex_cod 42) 1 = .ok (.invokevirtual 162, 3) := by decide +kernel
theorem ed_42_4 : decode (ex_cod 42) 4 = .ok (.istore 4, 2) := by decide +kernel
theorem ed_42_6 : decode (ex_cod 42) 6 = .ok (.iload 4, 2) := by decide +kernel
theorem ed_42_8 : decode (ex_cod 42) 8 = .ok (.iconst (-1), 1) := by decide +kernel
theorem ed_42_9 : decode (ex_cod 42) 9 = .ok (.if_icmp .ne 5, 3) := by decide +kernel
theorem ed_42_12 : decode (ex_cod 42) 12 = .ok (.iconst (-1), 1) := by decide +kernel
theorem ed_42_13 : decode (ex_cod 42) 13 = .ok (.ireturn, 1) := by decide +kernel
theorem ed_42_14 : decode (ex_cod 42) 14 = .ok (.aload_n 0, 1) := by decide +kernel
theorem ed_42_15 : decode (ex_cod 42) 15 = .ok (.getfield 34, 3) := by decide +kernel
theorem ed_42_18 : decode (ex_cod 42) 18 = .ok (.iload_n 1, 1) := by decide +kernel
theorem ed_42_19 : decode (ex_cod 42) 19 = .ok (.invokevirtual 118, 3) := by decide +kernel
theorem ed_42_22 : decode (ex_cod 42) 22 = .ok (.istore 5, 2) := by decide +kernel
theorem ed_42_24 : decode (ex_cod 42) 24 = .ok (.iload 5, 2) := by decide +kernel
theorem ed_42_26 : decode (ex_cod 42) 26 = .ok (.iconst (-1), 1) := by decide +kernel
theorem ed_42_27 : decode (ex_cod 42) 27 = .ok (.if_icmp .eq 12, 3) := by decide +kernel
theorem ed_42_30 : decode (ex_cod 42) 30 = .ok (.aload_n 0, 1) := by decide +kernel
theorem ed_42_31 : decode (ex_cod 42) 31 = .ok (.getfield 34, 3) := by decide +kernel
theorem ed_42_34 : decode (ex_cod 42) 34 = .ok (.iload 5, 2) := by decide +kernel
theorem ed_42_36 : decode (ex_cod 42) 36 = .ok (.invokevirtual 158, 3) := by decide +kernel
theorem ed_42_39 : decode (ex_cod 42) 39 = .ok (.aload_n 0, 1) := by decide +kernel
theorem ed_42_40 : decode (ex_cod 42) 40 = .ok (.getfield 34, 3) := by decide +kernel
theorem ed_42_43 : decode (ex_cod 42) 43 = .ok (.getfield 88, 3) := by decide +kernel
theorem ed_42_46 : decode (ex_cod 42) 46 = .ok (.iload 4, 2) := by decide +kernel
theorem ed_42_48 : decode (ex_cod 42) 48 = .ok (.iload_n 1, 1) := by decide +kernel
theorem ed_42_49 : decode (ex_cod 42) 49 = .ok (.iastore, 1) := by decide +kernel
theorem ed_42_50 : decode (ex_cod 42) 50 = .ok (.aload_n 0, 1) := by decide +kernel
theorem ed_42_51 : decode (ex_cod 42) 51 = .ok (.getfield 34, 3) := by decide +kernel
theorem ed_42_54 : decode (ex_cod 42) 54 = .ok (.getfield 121, 3) := by decide +kernel
theorem ed_42_57 : decode (ex_cod 42) 57 = .ok (.iload 4, 2) := by decide +kernel
theorem ed_42_59 : decode (ex_cod 42) 59 = .ok (.iload_n 3, 1) := by decide +kernel
theorem ed_42_60 : decode (ex_cod 42) 60 = .ok (.ifCond .eq 10, 3) := by decide +kernel
theorem ed_42_63 : decode (ex_cod 42) 63 = .ok (.aload_n 0, 1) := by decide +kernel
theorem ed_42_64 : decode (ex_cod 42) 64 = .ok (.getfield 79, 3) := by decide +kernel
theorem ed_42_67 : decode (ex_cod 42) 67 = .ok (.goto 4, 3) := by decide +kernel
theorem ed_42_70 : decode (ex_cod 42) 70 = .ok (.iconst (-1), 1) := by decide +kernel
theorem ed_42_71 : decode (ex_cod 42) 71 = .ok (.iastore, 1) := by decide +kernel
theorem ed_42_72 : decode (ex_cod 42) 72 = .ok (.aload_n 0, 1) := by decide +kernel
theorem ed_42_73 : decode (ex_cod 42) 73 = .ok (.getfield 26, 3) := by decide +kernel
theorem ed_42_76 : decode (ex_cod 42) 76 = .ok (.iload 4, 2) := by decide +kernel
theorem ed_42_78 : decode (ex_cod 42) 78 = .ok (.iload_n 2, 1) := by decide +kernel
theorem ed_42_79 : decode (ex_cod 42) 79 = .ok (.iastore, 1) := by decide +kernel
theorem ed_42_80 : decode (ex_cod 42) 80 = .ok (.iload 4, 2) := by decide +kernel
theorem ed_42_82 : decode (ex_cod 42) 82 = .ok (.ireturn, 1) := by decide +kernel
theorem ed_43_0 : decode (ex_cod 43) 0 = .ok (.aload_n 0, 1) := by decide +kernel
theorem ed_43_1 : decode (ex_cod 43) 1 = .ok (.invokevirtual 165, 3) := by decide +kernel
theorem ed_43_4 : decode (ex_cod 43) 4 = .ok (.istore_n 1, 1) := by decide +kernel
theorem ed_43_5 : decode (ex_cod 43) 5 = .ok (.iload_n 1, 1) := by decide +kernel
theorem ed_43_6 : decode (ex_cod 43) 6 = .ok (.iconst (-1), 1) := by decide +kernel
theorem ed_43_7 : decode (ex_cod 43) 7 = .ok (.if_icmp .eq 5, 3) := by decide +kernel
theorem ed_43_10 : decode (ex_cod 43) 10 = .ok (.iload_n 1, 1) := by decide +kernel
theorem ed_43_11 : decode (ex_cod 43) 11 = .ok (.ireturn, 1) := by decide +kernel
theorem ed_43_12 : decode (ex_cod 43) 12 = .ok (.aload_n 0, 1) := by decide +kernel
theorem ed_43_13 : decode (ex_cod 43) 13 = .ok (.invokevirtual 76, 3) := by decide +kernel
theorem ed_43_16 : decode (ex_cod 43) 16 = .ok (.aload_n 0, 1) := by decide +kernel
theorem ed_43_17 : decode (ex_cod 43) 17 = .ok (.invokevirtual 165, 3) := by decide +kernel
theorem ed_43_20 : decode (ex_cod 43) 20 = .ok (.ireturn, 1) := by decide +kernel
theorem ed_44_0 : decode (ex_cod 44) 0 = .ok (.iconst 0, 1) := by decide +kernel
theorem ed_44_1 : decode (ex_cod 44) 1 = .ok (.istore_n 1, 1) := by decide +kernel
theorem ed_44_2 : decode (ex_cod 44) 2 = .ok (.iload_n 1, 1) := by decide +kernel
theorem ed_44_3 : decode (ex_cod 44) 3 = .ok (.aload_n 0, 1) := by decide +kernel
theorem ed_44_4 : decode (ex_cod 44) 4 = .ok (.getfield 26, 3) := by decide +kernel
theorem ed_44_7 : decode (ex_cod 44) 7 = .ok (.arraylength, 1) := by decide +kernel
theorem ed_44_8 : decode (ex_cod 44) 8 = .ok (.if_icmp .ge 19, 3) := by decide +kernel
theorem ed_44_11 : decode (ex_cod 44) 11 = .ok (.aload_n 0, 1) := by decide +kernel
theorem ed_44_12 : decode (ex_cod 44) 12 = .ok (.iload_n 1, 1) := by decide +kernel
theorem ed_44_13 : decode (ex_cod 44) 13 = .ok (.invokevirtual 133, 3) := by decide +kernel
theorem ed_44_16 : decode (ex_cod 44) 16 = .ok (.ifCond .eq 5, 3) := by decide +kernel
theorem ed_44_19 : decode (ex_cod 44) 19 = .ok (.iload_n 1, 1) := by decide +kernel
theorem ed_44_20 : decode (ex_cod 44) 20 = .ok (.ireturn, 1) := by decide +kernel
theorem ed_44_21 : decode (ex_cod 44) 21 = .ok (.iinc 1 1, 3) := by decide +kernel
theorem ed_44_24 : decode (ex_cod 44) 24 = .ok (.goto (-22), 3) := by decide +kernel
theorem ed_44_27 : decode (ex_cod 44) 27 = .ok (.iconst (-1), 1) := by decide +kernel
theorem ed_44_28 : decode (ex_cod 44) 28 = .ok (.ireturn, 1) := by decide +kernel
theorem ed_45_0 : decode (ex_cod 45) 0 = .ok (.aload_n 0, 1) := by decide +kernel
theorem ed_45_1 : decode (ex_cod 45) 1 = .ok (.getfield 34, 3) := by decide +kernel
theorem ed_45_4 : decode (ex_cod 45) 4 = .ok (.getfield 88, 3) := by decide +kernel
theorem ed_45_7 : decode (ex_cod 45) 7 = .ok (.iload_n 1, 1) := by decide +kernel
theorem ed_45_8 : decode (ex_cod 45) 8 = .ok (.iaload, 1) := by decide +kernel
theorem ed_45_9 : decode (ex_cod 45) 9 = .ok (.iconst (-1), 1) := by decide +kernel
theorem ed_45_10 : decode (ex_cod 45) 10 = .ok (.if_icmp .ne 20, 3) := by decide +kernel
theorem ed_45_13 : decode (ex_cod 45) 13 = .ok (.aload_n 0, 1) := by decide +kernel
theorem ed_45_14 : decode (ex_cod 45) 14 = .ok (.getfield 38, 3) := by decide +kernel
theorem ed_45_17 : decode (ex_cod 45) 17 = .ok (.getfield 88, 3) := by decide +kernel
theorem ed_45_20 : decode (ex_cod 45) 20 = .ok (.iload_n 1, 1) := by decide +kernel
theorem ed_45_21 : decode (ex_cod 45) 21 = .ok (.iaload, 1) := by decide +kernel
theorem ed_45_22 : decode (ex_cod 45) 22 = .ok (.iconst (-1), 1) := by decide +kernel
theorem ed_45_23 : decode (ex_cod 45) 23 = .ok (.if_icmp .ne 7, 3) := by decide +kernel
theorem ed_45_26 : decode (ex_cod 45) 26 = .ok (.iconst 1, 1) := by decide +kernel
theorem ed_45_27 : decode (ex_cod 45) 27 = .ok (.goto 4, 3) := by decide +kernel
theorem ed_45_30 : decode (ex_cod 45) 30 = .ok (.iconst 0, 1) := by decide +kernel
theorem ed_45_31 : decode (ex_cod 45) 31 = .ok (.ireturn, 1) := by decide +kernel
theorem ed_46_0 : decode (ex_cod 46) 0 = .ok (.aload_n 0, 1) := by decide +kernel
theorem ed_46_1 : decode (ex_cod 46) 1 = .ok (.getfield 38, 3) := by decide +kernel
theorem ed_46_4 : decode (ex_cod 46) 4 = .ok (.aload_n 0, 1) := by decide +kernel
theorem ed_46_5 : decode (ex_cod 46) 5 = .ok (.getfield 34, 3) := by decide +kernel
theorem ed_46_8 : decode (ex_cod 46) 8 = .ok (.invokevirtual 100, 3) := by decide +kernel
theorem ed_46_11 : decode (ex_cod 46) 11 = .ok (.aload_n 0, 1) := by decide +kernel
theorem ed_46_12 : decode (ex_cod 46) 12 = .ok (.dup, 1) := by decide +kernel
theorem ed_46_13 : decode (ex_cod 46) 13 = .ok (.getfield 79, 3) := by decide +kernel
theorem ed_46_16 : decode (ex_cod 46) 16 = .ok (.iconst 1, 1) := by decide +kernel
theorem ed_46_17 : decode (ex_cod 46) 17 = .ok (.iadd, 1) := by decide +kernel
theorem ed_46_18 : decode (ex_cod 46) 18 = .ok (.putfield 79, 3) := by decide +kernel
theorem ed_46_21 : decode (ex_cod 46) 21 = .ok (.return_, 1) := by decide +kernel
theorem ed_47_0 : decode (ex_cod 47) 0 = .ok (.iconst 0, 1) := by decide +kernel
theorem ed_47_1 : decode (ex_cod 47) 1 = .ok (.istore_n 2, 1) := by decide +kernel
theorem ed_47_2 : decode (ex_cod 47) 2 = .ok (.iload_n 2, 1) := by decide +kernel
theorem ed_47_3 : decode (ex_cod 47) 3 = .ok (.bipush 16, 2) := by decide +kernel
theorem ed_47_5 : decode (ex_cod 47) 5 = .ok (.if_icmp .ge 30, 3) := by decide +kernel
theorem ed_47_8 : decode (ex_cod 47) 8 = .ok (.aload_n 0, 1) := by decide +kernel
theorem ed_47_9 : decode (ex_cod 47) 9 = .ok (.getfield 34, 3) := by decide +kernel
theorem ed_47_12 : decode (ex_cod 47) 12 = .ok (.iload_n 1, 1) := by decide +kernel
theorem ed_47_13 : decode (ex_cod 47) 13 = .ok (.invokevirtual 82, 3) := by decide +kernel
theorem ed_47_16 : decode (ex_cod 47) 16 = .ok (.istore_n 3, 1) := by decide +kernel
theorem ed_47_17 : decode (ex_cod 47) 17 = .ok (.iload_n 3, 1) := by decide +kernel
theorem ed_47_18 : decode (ex_cod 47) 18 = .ok (.iconst (-1), 1) := by decide +kernel
theorem ed_47_19 : decode (ex_cod 47) 19 = .ok (.if_icmp .ne 5, 3) := by decide +kernel
theorem ed_47_22 : decode (ex_cod 47) 22 = .ok (.iload_n 2, 1) := by decide +kernel
theorem ed_47_23 : decode (ex_cod 47) 23 = .ok (.ireturn, 1) := by decide +kernel
theorem ed_47_24 : decode (ex_cod 47) 24 = .ok (.aload_n 0, 1) := by decide +kernel
theorem ed_47_25 : decode (ex_cod 47) 25 = .ok (.iload_n 3, 1) := by decide +kernel
theorem ed_47_26 : decode (ex_cod 47) 26 = .ok (.invokevirtual 85, 3) := by decide +kernel
theorem ed_47_29 : decode (ex_cod 47) 29 = .ok (.iinc 2 1, 3) := by decide +kernel
theorem ed_47_32 : decode (ex_cod 47) 32 = .ok (.goto (-30), 3) := by decide +kernel
theorem ed_47_35 : decode (ex_cod 47) 35 = .ok (.bipush 16, 2) := by decide +kernel
theorem ed_47_37 : decode (ex_cod 47) 37 = .ok (.ireturn, 1) := by decide +kernel
theorem ed_48_0 : decode (ex_cod 48) 0 = .ok (.aload_n 0, 1) := by decide +kernel
theorem ed_48_1 : decode (ex_cod 48) 1 = .ok (.getfield 22, 3) := by decide +kernel
theorem ed_48_4 : decode (ex_cod 48) 4 = .ok (.aload_n 0, 1) := by decide +kernel
theorem ed_48_5 : decode (ex_cod 48) 5 = .ok (.getfield 34, 3) := by decide +kernel
theorem ed_48_8 : decode (ex_cod 48) 8 = .ok (.getfield 88, 3) := by decide +kernel
theorem ed_48_11 : decode (ex_cod 48) 11 = .ok (.iload_n 1, 1) := by decide +kernel
theorem ed_48_12 : decode (ex_cod 48) 12 = .ok (.iaload, 1) := by decide +kernel
theorem ed_48_13 : decode (ex_cod 48) 13 = .ok (.aload_n 0, 1) := by decide +kernel
theorem ed_48_14 : decode (ex_cod 48) 14 = .ok (.getfield 26, 3) := by decide +kernel
theorem ed_48_17 : decode (ex_cod 48) 17 = .ok (.iload_n 1, 1) := by decide +kernel
theorem ed_48_18 : decode (ex_cod 48) 18 = .ok (.iaload, 1) := by decide +kernel
theorem ed_48_19 : decode (ex_cod 48) 19 = .ok (.iastore, 1) := by decide +kernel
theorem ed_48_20 : decode (ex_cod 48) 20 = .ok (.aload_n 0, 1) := by decide +kernel
theorem ed_48_21 : decode (ex_cod 48) 21 = .ok (.getfield 34, 3) := by decide +kernel
theorem ed_48_24 : decode (ex_cod 48) 24 = .ok (.getfield 121, 3) := by decide +kernel
theorem ed_48_27 : decode (ex_cod 48) 27 = .ok (.iload_n 1, 1) := by decide +kernel
theorem ed_48_28 : decode (ex_cod 48) 28 = .ok (.iconst (-1), 1) := by decide +kernel
theorem ed_48_29 : decode (ex_cod 48) 29 = .ok (.iastore, 1) := by decide +kernel
theorem ed_48_30 : decode (ex_cod 48) 30 = .ok (.aload_n 0, 1) := by decide +kernel
theorem ed_48_31 : decode (ex_cod 48) 31 = .ok (.dup, 1) := by decide +kernel
theorem ed_48_32 : decode (ex_cod 48) 32 = .ok (.getfield 136, 3) := by decide +kernel
theorem ed_48_35 : decode (ex_cod 48) 35 = .ok (.iconst 1, 1) := by decide +kernel
theorem ed_48_36 : decode (ex_cod 48) 36 = .ok (.iadd, 1) := by decide +kernel
theorem ed_48_37 : decode (ex_cod 48) 37 = .ok (.putfield 136, 3) := by decide +kernel
theorem ed_48_40 : decode (ex_cod 48) 40 = .ok (.return_, 1) := by decide +kernel
