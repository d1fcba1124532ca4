/-! decode rows: printed by gen.py -/
theorem ed_49_0 : decode (ex_cod 49) 0 = .ok (.aload_n 0, 1) := by decide +kernel
theorem ed_49_1 : decode (ex_cod 49) 1 = .ok (.invokespecial 1, 3) := by decide +kernel
theorem ed_49_4 : decode (ex_cod 49) 4 = .ok (.aload_n 0, 1) := by decide +kernel
theorem ed_49_5 : decode (ex_cod 49) 5 = .ok (.bipush 16, 2) := by decide +kernel
theorem ed_49_7 : decode (ex_cod 49) 7 = .ok (.newarray .int, 2) := by decide +kernel
theorem ed_49_9 : decode (ex_cod 49) 9 = .ok (.putfield 7, 3) := by decide +kernel
theorem ed_49_12 : decode (ex_cod 49) 12 = .ok (.aload_n 0, 1) := by decide +kernel
theorem ed_49_13 : decode (ex_cod 49) 13 = .ok (.bipush 14, 2) := by decide +kernel
theorem ed_49_15 : decode (ex_cod 49) 15 = .ok (.newarray .int, 2) := by decide +kernel
theorem ed_49_17 : decode (ex_cod 49) 17 = .ok (.putfield 13, 3) := by decide +kernel
theorem ed_49_20 : decode (ex_cod 49) 20 = .ok (.aload_n 0, 1) := by decide +kernel
theorem ed_49_21 : decode (ex_cod 49) 21 = .ok (.bipush 16, 2) := by decide +kernel
theorem ed_49_23 : decode (ex_cod 49) 23 = .ok (.newarray .int, 2) := by decide +kernel
theorem ed_49_25 : decode (ex_cod 49) 25 = .ok (.putfield 16, 3) := by decide +kernel
theorem ed_49_28 : decode (ex_cod 49) 28 = .ok (.aload_n 0, 1) := by decide +kernel
theorem ed_49_29 : decode (ex_cod 49) 29 = .ok (.bipush 16, 2) := by decide +kernel
theorem ed_49_31 : decode (ex_cod 49) 31 = .ok (.newarray .boolean, 2) := by decide +kernel
theorem ed_49_33 : decode (ex_cod 49) 33 = .ok (.putfield 19, 3) := by decide +kernel
theorem ed_49_36 : decode (ex_cod 49) 36 = .ok (.aload_n 0, 1) := by decide +kernel
theorem ed_49_37 : decode (ex_cod 49) 37 = .ok (.bipush 16, 2) := by decide +kernel
theorem ed_49_39 : decode (ex_cod 49) 39 = .ok (.newarray .int, 2) := by decide +kernel
theorem ed_49_41 : decode (ex_cod 49) 41 = .ok (.putfield 23, 3) := by decide +kernel
theorem ed_49_44 : decode (ex_cod 49) 44 = .ok (.aload_n 0, 1) := by decide +kernel
theorem ed_49_45 : decode (ex_cod 49) 45 = .ok (.bipush 16, 2) := by decide +kernel
theorem ed_49_47 : decode (ex_cod 49) 47 = .ok (.newarray .int, 2) := by decide +kernel
theorem ed_49_49 : decode (ex_cod 49) 49 = .ok (.putfield 26, 3) := by decide +kernel
theorem ed_49_52 : decode (ex_cod 49) 52 = .ok (.aload_n 0, 1) := by decide +kernel
theorem ed_49_53 : decode (ex_cod 49) 53 = .ok (.bipush 16, 2) := by decide +kernel
theorem ed_49_55 : decode (ex_cod 49) 55 = .ok (.newarray .int, 2) := by decide +kernel
theorem ed_49_57 : decode (ex_cod 49) 57 = .ok (.putfield 29, 3) := by decide +kernel
theorem ed_49_60 : decode (ex_cod 49) 60 = .ok (.aload_n 0, 1) := by decide +kernel
theorem ed_49_61 : decode (ex_cod 49) 61 = .ok (.bipush 16, 2) := by decide +kernel
theorem ed_49_63 : decode (ex_cod 49) 63 = .ok (.newarray .int, 2) := by decide +kernel
theorem ed_49_65 : decode (ex_cod 49) 65 = .ok (.putfield 32, 3) := by decide +kernel
theorem ed_49_68 : decode (ex_cod 49) 68 = .ok (.aload_n 0, 1) := by decide +kernel
theorem ed_49_69 : decode (ex_cod 49) 69 = .ok (.bipush 16, 2) := by decide +kernel
theorem ed_49_71 : decode (ex_cod 49) 71 = .ok (.newarray .boolean, 2) := by decide +kernel
theorem ed_49_73 : decode (ex_cod 49) 73 = .ok (.putfield 35, 3) := by decide +kernel
theorem ed_49_76 : decode (ex_cod 49) 76 = .ok (.aload_n 0, 1) := by decide +kernel
theorem ed_49_77 : decode (ex_cod 49) 77 = .ok (.bipush 16, 2) := by decide +kernel
theorem ed_49_79 : decode (ex_cod 49) 79 = .ok (.newarray .int, 2) := by decide +kernel
theorem ed_49_81 : decode (ex_cod 49) 81 = .ok (.putfield 38, 3) := by decide +kernel
theorem ed_49_84 : decode (ex_cod 49) 84 = .ok (.aload_n 0, 1) := by decide +kernel
theorem ed_49_85 : decode (ex_cod 49) 85 = .ok (.iload_n 1, 1) := by decide +kernel
theorem ed_49_86 : decode (ex_cod 49) 86 = .ok (.iconst 1, 1) := by decide +kernel
theorem ed_49_87 : decode (ex_cod 49) 87 = .ok (.if_icmp .ge 7, 3) := by decide +kernel
theorem ed_49_90 : decode (ex_cod 49) 90 = .ok (.iconst 1, 1) := by decide +kernel
theorem ed_49_91 : decode (ex_cod 49) 91 = .ok (.goto 15, 3) := by decide +kernel
theorem ed_49_94 : decode (ex_cod 49) 94 = .ok (.iload_n 1, 1) := by decide +kernel
theorem ed_49_95 : decode (ex_cod 49) 95 = .ok (.bipush 7, 2) := by decide +kernel
theorem ed_49_97 : decode (ex_cod 49) 97 = .ok (.if_icmp .le 8, 3) := by decide +kernel
theorem ed_49_100 : decode (ex_cod 49) 100 = .ok (.bipush 7, 2) := by decide +kernel
theorem ed_49_102 : decode (ex_cod 49) 102 = .ok (.goto 4, 3) := by decide +kernel
theorem ed_49_105 : decode (ex_cod 49) 105 = .ok (.iload_n 1, 1) := by decide +kernel
theorem ed_49_106 : decode (ex_cod 49) 106 = .ok (.putfield 41, 3) := by decide +kernel
theorem ed_49_109 : decode (ex_cod 49) 109 = .ok (.iconst 0, 1) := by decide +kernel
theorem ed_49_110 : decode (ex_cod 49) 110 = .ok (.istore_n 2, 1) := by decide +kernel
theorem ed_49_111 : decode (ex_cod 49) 111 = .ok (.iload_n 2, 1) := by decide +kernel
theorem ed_49_112 : decode (ex_cod 49) 112 = .ok (.bipush 16, 2) := by decide +kernel
theorem ed_49_114 : decode (ex_cod 49) 114 = .ok (.if_icmp .ge 23, 3) := by decide +kernel
theorem ed_49_117 : decode (ex_cod 49) 117 = .ok (.aload_n 0, 1) := by decide +kernel
theorem ed_49_118 : decode (ex_cod 49) 118 = .ok (.getfield 16, 3) := by decide +kernel
theorem ed_49_121 : decode (ex_cod 49) 121 = .ok (.iload_n 2, 1) := by decide +kernel
theorem ed_49_122 : decode (ex_cod 49) 122 = .ok (.iconst (-1), 1) := by decide +kernel
theorem ed_49_123 : decode (ex_cod 49) 123 = .ok (.iastore, 1) := by decide +kernel
theorem ed_49_124 : decode (ex_cod 49) 124 = .ok (.aload_n 0, 1) := by decide +kernel
theorem ed_49_125 : decode (ex_cod 49) 125 = .ok (.getfield 32, 3) := by decide +kernel
theorem ed_49_128 : decode (ex_cod 49) 128 = .ok (.iload_n 2, 1) := by decide +kernel
theorem ed_49_129 : decode (ex_cod 49) 129 = .ok (.iconst (-1), 1) := by decide +kernel
theorem ed_49_130 : decode (ex_cod 49) 130 = .ok (.iastore, 1) := by decide +kernel
theorem ed_49_131 : decode (ex_cod 49) 131 = .ok (.iinc 2 1, 3) := by decide +kernel
theorem ed_49_134 : decode (ex_cod 49) 134 = .ok (.goto (-23), 3) := by decide +kernel
theorem ed_49_137 : decode (ex_cod 49) 137 = .ok (.return_, 1) := by decide +kernel
theorem ed_50_0 : decode (ex_cod 50) 0 = .ok (.iload_n 0, 1) := by decide +kernel
theorem ed_50_1 : decode (ex_cod 50) 1 = .ok (.ifCond .lt 13, 3) := by decide +kernel
theorem ed_50_4 : decode (ex_cod 50) 4 = .ok (.iload_n 0, 1) := by decide +kernel
theorem ed_50_5 : decode (ex_cod 50) 5 = .ok (.bipush 16, 2) := by decide +kernel
theorem ed_50_7 : decode (ex_cod 50) 7 = .ok (.if_icmp .ge 7, 3) := by decide +kernel
theorem ed_50_10 : decode (ex_cod 50) 10 = .ok (.iconst 1, 1) := by decide +kernel
theorem ed_50_11 : decode (ex_cod 50) 11 = .ok (.goto 4, 3) := by decide +kernel
theorem ed_50_14 : decode (ex_cod 50) 14 = .ok (.iconst 0, 1) := by decide +kernel
theorem ed_50_15 : decode (ex_cod 50) 15 = .ok (.ireturn, 1) := by decide +kernel
theorem ed_51_0 : decode (ex_cod 51) 0 = .ok (.iconst 1, 1) := by decide +kernel
theorem ed_51_1 : decode (ex_cod 51) 1 = .ok (.istore_n 2, 1) := by decide +kernel
theorem ed_51_2 : decode (ex_cod 51) 2 = .ok (.iconst 0, 1) := by decide +kernel
theorem ed_51_3 : decode (ex_cod 51) 3 = .ok (.istore_n 3, 1) := by decide +kernel
theorem ed_51_4 : decode (ex_cod 51) 4 = .ok (.iload_n 3, 1) := by decide +kernel
theorem ed_51_5 : decode (ex_cod 51) 5 = .ok (.bipush 16, 2) := by decide +kernel
theorem ed_51_7 : decode (ex_cod 51) 7 = .ok (.if_icmp .ge 39, 3) := by decide +kernel
theorem ed_51_10 : decode (ex_cod 51) 10 = .ok (.iload_n 2, 1) := by decide +kernel
theorem ed_51_11 : decode (ex_cod 51) 11 = .ok (.ifCond .eq 27, 3) := by decide +kernel
theorem ed_51_14 : decode (ex_cod 51) 14 = .ok (.aload_n 0, 1) := by decide +kernel
theorem ed_51_15 : decode (ex_cod 51) 15 = .ok (.getfield 16, 3) := by decide +kernel
theorem ed_51_18 : decode (ex_cod 51) 18 = .ok (.iload_n 3, 1) := by decide +kernel
theorem ed_51_19 : decode (ex_cod 51) 19 = .ok (.iaload, 1) := by decide +kernel
theorem ed_51_20 : decode (ex_cod 51) 20 = .ok (.iload_n 1, 1) := by decide +kernel
theorem ed_51_21 : decode (ex_cod 51) 21 = .ok (.if_icmp .eq 17, 3) := by decide +kernel
theorem ed_51_24 : decode (ex_cod 51) 24 = .ok (.aload_n 0, 1) := by decide +kernel
theorem ed_51_25 : decode (ex_cod 51) 25 = .ok (.getfield 32, 3) := by decide +kernel
theorem ed_51_28 : decode (ex_cod 51) 28 = .ok (.iload_n 3, 1) := by decide +kernel
theorem ed_51_29 : decode (ex_cod 51) 29 = .ok (.iaload, 1) := by decide +kernel
theorem ed_51_30 : decode (ex_cod 51) 30 = .ok (.iload_n 1, 1) := by decide +kernel
theorem ed_51_31 : decode (ex_cod 51) 31 = .ok (.if_icmp .eq 7, 3) := by decide +kernel
theorem ed_51_34 : decode (ex_cod 51) 34 = .ok (.iconst 1, 1) := by decide +kernel
theorem ed_51_35 : decode (ex_cod 51) 35 = .ok (.goto 4, 3) := by decide +kernel
theorem ed_51_38 : decode (ex_cod 51) 38 = .ok (.iconst 0, 1) := by decide +kernel
theorem ed_51_39 : decode (ex_cod 51) 39 = .ok (.istore_n 2, 1) := by decide +kernel
theorem ed_51_40 : decode (ex_cod 51) 40 = .ok (.iinc 3 1, 3) := by decide +kernel
theorem ed_51_43 : decode (ex_cod 51) 43 = .ok (.goto (-39), 3) := by decide +kernel
theorem ed_51_46 : decode (ex_cod 51) 46 = .ok (.iload_n 2, 1) := by decide +kernel
theorem ed_51_47 : decode (ex_cod 51) 47 = .ok (.ireturn, 1) := by decide +kernel
theorem ed_52_0 : decode (ex_cod 52) 0 = .ok (.iconst 0, 1) := by decide +kernel
theorem ed_52_1 : decode (ex_cod 52) 1 = .ok (.istore_n 1, 1) := by decide +kernel
theorem ed_52_2 : decode (ex_cod 52) 2 = .ok (.iload_n 1, 1) := by decide +kernel
theorem ed_52_3 : decode (ex_cod 52) 3 = .ok (.iconst 2, 1) := by decide +kernel
theorem ed_52_4 : decode (ex_cod 52) 4 = .ok (.aload_n 0, 1) := by decide +kernel
theorem ed_52_5 : decode (ex_cod 52) 5 = .ok (.getfield 41, 3) := by decide +kernel
theorem ed_52_8 : decode (ex_cod 52) 8 = .ok (.imul, 1) := by decide +kernel
theorem ed_52_9 : decode (ex_cod 52) 9 = .ok (.if_icmp .ge 19, 3) := by decide +kernel
theorem ed_52_12 : decode (ex_cod 52) 12 = .ok (.aload_n 0, 1) := by decide +kernel
theorem ed_52_13 : decode (ex_cod 52) 13 = .ok (.iload_n 1, 1) := by decide +kernel
theorem ed_52_14 : decode (ex_cod 52) 14 = .ok (.invokevirtual 45, 3) := by decide +kernel
theorem ed_52_17 : decode (ex_cod 52) 17 = .ok (.ifCond .eq 5, 3) := by decide +kernel
theorem ed_52_20 : decode (ex_cod 52) 20 = .ok (.iload_n 1, 1) := by decide +kernel
theorem ed_52_21 : decode (ex_cod 52) 21 = .ok (.ireturn, 1) := by decide +kernel
theorem ed_52_22 : decode (ex_cod 52) 22 = .ok (.iinc 1 1, 3) := by decide +kernel
theorem ed_52_25 : decode (ex_cod 52) 25 = .ok (.goto (-23), 3) := by decide +kernel
theorem ed_52_28 : decode (ex_cod 52) 28 = .ok (.iconst (-1), 1) := by decide +kernel
theorem ed_52_29 : decode (ex_cod 52) 29 = .ok (.ireturn, 1) := by decide +kernel
theorem ed_53_0 : decode (ex_cod 53) 0 = .ok (.iconst 0, 1) := by decide +kernel
theorem ed_53_1 : decode (ex_cod 53) 1 = .ok (.istore_n 1, 1) := by decide +kernel
theorem ed_53_2 : decode (ex_cod 53) 2 = .ok (.iload_n 1, 1) := by decide +kernel
theorem ed_53_3 : decode (ex_cod 53) 3 = .ok (.bipush 16, 2) := by decide +kernel
theorem ed_53_5 : decode (ex_cod 53) 5 = .ok (.if_icmp .ge 45, 3) := by decide +kernel
theorem ed_53_8 : decode (ex_cod 53) 8 = .ok (.aload_n 0, 1) := by decide +kernel
theorem ed_53_9 : decode (ex_cod 53) 9 = .ok (.getfield 32, 3) := by decide +kernel
theorem ed_53_12 : decode (ex_cod 53) 12 = .ok (.iload_n 1, 1) := by decide +kernel
theorem ed_53_13 : decode (ex_cod 53) 13 = .ok (.aload_n 0, 1) := by decide +kernel
theorem ed_53_14 : decode (ex_cod 53) 14 = .ok (.getfield 16, 3) := by decide +kernel
theorem ed_53_17 : decode (ex_cod 53) 17 = .ok (.iload_n 1, 1) := by decide +kernel
theorem ed_53_18 : decode (ex_cod 53) 18 = .ok (.iaload, 1) := by decide +kernel
theorem ed_53_19 : decode (ex_cod 53) 19 = .ok (.iastore, 1) := by decide +kernel
theorem ed_53_20 : decode (ex_cod 53) 20 = .ok (.aload_n 0, 1) := by decide +kernel
theorem ed_53_21 : decode (ex_cod 53) 21 = .ok (.getfield 35, 3) := by decide +kernel
theorem ed_53_24 : decode (ex_cod 53) 24 = .ok (.iload_n 1, 1) := by decide +kernel
theorem ed_53_25 : decode (ex_cod 53) 25 = .ok (.aload_n 0, 1) := by decide +kernel
theorem ed_53_26 : decode (ex_cod 53) 26 = .ok (.getfield 19, 3) := by decide +kernel
theorem ed_53_29 : decode (ex_cod 53) 29 = .ok (.iload_n 1, 1) := by decide +kernel
theorem ed_53_30 : decode (ex_cod 53) 30 = .ok (.baload, 1) := by decide +kernel
theorem ed_53_31 : decode (ex_cod 53) 31 = .ok (.bastore, 1) := by decide +kernel
theorem ed_53_32 : decode (ex_cod 53) 32 = .ok (.aload_n 0, 1) := by decide +kernel
theorem ed_53_33 : decode (ex_cod 53) 33 = .ok (.getfield 38, 3) := by decide +kernel
theorem ed_53_36 : decode (ex_cod 53) 36 = .ok (.iload_n 1, 1) := by decide +kernel
theorem ed_53_37 : decode (ex_cod 53) 37 = .ok (.aload_n 0, 1) := by decide +kernel
theorem ed_53_38 : decode (ex_cod 53) 38 = .ok (.getfield 23, 3) := by decide +kernel
theorem ed_53_41 : decode (ex_cod 53) 41 = .ok (.iload_n 1, 1) := by decide +kernel
theorem ed_53_42 : decode (ex_cod 53) 42 = .ok (.iaload, 1) := by decide +kernel
theorem ed_53_43 : decode (ex_cod 53) 43 = .ok (.iastore, 1) := by decide +kernel
theorem ed_53_44 : decode (ex_cod 53) 44 = .ok (.iinc 1 1, 3) := by decide +kernel
theorem ed_53_47 : decode (ex_cod 53) 47 = .ok (.goto (-45), 3) := by decide +kernel
theorem ed_53_50 : decode (ex_cod 53) 50 = .ok (.return_, 1) := by decide +kernel
theorem ed_54_0 : decode (ex_cod 54) 0 = .ok (.aload_n 0, 1) := by decide +kernel
theorem ed_54_1 : decode (ex_cod 54) 1 = .ok (.invokevirtual 49, 3) := by decide +kernel
theorem ed_54_4 : decode (ex_cod 54) 4 = .ok (.aload_n 0, 1) := by decide +kernel
theorem ed_54_5 : decode (ex_cod 54) 5 = .ok (.dup, 1) := by decide +kernel
theorem ed_54_6 : decode (ex_cod 54) 6 = .ok (.getfield 52, 3) := by decide +kernel
theorem ed_54_9 : decode (ex_cod 54) 9 = .ok (.iconst 1, 1) := by decide +kernel
theorem ed_54_10 : decode (ex_cod 54) 10 = .ok (.iadd, 1) := by decide +kernel
theorem ed_54_11 : decode (ex_cod 54) 11 = .ok (.putfield 52, 3) := by decide +kernel
theorem ed_54_14 : decode (ex_cod 54) 14 = .ok (.aload_n 0, 1) := by decide +kernel
theorem ed_54_15 : decode (ex_cod 54) 15 = .ok (.getfield 52, 3) := by decide +kernel
theorem ed_54_18 : decode (ex_cod 54) 18 = .ok (.ireturn, 1) := by decide +kernel
theorem ed_55_0 : decode (ex_cod 55) 0 = .ok (.aload_n 0, 1) := by decide +kernel
theorem ed_55_1 : decode (ex_cod 55) 1 = .ok (.invokevirtual 55, 3) := by decide +kernel
theorem ed_55_4 : decode (ex_cod 55) 4 = .ok (.istore_n 1, 1) := by decide +kernel
theorem ed_55_5 : decode (ex_cod 55) 5 = .ok (.iload_n 1, 1) := by decide +kernel
theorem ed_55_6 : decode (ex_cod 55) 6 = .ok (.ifCond .ge 13, 3) := by decide +kernel
theorem ed_55_9 : decode (ex_cod 55) 9 = .ok (.aload_n 0, 1) := by decide +kernel
theorem ed_55_10 : decode (ex_cod 55) 10 = .ok (.invokevirtual 59, 3) := by decide +kernel
theorem ed_55_13 : decode (ex_cod 55) 13 = .ok (.istore_n 2, 1) := by decide +kernel
theorem ed_55_14 : decode (ex_cod 55) 14 = .ok (.aload_n 0, 1) := by decide +kernel
theorem ed_55_15 : decode (ex_cod 55) 15 = .ok (.invokevirtual 55, 3) := by decide +kernel
theorem ed_55_18 : decode (ex_cod 55) 18 = .ok (.istore_n 1, 1) := by decide +kernel
theorem ed_55_19 : decode (ex_cod 55) 19 = .ok (.iload_n 1, 1) := by decide +kernel
theorem ed_55_20 : decode (ex_cod 55) 20 = .ok (.ireturn, 1) := by decide +kernel
theorem ed_56_0 : decode (ex_cod 56) 0 = .ok (.iconst (-1), 1) := by decide +kernel
theorem ed_56_1 : decode (ex_cod 56) 1 = .ok (.istore_n 2, 1) := by decide +kernel
theorem ed_56_2 : decode (ex_cod 56) 2 = .ok (.iconst 0, 1) := by decide +kernel
theorem ed_56_3 : decode (ex_cod 56) 3 = .ok (.istore_n 3, 1) := by decide +kernel
theorem ed_56_4 : decode (ex_cod 56) 4 = .ok (.iload_n 3, 1) := by decide +kernel
theorem ed_56_5 : decode (ex_cod 56) 5 = .ok (.bipush 16, 2) := by decide +kernel
theorem ed_56_7 : decode (ex_cod 56) 7 = .ok (.if_icmp .ge 49, 3) := by decide +kernel
theorem ed_56_10 : decode (ex_cod 56) 10 = .ok (.aload_n 0, 1) := by decide +kernel
theorem ed_56_11 : decode (ex_cod 56) 11 = .ok (.getfield 19, 3) := by decide +kernel
theorem ed_56_14 : decode (ex_cod 56) 14 = .ok (.iload_n 3, 1) := by decide +kernel
theorem ed_56_15 : decode (ex_cod 56) 15 = .ok (.baload, 1) := by decide +kernel
theorem ed_56_16 : decode (ex_cod 56) 16 = .ok (.ifCond .eq 34, 3) := by decide +kernel
theorem ed_56_19 : decode (ex_cod 56) 19 = .ok (.aload_n 0, 1) := by decide +kernel
theorem ed_56_20 : decode (ex_cod 56) 20 = .ok (.getfield 23, 3) := by decide +kernel
theorem ed_56_23 : decode (ex_cod 56) 23 = .ok (.iload_n 3, 1) := by decide +kernel
theorem ed_56_24 : decode (ex_cod 56) 24 = .ok (.iaload, 1) := by decide +kernel
theorem ed_56_25 : decode (ex_cod 56) 25 = .ok (.iload_n 1, 1) := by decide +kernel
theorem ed_56_26 : decode (ex_cod 56) 26 = .ok (.if_icmp .ge 24, 3) := by decide +kernel
theorem ed_56_29 : decode (ex_cod 56) 29 = .ok (.iload_n 2, 1) := by decide +kernel
theorem ed_56_30 : decode (ex_cod 56) 30 = .ok (.ifCond .lt 18, 3) := by decide +kernel
theorem ed_56_33 : decode (ex_cod 56) 33 = .ok (.aload_n 0, 1) := by decide +kernel
theorem ed_56_34 : decode (ex_cod 56) 34 = .ok (.getfield 23, 3) := by decide +kernel
theorem ed_56_37 : decode (ex_cod 56) 37 = .ok (.iload_n 3, 1) := by decide +kernel
theorem ed_56_38 : decode (ex_cod 56) 38 = .ok (.iaload, 1) := by decide +kernel
theorem ed_56_39 : decode (ex_cod 56) 39 = .ok (.aload_n 0, 1) := by decide +kernel
theorem ed_56_40 : decode (ex_cod 56) 40 = .ok (.getfield 23, 3) := by decide +kernel
theorem ed_56_43 : decode (ex_cod 56) 43 = .ok (.iload_n 2, 1) := by decide +kernel
theorem ed_56_44 : decode (ex_cod 56) 44 = .ok (.iaload, 1) := by decide +kernel
theorem ed_56_45 : decode (ex_cod 56) 45 = .ok (.if_icmp .ge 5, 3) := by decide +kernel
theorem ed_56_48 : decode (ex_cod 56) 48 = .ok (.iload_n 3, 1) := by decide +kernel
theorem ed_56_49 : decode (ex_cod 56) 49 = .ok (.istore_n 2, 1) := by decide +kernel
theorem ed_56_50 : decode (ex_cod 56) 50 = .ok (.iinc 3 1, 3) := by decide +kernel
theorem ed_56_53 : decode (ex_cod 56) 53 = .ok (.goto (-49), 3) := by decide +kernel
theorem ed_56_56 : decode (ex_cod 56) 56 = .ok (.iload_n 2, 1) := by decide +kernel
theorem ed_56_57 : decode (ex_cod 56) 57 = .ok (.ireturn, 1) := by decide +kernel
theorem ed_57_0 : decode (ex_cod 57) 0 = .ok (.aload_n 0, 1) := by decide +kernel
theorem ed_57_1 : decode (ex_cod 57) 1 = .ok (.getfield 7, 3) := by decide +kernel
theorem ed_57_4 : decode (ex_cod 57) 4 = .ok (.iload_n 1, 1) := by decide +kernel
theorem ed_57_5 : decode (ex_cod 57) 5 = .ok (.aload_n 0, 1) := by decide +kernel
theorem ed_57_6 : decode (ex_cod 57) 6 = .ok (.getfield 13, 3) := by decide +kernel
theorem ed_57_9 : decode (ex_cod 57) 9 = .ok (.aload_n 0, 1) := by decide +kernel
theorem ed_57_10 : decode (ex_cod 57) 10 = .ok (.getfield 16, 3) := by decide +kernel
theorem ed_57_13 : decode (ex_cod 57) 13 = .ok (.iload_n 1, 1) := by decide +kernel
theorem ed_57_14 : decode (ex_cod 57) 14 = .ok (.iaload, 1) := by decide +kernel
theorem ed_57_15 : decode (ex_cod 57) 15 = .ok (.iaload, 1) := by decide +kernel
theorem ed_57_16 : decode (ex_cod 57) 16 = .ok (.iastore, 1) := by decide +kernel
theorem ed_57_17 : decode (ex_cod 57) 17 = .ok (.aload_n 0, 1) := by decide +kernel
theorem ed_57_18 : decode (ex_cod 57) 18 = .ok (.getfield 19, 3) := by decide +kernel
theorem ed_57_21 : decode (ex_cod 57) 21 = .ok (.iload_n 1, 1) := by decide +kernel
theorem ed_57_22 : decode (ex_cod 57) 22 = .ok (.iconst 0, 1) := by decide +kernel
theorem ed_57_23 : decode (ex_cod 57) 23 = .ok (.bastore, 1) := by decide +kernel
theorem ed_57_24 : decode (ex_cod 57) 24 = .ok (.aload_n 0, 1) := by decide +kernel
theorem ed_57_25 : decode (ex_cod 57) 25 = .ok (.dup, 1) := by decide +kernel
theorem ed_57_26 : decode (ex_cod 57) 26 = .ok (.getfield 62, 3) := by decide +kernel
theorem ed_57_29 : decode (ex_cod 57) 29 = .ok (.iconst 1, 1) := by decide +kernel
theorem ed_57_30 : decode (ex_cod 57) 30 = .ok (.iadd, 1) := by decide +kernel
theorem ed_57_31 : decode (ex_cod 57) 31 = .ok (.putfield 62, 3) := by decide +kernel
theorem ed_57_34 : decode (ex_cod 57) 34 = .ok (.return_, 1) := by decide +kernel
theorem ed_58_0 : decode (ex_cod 58) 0 = .ok (.iconst 0, 1) := by decide +kernel
theorem ed_58_1 : decode (ex_cod 58) 1 = .ok (.istore_n 2, 1) := by decide +kernel
theorem ed_58_2 : decode (ex_cod 58) 2 = .ok (.aload_n 0, 1) := by decide +kernel
theorem ed_58_3 : decode (ex_cod 58) 3 = .ok (.iload_n 1, 1) := by decide +kernel
theorem ed_58_4 : decode (ex_cod 58) 4 = .ok (.invokevirtual 65, 3) := by decide +kernel
theorem ed_58_7 : decode (ex_cod 58) 7 = .ok (.istore_n 3, 1) := by decide +kernel
theorem ed_58_8 : decode (ex_cod 58) 8 = .ok (.iload_n 3, 1) := by decide +kernel
theorem ed_58_9 : decode (ex_cod 58) 9 = .ok (.ifCond .lt 20, 3) := by decide +kernel
theorem ed_58_12 : decode (ex_cod 58) 12 = .ok (.aload_n 0, 1) := by decide +kernel
theorem ed_58_13 : decode (ex_cod 58) 13 = .ok (.iload_n 3, 1) := by decide +kernel
theorem ed_58_14 : decode (ex_cod 58) 14 = .ok (.invokevirtual 69, 3) := by decide +kernel
theorem ed_58_17 : decode (ex_cod 58) 17 = .ok (.iinc 2 1, 3) := by decide +kernel
theorem ed_58_20 : decode (ex_cod 58) 20 = .ok (.aload_n 0, 1) := by decide +kernel
theorem ed_58_21 : decode (ex_cod 58) 21 = .ok (.iload_n 1, 1) := by decide +kernel
theorem ed_58_22 : decode (ex_cod 58) 22 = .ok (.invokevirtual 65, 3) := by decide +kernel
theorem ed_58_25 : decode (ex_cod 58) 25 = .ok (.istore_n 3, 1) := by decide +kernel
theorem ed_58_26 : decode (ex_cod 58) 26 = .ok (.goto (-18), 3) := by decide +kernel
theorem ed_58_29 : decode (ex_cod 58) 29 = .ok (.iload_n 2, 1) := by decide +kernel
theorem ed_58_30 : decode (ex_cod 58) 30 = .ok (.ireturn, 1) := by decide +kernel
theorem ed_59_0 : decode (ex_cod 59) 0 = .ok (.aload_n 0, 1) := by decide +kernel
theorem ed_59_1 : decode (ex_cod 59) 1 = .ok (.getfield 26, 3) := by decide +kernel
theorem ed_59_4 : decode (ex_cod 59) 4 = .ok (.iload_n 1, 1) := by decide +kernel
theorem ed_59_5 : decode (ex_cod 59) 5 = .ok (.iload_n 2, 1) := by decide +kernel
theorem ed_59_6 : decode (ex_cod 59) 6 = .ok (.iastore, 1) := by decide +kernel
theorem ed_59_7 : decode (ex_cod 59) 7 = .ok (.aload_n 0, 1) := by decide +kernel
theorem ed_59_8 : decode (ex_cod 59) 8 = .ok (.getfield 29, 3) := by decide +kernel
theorem ed_59_11 : decode (ex_cod 59) 11 = .ok (.iload_n 1, 1) := by decide +kernel
theorem ed_59_12 : decode (ex_cod 59) 12 = .ok (.aload_n 0, 1) := by decide +kernel
theorem ed_59_13 : decode (ex_cod 59) 13 = .ok (.getfield 73, 3) := by decide +kernel
theorem ed_59_16 : decode (ex_cod 59) 16 = .ok (.iastore, 1) := by decide +kernel
theorem ed_59_17 : decode (ex_cod 59) 17 = .ok (.aload_n 0, 1) := by decide +kernel
theorem ed_59_18 : decode (ex_cod 59) 18 = .ok (.dup, 1) := by decide +kernel
theorem ed_59_19 : decode (ex_cod 59) 19 = .ok (.getfield 73, 3) := by decide +kernel
theorem ed_59_22 : decode (ex_cod 59) 22 = .ok (.iconst 1, 1) := by decide +kernel
theorem ed_59_23 : decode (ex_cod 59) 23 = .ok (.iadd, 1) := by decide +kernel
theorem ed_59_24 : decode (ex_cod 59) 24 = .ok (.putfield 73, 3) := by decide +kernel
theorem ed_59_27 : decode (ex_cod 59) 27 = .ok (.return_, 1) := by decide +kernel
theorem ed_60_0 : decode (ex_cod 60) 0 = .ok (.iconst 0, 1) := by decide +kernel
theorem ed_60_1 : decode (ex_cod 60) 1 = .ok (.istore_n 2, 1) := by decide +kernel
theorem ed_60_2 : decode (ex_cod 60) 2 = .ok (.iconst 0, 1) := by decide +kernel
theorem ed_60_3 : decode (ex_cod 60) 3 = .ok (.istore_n 3, 1) := by decide +kernel
theorem ed_60_4 : decode (ex_cod 60) 4 = .ok (.iload_n 3, 1) := by decide +kernel
theorem ed_60_5 : decode (ex_cod 60) 5 = .ok (.bipush 16, 2) := by decide +kernel
theorem ed_60_7 : decode (ex_cod 60) 7 = .ok (.if_icmp .ge 27, 3) := by decide +kernel
theorem ed_60_10 : decode (ex_cod 60) 10 = .ok (.aload_n 0, 1) := by decide +kernel
theorem ed_60_11 : decode (ex_cod 60) 11 = .ok (.getfield 26, 3) := by decide +kernel
theorem ed_60_14 : decode (ex_cod 60) 14 = .ok (.iload_n 3, 1) := by decide +kernel
theorem ed_60_15 : decode (ex_cod 60) 15 = .ok (.iaload, 1) := by decide +kernel
theorem ed_60_16 : decode (ex_cod 60) 16 = .ok (.iload_n 1, 1) := by decide +kernel
theorem ed_60_17 : decode (ex_cod 60) 17 = .ok (.if_icmp .ne 9, 3) := by decide +kernel
theorem ed_60_20 : decode (ex_cod 60) 20 = .ok (.iload_n 2, 1) := by decide +kernel
theorem ed_60_21 : decode (ex_cod 60) 21 = .ok (.iconst 1, 1) := by decide +kernel
theorem ed_60_22 : decode (ex_cod 60) 22 = .ok (.iadd, 1) := by decide +kernel
theorem ed_60_23 : decode (ex_cod 60) 23 = .ok (.goto 4, 3) := by decide +kernel
theorem ed_60_26 : decode (ex_cod 60) 26 = .ok (.iload_n 2, 1) := by decide +kernel
theorem ed_60_27 : decode (ex_cod 60) 27 = .ok (.istore_n 2, 1) := by decide +kernel
theorem ed_60_28 : decode (ex_cod 60) 28 = .ok (.iinc 3 1, 3) := by decide +kernel
theorem ed_60_31 : decode (ex_cod 60) 31 = .ok (.goto (-27), 3) := by decide +kernel
theorem ed_60_34 : decode (ex_cod 60) 34 = .ok (.iload_n 2, 1) := by decide +kernel
theorem ed_60_35 : decode (ex_cod 60) 35 = .ok (.ireturn, 1) := by decide +kernel
theorem ed_61_0 : decode (ex_cod 61) 0 = .ok (.iconst 0, 1) := by decide +kernel
theorem ed_61_1 : decode (ex_cod 61) 1 = .ok (.istore_n 3, 1) := by decide +kernel
theorem ed_61_2 : decode (ex_cod 61) 2 = .ok (.iload_n 3, 1) := by decide +kernel
theorem ed_61_3 : decode (ex_cod 61) 3 = .ok (.bipush 16, 2) := by decide +kernel
theorem ed_61_5 : decode (ex_cod 61) 5 = .ok (.if_icmp .ge 84, 3) := by decide +kernel
theorem ed_61_8 : decode (ex_cod 61) 8 = .ok (.iconst 0, 1) := by decide +kernel
theorem ed_61_9 : decode (ex_cod 61) 9 = .ok (.istore 4, 2) := by decide +kernel
theorem ed_61_11 : decode (ex_cod 61) 11 = .ok (.iconst 0, 1) := by decide +kernel
theorem ed_61_12 : decode (ex_cod 61) 12 = .ok (.istore 5, 2) := by decide +kernel
theorem ed_61_14 : decode (ex_cod 61) 14 = .ok (.iload 5, 2) := by decide +kernel
theorem ed_61_16 : decode (ex_cod 61) 16 = .ok (.bipush 16, 2) := by decide +kernel
theorem ed_61_18 : decode (ex_cod 61) 18 = .ok (.if_icmp .ge 47, 3) := by decide +kernel
theorem ed_61_21 : decode (ex_cod 61) 21 = .ok (.aload_n 0, 1) := by decide +kernel
theorem ed_61_22 : decode (ex_cod 61) 22 = .ok (.getfield 26, 3) := by decide +kernel
theorem ed_61_25 : decode (ex_cod 61) 25 = .ok (.iload 5, 2) := by decide +kernel
theorem ed_61_27 : decode (ex_cod 61) 27 = .ok (.iaload, 1) := by decide +kernel
theorem ed_61_28 : decode (ex_cod 61) 28 = .ok (.iload_n 1, 1) := by decide +kernel
theorem ed_61_29 : decode (ex_cod 61) 29 = .ok (.if_icmp .ne 26, 3) := by decide +kernel
theorem ed_61_32 : decode (ex_cod 61) 32 = .ok (.aload_n 0, 1) := by decide +kernel
theorem ed_61_33 : decode (ex_cod 61) 33 = .ok (.getfield 29, 3) := by decide +kernel
theorem ed_61_36 : decode (ex_cod 61) 36 = .ok (.iload 5, 2) := by decide +kernel
theorem ed_61_38 : decode (ex_cod 61) 38 = .ok (.iaload, 1) := by decide +kernel
theorem ed_61_39 : decode (ex_cod 61) 39 = .ok (.aload_n 0, 1) := by decide +kernel
theorem ed_61_40 : decode (ex_cod 61) 40 = .ok (.getfield 29, 3) := by decide +kernel
theorem ed_61_43 : decode (ex_cod 61) 43 = .ok (.iload_n 3, 1) := by decide +kernel
theorem ed_61_44 : decode (ex_cod 61) 44 = .ok (.iaload, 1) := by decide +kernel
theorem ed_61_45 : decode (ex_cod 61) 45 = .ok (.if_icmp .ge 10, 3) := by decide +kernel
theorem ed_61_48 : decode (ex_cod 61) 48 = .ok (.iload 4, 2) := by decide +kernel
theorem ed_61_50 : decode (ex_cod 61) 50 = .ok (.iconst 1, 1) := by decide +kernel
theorem ed_61_51 : decode (ex_cod 61) 51 = .ok (.iadd, 1) := by decide +kernel
theorem ed_61_52 : decode (ex_cod 61) 52 = .ok (.goto 5, 3) := by decide +kernel
theorem ed_61_55 : decode (ex_cod 61) 55 = .ok (.iload 4, 2) := by decide +kernel
theorem ed_61_57 : decode (ex_cod 61) 57 = .ok (.istore 4, 2) := by decide +kernel
theorem ed_61_59 : decode (ex_cod 61) 59 = .ok (.iinc 5 1, 3) := by decide +kernel
theorem ed_61_62 : decode (ex_cod 61) 62 = .ok (.goto (-48), 3) := by decide +kernel
theorem ed_61_65 : decode (ex_cod 61) 65 = .ok (.aload_n 0, 1) := by decide +kernel
theorem ed_61_66 : decode (ex_cod 61) 66 = .ok (.getfield 26, 3) := by decide +kernel
theorem ed_61_69 : decode (ex_cod 61) 69 = .ok (.iload_n 3, 1) := by decide +kernel
theorem ed_61_70 : decode (ex_cod 61) 70 = .ok (.iaload, 1) := by decide +kernel
theorem ed_61_71 : decode (ex_cod 61) 71 = .ok (.iload_n 1, 1) := by decide +kernel
theorem ed_61_72 : decode (ex_cod 61) 72 = .ok (.if_icmp .ne 11, 3) := by decide +kernel
theorem ed_61_75 : decode (ex_cod 61) 75 = .ok (.iload 4, 2) := by decide +kernel
theorem ed_61_77 : decode (ex_cod 61) 77 = .ok (.iload_n 2, 1) := by decide +kernel
theorem ed_61_78 : decode (ex_cod 61) 78 = .ok (.if_icmp .ne 5, 3) := by decide +kernel
theorem ed_61_81 : decode (ex_cod 61) 81 = .ok (.iload_n 3, 1) := by decide +kernel
theorem ed_61_82 : decode (ex_cod 61) 82 = .ok (.ireturn, 1) := by decide +kernel
theorem ed_61_83 : decode (ex_cod 61) 83 = .ok (.iinc 3 1, 3) := by decide +kernel
theorem ed_61_86 : decode (ex_cod 61) 86 = .ok (.goto (-84), 3) := by decide +kernel
theorem ed_61_89 : decode (ex_cod 61) 89 = .ok (.iconst (-1), 1) := by decide +kernel
theorem ed_61_90 : decode (ex_cod 61) 90 = .ok (.ireturn, 1) := by decide +kernel
theorem ed_62_0 : decode (ex_cod 62) 0 = .ok (.aload_n 0, 1) := by decide +kernel
theorem ed_62_1 : decode (ex_cod 62) 1 = .ok (.iload_n 1, 1) := by decide +kernel
theorem ed_62_2 : decode (ex_cod 62) 2 = .ok (.iconst 0, 1) := by decide +kernel
theorem ed_62_3 : decode (ex_cod 62) 3 = .ok (.invokevirtual 76, 3) := by decide +kernel
theorem ed_62_6 : decode (ex_cod 62) 6 = .ok (.istore_n 3, 1) := by decide +kernel
theorem ed_62_7 : decode (ex_cod 62) 7 = .ok (.iload_n 3, 1) := by decide +kernel
theorem ed_62_8 : decode (ex_cod 62) 8 = .ok (.ifCond .ge 4, 3) := by decide +kernel
theorem ed_62_11 : decode (ex_cod 62) 11 = .ok (.return_, 1) := by decide +kernel
theorem ed_62_12 : decode (ex_cod 62) 12 = .ok (.aload_n 0, 1) := by decide +kernel
theorem ed_62_13 : decode (ex_cod 62) 13 = .ok (.getfield 19, 3) := by decide +kernel
theorem ed_62_16 : decode (ex_cod 62) 16 = .ok (.iload_n 3, 1) := by decide +kernel
theorem ed_62_17 : decode (ex_cod 62) 17 = .ok (.baload, 1) := by decide +kernel
theorem ed_62_18 : decode (ex_cod 62) 18 = .ok (.ifCond .eq 22, 3) := by decide +kernel
theorem ed_62_21 : decode (ex_cod 62) 21 = .ok (.aload_n 0, 1) := by decide +kernel
theorem ed_62_22 : decode (ex_cod 62) 22 = .ok (.getfield 23, 3) := by decide +kernel
theorem ed_62_25 : decode (ex_cod 62) 25 = .ok (.iload_n 3, 1) := by decide +kernel
theorem ed_62_26 : decode (ex_cod 62) 26 = .ok (.iaload, 1) := by decide +kernel
theorem ed_62_27 : decode (ex_cod 62) 27 = .ok (.aload_n 0, 1) := by decide +kernel
theorem ed_62_28 : decode (ex_cod 62) 28 = .ok (.getfield 52, 3) := by decide +kernel
theorem ed_62_31 : decode (ex_cod 62) 31 = .ok (.if_icmp .ne 9, 3) := by decide +kernel
theorem ed_62_34 : decode (ex_cod 62) 34 = .ok (.aload_n 0, 1) := by decide +kernel
theorem ed_62_35 : decode (ex_cod 62) 35 = .ok (.invokevirtual 59, 3) := by decide +kernel
theorem ed_62_38 : decode (ex_cod 62) 38 = .ok (.istore 4, 2) := by decide +kernel
theorem ed_62_40 : decode (ex_cod 62) 40 = .ok (.aload_n 0, 1) := by decide +kernel
theorem ed_62_41 : decode (ex_cod 62) 41 = .ok (.getfield 19, 3) := by decide +kernel
theorem ed_62_44 : decode (ex_cod 62) 44 = .ok (.iload_n 3, 1) := by decide +kernel
theorem ed_62_45 : decode (ex_cod 62) 45 = .ok (.baload, 1) := by decide +kernel
theorem ed_62_46 : decode (ex_cod 62) 46 = .ok (.ifCond .eq 17, 3) := by decide +kernel
theorem ed_62_49 : decode (ex_cod 62) 49 = .ok (.aload_n 0, 1) := by decide +kernel
theorem ed_62_50 : decode (ex_cod 62) 50 = .ok (.aload_n 0, 1) := by decide +kernel
theorem ed_62_51 : decode (ex_cod 62) 51 = .ok (.getfield 23, 3) := by decide +kernel
theorem ed_62_54 : decode (ex_cod 62) 54 = .ok (.iload_n 3, 1) := by decide +kernel
theorem ed_62_55 : decode (ex_cod 62) 55 = .ok (.iaload, 1) := by decide +kernel
theorem ed_62_56 : decode (ex_cod 62) 56 = .ok (.iconst 1, 1) := by decide +kernel
theorem ed_62_57 : decode (ex_cod 62) 57 = .ok (.iadd, 1) := by decide +kernel
theorem ed_62_58 : decode (ex_cod 62) 58 = .ok (.invokevirtual 80, 3) := by decide +kernel
theorem ed_62_61 : decode (ex_cod 62) 61 = .ok (.istore 4, 2) := by decide +kernel
theorem ed_62_63 : decode (ex_cod 62) 63 = .ok (.aload_n 0, 1) := by decide +kernel
theorem ed_62_64 : decode (ex_cod 62) 64 = .ok (.getfield 16, 3) := by decide +kernel
theorem ed_62_67 : decode (ex_cod 62) 67 = .ok (.iload_n 3, 1) := by decide +kernel
theorem ed_62_68 : decode (ex_cod 62) 68 = .ok (.iconst (-1), 1) := by decide +kernel
theorem ed_62_69 : decode (ex_cod 62) 69 = .ok (.iastore, 1) := by decide +kernel
theorem ed_62_70 : decode (ex_cod 62) 70 = .ok (.aload_n 0, 1) := by decide +kernel
theorem ed_62_71 : decode (ex_cod 62) 71 = .ok (.iload_n 3, 1) := by decide +kernel
theorem ed_62_72 : decode (ex_cod 62) 72 = .ok (.iload_n 2, 1) := by decide +kernel
theorem ed_62_73 : decode (ex_cod 62) 73 = .ok (.invokevirtual 83, 3) := by decide +kernel
theorem ed_62_76 : decode (ex_cod 62) 76 = .ok (.return_, 1) := by decide +kernel
theorem ed_63_0 : decode (ex_cod 63) 0 = .ok (.aload_n 0, 1) := by decide +kernel
theorem ed_63_1 : decode (ex_cod 63) 1 = .ok (.iconst 1, 1) := by decide +kernel
theorem ed_63_2 : decode (ex_cod 63) 2 = .ok (.invokevirtual 87, 3) := by decide +kernel
theorem ed_63_5 : decode (ex_cod 63) 5 = .ok (.istore_n 2, 1) := by decide +kernel
theorem ed_63_6 : decode (ex_cod 63) 6 = .ok (.iload_n 2, 1) := by decide +kernel
theorem ed_63_7 : decode (ex_cod 63) 7 = .ok (.ifCond .le 38, 3) := by decide +kernel
theorem ed_63_10 : decode (ex_cod 63) 10 = .ok (.iload_n 2, 1) := by decide +kernel
theorem ed_63_11 : decode (ex_cod 63) 11 = .ok (.aload_n 0, 1) := by decide +kernel
theorem ed_63_12 : decode (ex_cod 63) 12 = .ok (.getfield 90, 3) := by decide +kernel
theorem ed_63_15 : decode (ex_cod 63) 15 = .ok (.if_icmp .gt 21, 3) := by decide +kernel
theorem ed_63_18 : decode (ex_cod 63) 18 = .ok (.iload_n 2, 1) := by decide +kernel
theorem ed_63_19 : decode (ex_cod 63) 19 = .ok (.aload_n 0, 1) := by decide +kernel
theorem ed_63_20 : decode (ex_cod 63) 20 = .ok (.getfield 90, 3) := by decide +kernel
theorem ed_63_23 : decode (ex_cod 63) 23 = .ok (.if_icmp .ne 22, 3) := by decide +kernel
theorem ed_63_26 : decode (ex_cod 63) 26 = .ok (.aload_n 0, 1) := by decide +kernel
theorem ed_63_27 : decode (ex_cod 63) 27 = .ok (.getfield 26, 3) := by decide +kernel
theorem ed_63_30 : decode (ex_cod 63) 30 = .ok (.iload_n 1, 1) := by decide +kernel
theorem ed_63_31 : decode (ex_cod 63) 31 = .ok (.iaload, 1) := by decide +kernel
theorem ed_63_32 : decode (ex_cod 63) 32 = .ok (.iconst 4, 1) := by decide +kernel
theorem ed_63_33 : decode (ex_cod 63) 33 = .ok (.if_icmp .ne 12, 3) := by decide +kernel
theorem ed_63_36 : decode (ex_cod 63) 36 = .ok (.aload_n 0, 1) := by decide +kernel
theorem ed_63_37 : decode (ex_cod 63) 37 = .ok (.iconst 1, 1) := by decide +kernel
theorem ed_63_38 : decode (ex_cod 63) 38 = .ok (.iconst 3, 1) := by decide +kernel
theorem ed_63_39 : decode (ex_cod 63) 39 = .ok (.invokevirtual 93, 3) := by decide +kernel
theorem ed_63_42 : decode (ex_cod 63) 42 = .ok (.goto 9, 3) := by decide +kernel
theorem ed_63_45 : decode (ex_cod 63) 45 = .ok (.aload_n 0, 1) := by decide +kernel
theorem ed_63_46 : decode (ex_cod 63) 46 = .ok (.iconst 2, 1) := by decide +kernel
theorem ed_63_47 : decode (ex_cod 63) 47 = .ok (.iconst 4, 1) := by decide +kernel
theorem ed_63_48 : decode (ex_cod 63) 48 = .ok (.invokevirtual 93, 3) := by decide +kernel
theorem ed_63_51 : decode (ex_cod 63) 51 = .ok (.return_, 1) := by decide +kernel
theorem ed_64_0 : decode (ex_cod 64) 0 = .ok (.aload_n 0, 1) := by decide +kernel
theorem ed_64_1 : decode (ex_cod 64) 1 = .ok (.iconst 1, 1) := by decide +kernel
theorem ed_64_2 : decode (ex_cod 64) 2 = .ok (.invokevirtual 87, 3) := by decide +kernel
theorem ed_64_5 : decode (ex_cod 64) 5 = .ok (.istore_n 2, 1) := by decide +kernel
theorem ed_64_6 : decode (ex_cod 64) 6 = .ok (.aload_n 0, 1) := by decide +kernel
theorem ed_64_7 : decode (ex_cod 64) 7 = .ok (.iconst 3, 1) := by decide +kernel
theorem ed_64_8 : decode (ex_cod 64) 8 = .ok (.invokevirtual 87, 3) := by decide +kernel
theorem ed_64_11 : decode (ex_cod 64) 11 = .ok (.istore_n 3, 1) := by decide +kernel
theorem ed_64_12 : decode (ex_cod 64) 12 = .ok (.aload_n 0, 1) := by decide +kernel
theorem ed_64_13 : decode (ex_cod 64) 13 = .ok (.iconst 4, 1) := by decide +kernel
theorem ed_64_14 : decode (ex_cod 64) 14 = .ok (.invokevirtual 87, 3) := by decide +kernel
theorem ed_64_17 : decode (ex_cod 64) 17 = .ok (.istore 4, 2) := by decide +kernel
theorem ed_64_19 : decode (ex_cod 64) 19 = .ok (.iload_n 2, 1) := by decide +kernel
theorem ed_64_20 : decode (ex_cod 64) 20 = .ok (.iload_n 3, 1) := by decide +kernel
theorem ed_64_21 : decode (ex_cod 64) 21 = .ok (.iadd, 1) := by decide +kernel
theorem ed_64_22 : decode (ex_cod 64) 22 = .ok (.iload 4, 2) := by decide +kernel
theorem ed_64_24 : decode (ex_cod 64) 24 = .ok (.iadd, 1) := by decide +kernel
theorem ed_64_25 : decode (ex_cod 64) 25 = .ok (.aload_n 0, 1) := by decide +kernel
theorem ed_64_26 : decode (ex_cod 64) 26 = .ok (.iconst 2, 1) := by decide +kernel
theorem ed_64_27 : decode (ex_cod 64) 27 = .ok (.invokevirtual 87, 3) := by decide +kernel
theorem ed_64_30 : decode (ex_cod 64) 30 = .ok (.iadd, 1) := by decide +kernel
theorem ed_64_31 : decode (ex_cod 64) 31 = .ok (.istore 5, 2) := by decide +kernel
theorem ed_64_33 : decode (ex_cod 64) 33 = .ok (.aload_n 0, 1) := by decide +kernel
theorem ed_64_34 : decode (ex_cod 64) 34 = .ok (.getfield 26, 3) := by decide +kernel
theorem ed_64_37 : decode (ex_cod 64) 37 = .ok (.iload_n 1, 1) := by decide +kernel
theorem ed_64_38 : decode (ex_cod 64) 38 = .ok (.iaload, 1) := by decide +kernel
theorem ed_64_39 : decode (ex_cod 64) 39 = .ok (.iconst 3, 1) := by decide +kernel
theorem ed_64_40 : decode (ex_cod 64) 40 = .ok (.if_icmp .ne 67, 3) := by decide +kernel
theorem ed_64_43 : decode (ex_cod 64) 43 = .ok (.iload 4, 2) := by decide +kernel
theorem ed_64_45 : decode (ex_cod 64) 45 = .ok (.iload_n 3, 1) := by decide +kernel
theorem ed_64_46 : decode (ex_cod 64) 46 = .ok (.idiv, 1) := by decide +kernel
theorem ed_64_47 : decode (ex_cod 64) 47 = .ok (.iconst 1, 1) := by decide +kernel
theorem ed_64_48 : decode (ex_cod 64) 48 = .ok (.if_icmp .le 10, 3) := by decide +kernel
theorem ed_64_51 : decode (ex_cod 64) 51 = .ok (.iload 4, 2) := by decide +kernel
theorem ed_64_53 : decode (ex_cod 64) 53 = .ok (.iload_n 3, 1) := by decide +kernel
theorem ed_64_54 : decode (ex_cod 64) 54 = .ok (.idiv, 1) := by decide +kernel
theorem ed_64_55 : decode (ex_cod 64) 55 = .ok (.goto 4, 3) := by decide +kernel
theorem ed_64_58 : decode (ex_cod 64) 58 = .ok (.iconst 1, 1) := by decide +kernel
theorem ed_64_59 : decode (ex_cod 64) 59 = .ok (.istore 6, 2) := by decide +kernel
theorem ed_64_61 : decode (ex_cod 64) 61 = .ok (.aload_n 0, 1) := by decide +kernel
theorem ed_64_62 : decode (ex_cod 64) 62 = .ok (.aload_n 0, 1) := by decide +kernel
theorem ed_64_63 : decode (ex_cod 64) 63 = .ok (.getfield 90, 3) := by decide +kernel
theorem ed_64_66 : decode (ex_cod 64) 66 = .ok (.iload 6, 2) := by decide +kernel
theorem ed_64_68 : decode (ex_cod 64) 68 = .ok (.iadd, 1) := by decide +kernel
theorem ed_64_69 : decode (ex_cod 64) 69 = .ok (.aload_n 0, 1) := by decide +kernel
theorem ed_64_70 : decode (ex_cod 64) 70 = .ok (.getfield 41, 3) := by decide +kernel
theorem ed_64_73 : decode (ex_cod 64) 73 = .ok (.if_icmp .le 10, 3) := by decide +kernel
theorem ed_64_76 : decode (ex_cod 64) 76 = .ok (.aload_n 0, 1) := by decide +kernel
theorem ed_64_77 : decode (ex_cod 64) 77 = .ok (.getfield 41, 3) := by decide +kernel
theorem ed_64_80 : decode (ex_cod 64) 80 = .ok (.goto 10, 3) := by decide +kernel
theorem ed_64_83 : decode (ex_cod 64) 83 = .ok (.aload_n 0, 1) := by decide +kernel
theorem ed_64_84 : decode (ex_cod 64) 84 = .ok (.getfield 90, 3) := by decide +kernel
theorem ed_64_87 : decode (ex_cod 64) 87 = .ok (.iload 6, 2) := by decide +kernel
theorem ed_64_89 : decode (ex_cod 64) 89 = .ok (.iadd, 1) := by decide +kernel
theorem ed_64_90 : decode (ex_cod 64) 90 = .ok (.putfield 90, 3) := by decide +kernel
theorem ed_64_93 : decode (ex_cod 64) 93 = .ok (.aload_n 0, 1) := by decide +kernel
theorem ed_64_94 : decode (ex_cod 64) 94 = .ok (.iload_n 1, 1) := by decide +kernel
theorem ed_64_95 : decode (ex_cod 64) 95 = .ok (.invokevirtual 96, 3) := by decide +kernel
theorem ed_64_98 : decode (ex_cod 64) 98 = .ok (.aload_n 0, 1) := by decide +kernel
theorem ed_64_99 : decode (ex_cod 64) 99 = .ok (.iload_n 1, 1) := by decide +kernel
theorem ed_64_100 : decode (ex_cod 64) 100 = .ok (.iconst 2, 1) := by decide +kernel
theorem ed_64_101 : decode (ex_cod 64) 101 = .ok (.invokevirtual 83, 3) := by decide +kernel
theorem ed_64_104 : decode (ex_cod 64) 104 = .ok (.goto 166, 3) := by decide +kernel
theorem ed_64_107 : decode (ex_cod 64) 107 = .ok (.aload_n 0, 1) := by decide +kernel
theorem ed_64_108 : decode (ex_cod 64) 108 = .ok (.getfield 26, 3) := by decide +kernel
theorem ed_64_111 : decode (ex_cod 64) 111 = .ok (.iload_n 1, 1) := by decide +kernel
theorem ed_64_112 : decode (ex_cod 64) 112 = .ok (.iaload, 1) := by decide +kernel
theorem ed_64_113 : decode (ex_cod 64) 113 = .ok (.iconst 4, 1) := by decide +kernel
theorem ed_64_114 : decode (ex_cod 64) 114 = .ok (.if_icmp .ne 60, 3) := by decide +kernel
theorem ed_64_117 : decode (ex_cod 64) 117 = .ok (.iload_n 3, 1) := by decide +kernel
theorem ed_64_118 : decode (ex_cod 64) 118 = .ok (.iload 4, 2) := by decide +kernel
theorem ed_64_120 : decode (ex_cod 64) 120 = .ok (.idiv, 1) := by decide +kernel
theorem ed_64_121 : decode (ex_cod 64) 121 = .ok (.iconst 1, 1) := by decide +kernel
theorem ed_64_122 : decode (ex_cod 64) 122 = .ok (.if_icmp .le 10, 3) := by decide +kernel
theorem ed_64_125 : decode (ex_cod 64) 125 = .ok (.iload_n 3, 1) := by decide +kernel
theorem ed_64_126 : decode (ex_cod 64) 126 = .ok (.iload 4, 2) := by decide +kernel
theorem ed_64_128 : decode (ex_cod 64) 128 = .ok (.idiv, 1) := by decide +kernel
theorem ed_64_129 : decode (ex_cod 64) 129 = .ok (.goto 4, 3) := by decide +kernel
theorem ed_64_132 : decode (ex_cod 64) 132 = .ok (.iconst 1, 1) := by decide +kernel
theorem ed_64_133 : decode (ex_cod 64) 133 = .ok (.istore 6, 2) := by decide +kernel
theorem ed_64_135 : decode (ex_cod 64) 135 = .ok (.aload_n 0, 1) := by decide +kernel
theorem ed_64_136 : decode (ex_cod 64) 136 = .ok (.aload_n 0, 1) := by decide +kernel
theorem ed_64_137 : decode (ex_cod 64) 137 = .ok (.getfield 90, 3) := by decide +kernel
theorem ed_64_140 : decode (ex_cod 64) 140 = .ok (.iload 6, 2) := by decide +kernel
theorem ed_64_142 : decode (ex_cod 64) 142 = .ok (.isub, 1) := by decide +kernel
theorem ed_64_143 : decode (ex_cod 64) 143 = .ok (.ifCond .ge 7, 3) := by decide +kernel
theorem ed_64_146 : decode (ex_cod 64) 146 = .ok (.iconst 0, 1) := by decide +kernel
theorem ed_64_147 : decode (ex_cod 64) 147 = .ok (.goto 10, 3) := by decide +kernel
theorem ed_64_150 : decode (ex_cod 64) 150 = .ok (.aload_n 0, 1) := by decide +kernel
theorem ed_64_151 : decode (ex_cod 64) 151 = .ok (.getfield 90, 3) := by decide +kernel
theorem ed_64_154 : decode (ex_cod 64) 154 = .ok (.iload 6, 2) := by decide +kernel
theorem ed_64_156 : decode (ex_cod 64) 156 = .ok (.isub, 1) := by decide +kernel
theorem ed_64_157 : decode (ex_cod 64) 157 = .ok (.putfield 90, 3) := by decide +kernel
theorem ed_64_160 : decode (ex_cod 64) 160 = .ok (.aload_n 0, 1) := by decide +kernel
theorem ed_64_161 : decode (ex_cod 64) 161 = .ok (.iload_n 1, 1) := by decide +kernel
theorem ed_64_162 : decode (ex_cod 64) 162 = .ok (.invokevirtual 96, 3) := by decide +kernel
theorem ed_64_165 : decode (ex_cod 64) 165 = .ok (.aload_n 0, 1) := by decide +kernel
theorem ed_64_166 : decode (ex_cod 64) 166 = .ok (.iload_n 1, 1) := by decide +kernel
theorem ed_64_167 : decode (ex_cod 64) 167 = .ok (.iconst 2, 1) := by decide +kernel
theorem ed_64_168 : decode (ex_cod 64) 168 = .ok (.invokevirtual 83, 3) := by decide +kernel
theorem ed_64_171 : decode (ex_cod 64) 171 = .ok (.goto 99, 3) := by decide +kernel
theorem ed_64_174 : decode (ex_cod 64) 174 = .ok (.iload_n 2, 1) := by decide +kernel
theorem ed_64_175 : decode (ex_cod 64) 175 = .ok (.iload_n 3, 1) := by decide +kernel
theorem ed_64_176 : decode (ex_cod 64) 176 = .ok (.iadd, 1) := by decide +kernel
theorem ed_64_177 : decode (ex_cod 64) 177 = .ok (.aload_n 0, 1) := by decide +kernel
theorem ed_64_178 : decode (ex_cod 64) 178 = .ok (.getfield 41, 3) := by decide +kernel
theorem ed_64_181 : decode (ex_cod 64) 181 = .ok (.if_icmp .ne 27, 3) := by decide +kernel
theorem ed_64_184 : decode (ex_cod 64) 184 = .ok (.iload_n 3, 1) := by decide +kernel
theorem ed_64_185 : decode (ex_cod 64) 185 = .ok (.ifCond .le 23, 3) := by decide +kernel
theorem ed_64_188 : decode (ex_cod 64) 188 = .ok (.aload_n 0, 1) := by decide +kernel
theorem ed_64_189 : decode (ex_cod 64) 189 = .ok (.getfield 26, 3) := by decide +kernel
theorem ed_64_192 : decode (ex_cod 64) 192 = .ok (.aload_n 0, 1) := by decide +kernel
theorem ed_64_193 : decode (ex_cod 64) 193 = .ok (.iconst 3, 1) := by decide +kernel
theorem ed_64_194 : decode (ex_cod 64) 194 = .ok (.iconst 0, 1) := by decide +kernel
theorem ed_64_195 : decode (ex_cod 64) 195 = .ok (.invokevirtual 76, 3) := by decide +kernel
theorem ed_64_198 : decode (ex_cod 64) 198 = .ok (.iconst 0, 1) := by decide +kernel
theorem ed_64_199 : decode (ex_cod 64) 199 = .ok (.iastore, 1) := by decide +kernel
theorem ed_64_200 : decode (ex_cod 64) 200 = .ok (.aload_n 0, 1) := by decide +kernel
theorem ed_64_201 : decode (ex_cod 64) 201 = .ok (.iload_n 1, 1) := by decide +kernel
theorem ed_64_202 : decode (ex_cod 64) 202 = .ok (.invokevirtual 96, 3) := by decide +kernel
theorem ed_64_205 : decode (ex_cod 64) 205 = .ok (.goto 59, 3) := by decide +kernel
theorem ed_64_208 : decode (ex_cod 64) 208 = .ok (.iload_n 2, 1) := by decide +kernel
theorem ed_64_209 : decode (ex_cod 64) 209 = .ok (.iload_n 3, 1) := by decide +kernel
theorem ed_64_210 : decode (ex_cod 64) 210 = .ok (.iadd, 1) := by decide +kernel
theorem ed_64_211 : decode (ex_cod 64) 211 = .ok (.aload_n 0, 1) := by decide +kernel
theorem ed_64_212 : decode (ex_cod 64) 212 = .ok (.getfield 41, 3) := by decide +kernel
theorem ed_64_215 : decode (ex_cod 64) 215 = .ok (.if_icmp .ne 12, 3) := by decide +kernel
theorem ed_64_218 : decode (ex_cod 64) 218 = .ok (.aload_n 0, 1) := by decide +kernel
theorem ed_64_219 : decode (ex_cod 64) 219 = .ok (.iconst 1, 1) := by decide +kernel
theorem ed_64_220 : decode (ex_cod 64) 220 = .ok (.iconst 0, 1) := by decide +kernel
theorem ed_64_221 : decode (ex_cod 64) 221 = .ok (.invokevirtual 93, 3) := by decide +kernel
theorem ed_64_224 : decode (ex_cod 64) 224 = .ok (.goto 40, 3) := by decide +kernel
theorem ed_64_227 : decode (ex_cod 64) 227 = .ok (.iload 5, 2) := by decide +kernel
theorem ed_64_229 : decode (ex_cod 64) 229 = .ok (.aload_n 0, 1) := by decide +kernel
theorem ed_64_230 : decode (ex_cod 64) 230 = .ok (.getfield 41, 3) := by decide +kernel
theorem ed_64_233 : decode (ex_cod 64) 233 = .ok (.if_icmp .lt 31, 3) := by decide +kernel
theorem ed_64_236 : decode (ex_cod 64) 236 = .ok (.iload 5, 2) := by decide +kernel
theorem ed_64_238 : decode (ex_cod 64) 238 = .ok (.iconst 2, 1) := by decide +kernel
theorem ed_64_239 : decode (ex_cod 64) 239 = .ok (.aload_n 0, 1) := by decide +kernel
theorem ed_64_240 : decode (ex_cod 64) 240 = .ok (.getfield 41, 3) := by decide +kernel
theorem ed_64_243 : decode (ex_cod 64) 243 = .ok (.imul, 1) := by decide +kernel
theorem ed_64_244 : decode (ex_cod 64) 244 = .ok (.if_icmp .ne 15, 3) := by decide +kernel
theorem ed_64_247 : decode (ex_cod 64) 247 = .ok (.aload_n 0, 1) := by decide +kernel
theorem ed_64_248 : decode (ex_cod 64) 248 = .ok (.getfield 26, 3) := by decide +kernel
theorem ed_64_251 : decode (ex_cod 64) 251 = .ok (.aload_n 0, 1) := by decide +kernel
theorem ed_64_252 : decode (ex_cod 64) 252 = .ok (.iconst 4, 1) := by decide +kernel
theorem ed_64_253 : decode (ex_cod 64) 253 = .ok (.iconst 0, 1) := by decide +kernel
theorem ed_64_254 : decode (ex_cod 64) 254 = .ok (.invokevirtual 76, 3) := by decide +kernel
theorem ed_64_257 : decode (ex_cod 64) 257 = .ok (.iconst 0, 1) := by decide +kernel
theorem ed_64_258 : decode (ex_cod 64) 258 = .ok (.iastore, 1) := by decide +kernel
theorem ed_64_259 : decode (ex_cod 64) 259 = .ok (.aload_n 0, 1) := by decide +kernel
theorem ed_64_260 : decode (ex_cod 64) 260 = .ok (.iload_n 1, 1) := by decide +kernel
theorem ed_64_261 : decode (ex_cod 64) 261 = .ok (.invokevirtual 96, 3) := by decide +kernel
theorem ed_64_264 : decode (ex_cod 64) 264 = .ok (.aload_n 0, 1) := by decide +kernel
theorem ed_64_265 : decode (ex_cod 64) 265 = .ok (.iload_n 1, 1) := by decide +kernel
theorem ed_64_266 : decode (ex_cod 64) 266 = .ok (.iconst 1, 1) := by decide +kernel
theorem ed_64_267 : decode (ex_cod 64) 267 = .ok (.invokevirtual 83, 3) := by decide +kernel
theorem ed_64_270 : decode (ex_cod 64) 270 = .ok (.return_, 1) := by decide +kernel
theorem ed_65_0 : decode (ex_cod 65) 0 = .ok (.aload_n 0, 1) := by decide +kernel
theorem ed_65_1 : decode (ex_cod 65) 1 = .ok (.aload_n 0, 1) := by decide +kernel
theorem ed_65_2 : decode (ex_cod 65) 2 = .ok (.getfield 26, 3) := by decide +kernel
theorem ed_65_5 : decode (ex_cod 65) 5 = .ok (.iload_n 1, 1) := by decide +kernel
theorem ed_65_6 : decode (ex_cod 65) 6 = .ok (.iaload, 1) := by decide +kernel
theorem ed_65_7 : decode (ex_cod 65) 7 = .ok (.iconst 1, 1) := by decide +kernel
theorem ed_65_8 : decode (ex_cod 65) 8 = .ok (.if_icmp .eq 13, 3) := by decide +kernel
theorem ed_65_11 : decode (ex_cod 65) 11 = .ok (.aload_n 0, 1) := by decide +kernel
theorem ed_65_12 : decode (ex_cod 65) 12 = .ok (.getfield 26, 3) := by decide +kernel
theorem ed_65_15 : decode (ex_cod 65) 15 = .ok (.iload_n 1, 1) := by decide +kernel
theorem ed_65_16 : decode (ex_cod 65) 16 = .ok (.iaload, 1) := by decide +kernel
theorem ed_65_17 : decode (ex_cod 65) 17 = .ok (.iconst 2, 1) := by decide +kernel
theorem ed_65_18 : decode (ex_cod 65) 18 = .ok (.if_icmp .ne 7, 3) := by decide +kernel
theorem ed_65_21 : decode (ex_cod 65) 21 = .ok (.iconst 1, 1) := by decide +kernel
theorem ed_65_22 : decode (ex_cod 65) 22 = .ok (.goto 4, 3) := by decide +kernel
theorem ed_65_25 : decode (ex_cod 65) 25 = .ok (.iconst 0, 1) := by decide +kernel
theorem ed_65_26 : decode (ex_cod 65) 26 = .ok (.putfield 99, 3) := by decide +kernel
theorem ed_65_29 : decode (ex_cod 65) 29 = .ok (.aload_n 0, 1) := by decide +kernel
theorem ed_65_30 : decode (ex_cod 65) 30 = .ok (.getfield 99, 3) := by decide +kernel
theorem ed_65_33 : decode (ex_cod 65) 33 = .ok (.ifCond .eq 10, 3) := by decide +kernel
theorem ed_65_36 : decode (ex_cod 65) 36 = .ok (.aload_n 0, 1) := by decide +kernel
theorem ed_65_37 : decode (ex_cod 65) 37 = .ok (.iload_n 1, 1) := by decide +kernel
theorem ed_65_38 : decode (ex_cod 65) 38 = .ok (.iconst 2, 1) := by decide +kernel
theorem ed_65_39 : decode (ex_cod 65) 39 = .ok (.invokevirtual 83, 3) := by decide +kernel
theorem ed_65_42 : decode (ex_cod 65) 42 = .ok (.return_, 1) := by decide +kernel
theorem ed_65_43 : decode (ex_cod 65) 43 = .ok (.aload_n 0, 1) := by decide +kernel
theorem ed_65_44 : decode (ex_cod 65) 44 = .ok (.iload_n 1, 1) := by decide +kernel
theorem ed_65_45 : decode (ex_cod 65) 45 = .ok (.invokevirtual 103, 3) := by decide +kernel
theorem ed_65_48 : decode (ex_cod 65) 48 = .ok (.aload_n 0, 1) := by decide +kernel
theorem ed_65_49 : decode (ex_cod 65) 49 = .ok (.invokevirtual 106, 3) := by decide +kernel
theorem ed_65_52 : decode (ex_cod 65) 52 = .ok (.istore_n 2, 1) := by decide +kernel
theorem ed_65_53 : decode (ex_cod 65) 53 = .ok (.aload_n 0, 1) := by decide +kernel
theorem ed_65_54 : decode (ex_cod 65) 54 = .ok (.getfield 16, 3) := by decide +kernel
theorem ed_65_57 : decode (ex_cod 65) 57 = .ok (.iload_n 1, 1) := by decide +kernel
theorem ed_65_58 : decode (ex_cod 65) 58 = .ok (.iload_n 2, 1) := by decide +kernel
theorem ed_65_59 : decode (ex_cod 65) 59 = .ok (.iastore, 1) := by decide +kernel
theorem ed_65_60 : decode (ex_cod 65) 60 = .ok (.aload_n 0, 1) := by decide +kernel
theorem ed_65_61 : decode (ex_cod 65) 61 = .ok (.getfield 19, 3) := by decide +kernel
theorem ed_65_64 : decode (ex_cod 65) 64 = .ok (.iload_n 1, 1) := by decide +kernel
theorem ed_65_65 : decode (ex_cod 65) 65 = .ok (.iconst 0, 1) := by decide +kernel
theorem ed_65_66 : decode (ex_cod 65) 66 = .ok (.bastore, 1) := by decide +kernel
theorem ed_65_67 : decode (ex_cod 65) 67 = .ok (.aload_n 0, 1) := by decide +kernel
theorem ed_65_68 : decode (ex_cod 65) 68 = .ok (.getfield 13, 3) := by decide +kernel
theorem ed_65_71 : decode (ex_cod 65) 71 = .ok (.iload_n 2, 1) := by decide +kernel
theorem ed_65_72 : decode (ex_cod 65) 72 = .ok (.aload_n 0, 1) := by decide +kernel
theorem ed_65_73 : decode (ex_cod 65) 73 = .ok (.getfield 7, 3) := by decide +kernel
theorem ed_65_76 : decode (ex_cod 65) 76 = .ok (.iload_n 1, 1) := by decide +kernel
theorem ed_65_77 : decode (ex_cod 65) 77 = .ok (.iaload, 1) := by decide +kernel
theorem ed_65_78 : decode (ex_cod 65) 78 = .ok (.iastore, 1) := by decide +kernel
theorem ed_65_79 : decode (ex_cod 65) 79 = .ok (.return_, 1) := by decide +kernel
theorem ed_66_0 : decode (ex_cod 66) 0 = .ok (.iload_n 1, 1) := by decide +kernel
theorem ed_66_1 : decode (ex_cod 66) 1 = .ok (.invokestatic 109, 3) := by decide +kernel
theorem ed_66_4 : decode (ex_cod 66) 4 = .ok (.ifCond .ne 5, 3) := by decide +kernel
theorem ed_66_7 : decode (ex_cod 66) 7 = .ok (.iconst 0, 1) := by decide +kernel
theorem ed_66_8 : decode (ex_cod 66) 8 = .ok (.ireturn, 1) := by decide +kernel
theorem ed_66_9 : decode (ex_cod 66) 9 = .ok (.aload_n 0, 1) := by decide +kernel
theorem ed_66_10 : decode (ex_cod 66) 10 = .ok (.iload_n 1, 1) := by decide +kernel
theorem ed_66_11 : decode (ex_cod 66) 11 = .ok (.invokevirtual 112, 3) := by decide +kernel
theorem ed_66_14 : decode (ex_cod 66) 14 = .ok (.aload_n 0, 1) := by decide +kernel
theorem ed_66_15 : decode (ex_cod 66) 15 = .ok (.getfield 13, 3) := by decide +kernel
theorem ed_66_18 : decode (ex_cod 66) 18 = .ok (.aload_n 0, 1) := by decide +kernel
theorem ed_66_19 : decode (ex_cod 66) 19 = .ok (.getfield 16, 3) := by decide +kernel
theorem ed_66_22 : decode (ex_cod 66) 22 = .ok (.iload_n 1, 1) := by decide +kernel
theorem ed_66_23 : decode (ex_cod 66) 23 = .ok (.iaload, 1) := by decide +kernel
theorem ed_66_24 : decode (ex_cod 66) 24 = .ok (.iaload, 1) := by decide +kernel
theorem ed_66_25 : decode (ex_cod 66) 25 = .ok (.ireturn, 1) := by decide +kernel
theorem ed_67_0 : decode (ex_cod 67) 0 = .ok (.iload_n 1, 1) := by decide +kernel
theorem ed_67_1 : decode (ex_cod 67) 1 = .ok (.invokestatic 109, 3) := by decide +kernel
theorem ed_67_4 : decode (ex_cod 67) 4 = .ok (.ifCond .ne 5, 3) := by decide +kernel
theorem ed_67_7 : decode (ex_cod 67) 7 = .ok (.iconst (-1), 1) := by decide +kernel
theorem ed_67_8 : decode (ex_cod 67) 8 = .ok (.ireturn, 1) := by decide +kernel
theorem ed_67_9 : decode (ex_cod 67) 9 = .ok (.aload_n 0, 1) := by decide +kernel
theorem ed_67_10 : decode (ex_cod 67) 10 = .ok (.iload_n 1, 1) := by decide +kernel
theorem ed_67_11 : decode (ex_cod 67) 11 = .ok (.invokevirtual 112, 3) := by decide +kernel
theorem ed_67_14 : decode (ex_cod 67) 14 = .ok (.aload_n 0, 1) := by decide +kernel
theorem ed_67_15 : decode (ex_cod 67) 15 = .ok (.invokevirtual 106, 3) := by decide +kernel
theorem ed_67_18 : decode (ex_cod 67) 18 = .ok (.istore_n 3, 1) := by decide +kernel
theorem ed_67_19 : decode (ex_cod 67) 19 = .ok (.aload_n 0, 1) := by decide +kernel
theorem ed_67_20 : decode (ex_cod 67) 20 = .ok (.getfield 16, 3) := by decide +kernel
theorem ed_67_23 : decode (ex_cod 67) 23 = .ok (.iload_n 1, 1) := by decide +kernel
theorem ed_67_24 : decode (ex_cod 67) 24 = .ok (.iload_n 3, 1) := by decide +kernel
theorem ed_67_25 : decode (ex_cod 67) 25 = .ok (.iastore, 1) := by decide +kernel
theorem ed_67_26 : decode (ex_cod 67) 26 = .ok (.aload_n 0, 1) := by decide +kernel
theorem ed_67_27 : decode (ex_cod 67) 27 = .ok (.getfield 13, 3) := by decide +kernel
theorem ed_67_30 : decode (ex_cod 67) 30 = .ok (.iload_n 3, 1) := by decide +kernel
theorem ed_67_31 : decode (ex_cod 67) 31 = .ok (.iload_n 2, 1) := by decide +kernel
theorem ed_67_32 : decode (ex_cod 67) 32 = .ok (.iastore, 1) := by decide +kernel
theorem ed_67_33 : decode (ex_cod 67) 33 = .ok (.aload_n 0, 1) := by decide +kernel
theorem ed_67_34 : decode (ex_cod 67) 34 = .ok (.getfield 19, 3) := by decide +kernel
theorem ed_67_37 : decode (ex_cod 67) 37 = .ok (.iload_n 1, 1) := by decide +kernel
theorem ed_67_38 : decode (ex_cod 67) 38 = .ok (.iconst 1, 1) := by decide +kernel
theorem ed_67_39 : decode (ex_cod 67) 39 = .ok (.bastore, 1) := by decide +kernel
theorem ed_67_40 : decode (ex_cod 67) 40 = .ok (.aload_n 0, 1) := by decide +kernel
theorem ed_67_41 : decode (ex_cod 67) 41 = .ok (.getfield 23, 3) := by decide +kernel
theorem ed_67_44 : decode (ex_cod 67) 44 = .ok (.iload_n 1, 1) := by decide +kernel
theorem ed_67_45 : decode (ex_cod 67) 45 = .ok (.aload_n 0, 1) := by decide +kernel
theorem ed_67_46 : decode (ex_cod 67) 46 = .ok (.getfield 52, 3) := by decide +kernel
theorem ed_67_49 : decode (ex_cod 67) 49 = .ok (.iastore, 1) := by decide +kernel
theorem ed_67_50 : decode (ex_cod 67) 50 = .ok (.iload_n 3, 1) := by decide +kernel
theorem ed_67_51 : decode (ex_cod 67) 51 = .ok (.ireturn, 1) := by decide +kernel
theorem ed_68_0 : decode (ex_cod 68) 0 = .ok (.aload_n 0, 1) := by decide +kernel
theorem ed_68_1 : decode (ex_cod 68) 1 = .ok (.invokevirtual 59, 3) := by decide +kernel
theorem ed_68_4 : decode (ex_cod 68) 4 = .ok (.ireturn, 1) := by decide +kernel
theorem ed_69_0 : decode (ex_cod 69) 0 = .ok (.iconst (-1), 1) := by decide +kernel
theorem ed_69_1 : decode (ex_cod 69) 1 = .ok (.istore_n 1, 1) := by decide +kernel
theorem ed_69_2 : decode (ex_cod 69) 2 = .ok (.iconst 0, 1) := by decide +kernel
theorem ed_69_3 : decode (ex_cod 69) 3 = .ok (.istore_n 2, 1) := by decide +kernel
theorem ed_69_4 : decode (ex_cod 69) 4 = .ok (.iload_n 2, 1) := by decide +kernel
theorem ed_69_5 : decode (ex_cod 69) 5 = .ok (.bipush 16, 2) := by decide +kernel
theorem ed_69_7 : decode (ex_cod 69) 7 = .ok (.if_icmp .ge 52, 3) := by decide +kernel
theorem ed_69_10 : decode (ex_cod 69) 10 = .ok (.aload_n 0, 1) := by decide +kernel
theorem ed_69_11 : decode (ex_cod 69) 11 = .ok (.getfield 19, 3) := by decide +kernel
theorem ed_69_14 : decode (ex_cod 69) 14 = .ok (.iload_n 2, 1) := by decide +kernel
theorem ed_69_15 : decode (ex_cod 69) 15 = .ok (.baload, 1) := by decide +kernel
theorem ed_69_16 : decode (ex_cod 69) 16 = .ok (.ifCond .eq 37, 3) := by decide +kernel
theorem ed_69_19 : decode (ex_cod 69) 19 = .ok (.aload_n 0, 1) := by decide +kernel
theorem ed_69_20 : decode (ex_cod 69) 20 = .ok (.getfield 23, 3) := by decide +kernel
theorem ed_69_23 : decode (ex_cod 69) 23 = .ok (.iload_n 2, 1) := by decide +kernel
theorem ed_69_24 : decode (ex_cod 69) 24 = .ok (.iaload, 1) := by decide +kernel
theorem ed_69_25 : decode (ex_cod 69) 25 = .ok (.aload_n 0, 1) := by decide +kernel
theorem ed_69_26 : decode (ex_cod 69) 26 = .ok (.getfield 52, 3) := by decide +kernel
theorem ed_69_29 : decode (ex_cod 69) 29 = .ok (.if_icmp .eq 24, 3) := by decide +kernel
theorem ed_69_32 : decode (ex_cod 69) 32 = .ok (.iload_n 1, 1) := by decide +kernel
theorem ed_69_33 : decode (ex_cod 69) 33 = .ok (.ifCond .lt 18, 3) := by decide +kernel
theorem ed_69_36 : decode (ex_cod 69) 36 = .ok (.aload_n 0, 1) := by decide +kernel
theorem ed_69_37 : decode (ex_cod 69) 37 = .ok (.getfield 23, 3) := by decide +kernel
theorem ed_69_40 : decode (ex_cod 69) 40 = .ok (.iload_n 2, 1) := by decide +kernel
theorem ed_69_41 : decode (ex_cod 69) 41 = .ok (.iaload, 1) := by decide +kernel
theorem ed_69_42 : decode (ex_cod 69) 42 = .ok (.aload_n 0, 1) := by decide +kernel
theorem ed_69_43 : decode (ex_cod 69) 43 = .ok (.getfield 23, 3) := by decide +kernel
theorem ed_69_46 : decode (ex_cod 69) 46 = .ok (.iload_n 1, 1) := by decide +kernel
theorem ed_69_47 : decode (ex_cod 69) 47 = .ok (.iaload, 1) := by decide +kernel
theorem ed_69_48 : decode (ex_cod 69) 48 = .ok (.if_icmp .ge 5, 3) := by decide +kernel
theorem ed_69_51 : decode (ex_cod 69) 51 = .ok (.iload_n 2, 1) := by decide +kernel
theorem ed_69_52 : decode (ex_cod 69) 52 = .ok (.istore_n 1, 1) := by decide +kernel
theorem ed_69_53 : decode (ex_cod 69) 53 = .ok (.iinc 2 1, 3) := by decide +kernel
theorem ed_69_56 : decode (ex_cod 69) 56 = .ok (.goto (-52), 3) := by decide +kernel
theorem ed_69_59 : decode (ex_cod 69) 59 = .ok (.iload_n 1, 1) := by decide +kernel
theorem ed_69_60 : decode (ex_cod 69) 60 = .ok (.ifCond .lt 8, 3) := by decide +kernel
theorem ed_69_63 : decode (ex_cod 69) 63 = .ok (.aload_n 0, 1) := by decide +kernel
theorem ed_69_64 : decode (ex_cod 69) 64 = .ok (.iload_n 1, 1) := by decide +kernel
theorem ed_69_65 : decode (ex_cod 69) 65 = .ok (.invokevirtual 69, 3) := by decide +kernel
theorem ed_69_68 : decode (ex_cod 69) 68 = .ok (.iload_n 1, 1) := by decide +kernel
theorem ed_69_69 : decode (ex_cod 69) 69 = .ok (.ireturn, 1) := by decide +kernel
theorem ed_70_0 : decode (ex_cod 70) 0 = .ok (.iconst 0, 1) := by decide +kernel
theorem ed_70_1 : decode (ex_cod 70) 1 = .ok (.istore_n 1, 1) := by decide +kernel
theorem ed_70_2 : decode (ex_cod 70) 2 = .ok (.iload_n 1, 1) := by decide +kernel
theorem ed_70_3 : decode (ex_cod 70) 3 = .ok (.bipush 16, 2) := by decide +kernel
theorem ed_70_5 : decode (ex_cod 70) 5 = .ok (.if_icmp .ge 30, 3) := by decide +kernel
theorem ed_70_8 : decode (ex_cod 70) 8 = .ok (.aload_n 0, 1) := by decide +kernel
theorem ed_70_9 : decode (ex_cod 70) 9 = .ok (.getfield 16, 3) := by decide +kernel
theorem ed_70_12 : decode (ex_cod 70) 12 = .ok (.iload_n 1, 1) := by decide +kernel
theorem ed_70_13 : decode (ex_cod 70) 13 = .ok (.iconst (-1), 1) := by decide +kernel
theorem ed_70_14 : decode (ex_cod 70) 14 = .ok (.iastore, 1) := by decide +kernel
theorem ed_70_15 : decode (ex_cod 70) 15 = .ok (.aload_n 0, 1) := by decide +kernel
theorem ed_70_16 : decode (ex_cod 70) 16 = .ok (.getfield 19, 3) := by decide +kernel
theorem ed_70_19 : decode (ex_cod 70) 19 = .ok (.iload_n 1, 1) := by decide +kernel
theorem ed_70_20 : decode (ex_cod 70) 20 = .ok (.iconst 0, 1) := by decide +kernel
theorem ed_70_21 : decode (ex_cod 70) 21 = .ok (.bastore, 1) := by decide +kernel
theorem ed_70_22 : decode (ex_cod 70) 22 = .ok (.aload_n 0, 1) := by decide +kernel
theorem ed_70_23 : decode (ex_cod 70) 23 = .ok (.getfield 26, 3) := by decide +kernel
theorem ed_70_26 : decode (ex_cod 70) 26 = .ok (.iload_n 1, 1) := by decide +kernel
theorem ed_70_27 : decode (ex_cod 70) 27 = .ok (.iconst 0, 1) := by decide +kernel
theorem ed_70_28 : decode (ex_cod 70) 28 = .ok (.iastore, 1) := by decide +kernel
theorem ed_70_29 : decode (ex_cod 70) 29 = .ok (.iinc 1 1, 3) := by decide +kernel
theorem ed_70_32 : decode (ex_cod 70) 32 = .ok (.goto (-30), 3) := by decide +kernel
theorem ed_70_35 : decode (ex_cod 70) 35 = .ok (.aload_n 0, 1) := by decide +kernel
theorem ed_70_36 : decode (ex_cod 70) 36 = .ok (.iconst 0, 1) := by decide +kernel
theorem ed_70_37 : decode (ex_cod 70) 37 = .ok (.putfield 90, 3) := by decide +kernel
theorem ed_70_40 : decode (ex_cod 70) 40 = .ok (.return_, 1) := by decide +kernel
theorem ed_71_0 : decode (ex_cod 71) 0 = .ok (.iconst 0, 1) := by decide +kernel
theorem ed_71_1 : decode (ex_cod 71) 1 = .ok (.istore_n 1, 1) := by decide +kernel
theorem ed_71_2 : decode (ex_cod 71) 2 = .ok (.iconst 0, 1) := by decide +kernel
theorem ed_71_3 : decode (ex_cod 71) 3 = .ok (.istore_n 2, 1) := by decide +kernel
theorem ed_71_4 : decode (ex_cod 71) 4 = .ok (.iload_n 2, 1) := by decide +kernel
theorem ed_71_5 : decode (ex_cod 71) 5 = .ok (.bipush 16, 2) := by decide +kernel
theorem ed_71_7 : decode (ex_cod 71) 7 = .ok (.if_icmp .ge 26, 3) := by decide +kernel
theorem ed_71_10 : decode (ex_cod 71) 10 = .ok (.aload_n 0, 1) := by decide +kernel
theorem ed_71_11 : decode (ex_cod 71) 11 = .ok (.getfield 19, 3) := by decide +kernel
theorem ed_71_14 : decode (ex_cod 71) 14 = .ok (.iload_n 2, 1) := by decide +kernel
theorem ed_71_15 : decode (ex_cod 71) 15 = .ok (.baload, 1) := by decide +kernel
theorem ed_71_16 : decode (ex_cod 71) 16 = .ok (.ifCond .eq 9, 3) := by decide +kernel
theorem ed_71_19 : decode (ex_cod 71) 19 = .ok (.iload_n 1, 1) := by decide +kernel
theorem ed_71_20 : decode (ex_cod 71) 20 = .ok (.iconst 1, 1) := by decide +kernel
theorem ed_71_21 : decode (ex_cod 71) 21 = .ok (.iadd, 1) := by decide +kernel
theorem ed_71_22 : decode (ex_cod 71) 22 = .ok (.goto 4, 3) := by decide +kernel
theorem ed_71_25 : decode (ex_cod 71) 25 = .ok (.iload_n 1, 1) := by decide +kernel
theorem ed_71_26 : decode (ex_cod 71) 26 = .ok (.istore_n 1, 1) := by decide +kernel
theorem ed_71_27 : decode (ex_cod 71) 27 = .ok (.iinc 2 1, 3) := by decide +kernel
theorem ed_71_30 : decode (ex_cod 71) 30 = .ok (.goto (-26), 3) := by decide +kernel
theorem ed_71_33 : decode (ex_cod 71) 33 = .ok (.iload_n 1, 1) := by decide +kernel
theorem ed_71_34 : decode (ex_cod 71) 34 = .ok (.ireturn, 1) := by decide +kernel
theorem ed_72_0 : decode (ex_cod 72) 0 = .ok (.iconst 0, 1) := by decide +kernel
theorem ed_72_1 : decode (ex_cod 72) 1 = .ok (.istore_n 1, 1) := by decide +kernel
theorem ed_72_2 : decode (ex_cod 72) 2 = .ok (.aload_n 0, 1) := by decide +kernel
theorem ed_72_3 : decode (ex_cod 72) 3 = .ok (.ldc 115, 2) := by decide +kernel
theorem ed_72_5 : decode (ex_cod 72) 5 = .ok (.invokevirtual 65, 3) := by decide +kernel
theorem ed_72_8 : decode (ex_cod 72) 8 = .ok (.istore_n 2, 1) := by decide +kernel
theorem ed_72_9 : decode (ex_cod 72) 9 = .ok (.iload_n 2, 1) := by decide +kernel
theorem ed_72_10 : decode (ex_cod 72) 10 = .ok (.ifCond .lt 21, 3) := by decide +kernel
theorem ed_72_13 : decode (ex_cod 72) 13 = .ok (.aload_n 0, 1) := by decide +kernel
theorem ed_72_14 : decode (ex_cod 72) 14 = .ok (.iload_n 2, 1) := by decide +kernel
theorem ed_72_15 : decode (ex_cod 72) 15 = .ok (.invokevirtual 69, 3) := by decide +kernel
theorem ed_72_18 : decode (ex_cod 72) 18 = .ok (.iinc 1 1, 3) := by decide +kernel
theorem ed_72_21 : decode (ex_cod 72) 21 = .ok (.aload_n 0, 1) := by decide +kernel
theorem ed_72_22 : decode (ex_cod 72) 22 = .ok (.ldc 115, 2) := by decide +kernel
theorem ed_72_24 : decode (ex_cod 72) 24 = .ok (.invokevirtual 65, 3) := by decide +kernel
theorem ed_72_27 : decode (ex_cod 72) 27 = .ok (.istore_n 2, 1) := by decide +kernel
theorem ed_72_28 : decode (ex_cod 72) 28 = .ok (.goto (-19), 3) := by decide +kernel
theorem ed_72_31 : decode (ex_cod 72) 31 = .ok (.aload_n 0, 1) := by decide +kernel
theorem ed_72_32 : decode (ex_cod 72) 32 = .ok (.invokevirtual 116, 3) := by decide +kernel
theorem ed_72_35 : decode (ex_cod 72) 35 = .ok (.aload_n 0, 1) := by decide +kernel
theorem ed_72_36 : decode (ex_cod 72) 36 = .ok (.invokevirtual 49, 3) := by decide +kernel
theorem ed_72_39 : decode (ex_cod 72) 39 = .ok (.iload_n 1, 1) := by decide +kernel
theorem ed_72_40 : decode (ex_cod 72) 40 = .ok (.ireturn, 1) := by decide +kernel
theorem ed_73_0 : decode (ex_cod 73) 0 = .ok (.aload_n 0, 1) := by decide +kernel
theorem ed_73_1 : decode (ex_cod 73) 1 = .ok (.invokevirtual 116, 3) := by decide +kernel
theorem ed_73_4 : decode (ex_cod 73) 4 = .ok (.iconst 0, 1) := by decide +kernel
theorem ed_73_5 : decode (ex_cod 73) 5 = .ok (.istore_n 1, 1) := by decide +kernel
theorem ed_73_6 : decode (ex_cod 73) 6 = .ok (.iconst 0, 1) := by decide +kernel
theorem ed_73_7 : decode (ex_cod 73) 7 = .ok (.istore_n 2, 1) := by decide +kernel
theorem ed_73_8 : decode (ex_cod 73) 8 = .ok (.iload_n 2, 1) := by decide +kernel
theorem ed_73_9 : decode (ex_cod 73) 9 = .ok (.iconst 2, 1) := by decide +kernel
theorem ed_73_10 : decode (ex_cod 73) 10 = .ok (.aload_n 0, 1) := by decide +kernel
theorem ed_73_11 : decode (ex_cod 73) 11 = .ok (.getfield 41, 3) := by decide +kernel
theorem ed_73_14 : decode (ex_cod 73) 14 = .ok (.imul, 1) := by decide +kernel
theorem ed_73_15 : decode (ex_cod 73) 15 = .ok (.if_icmp .ge 73, 3) := by decide +kernel
theorem ed_73_18 : decode (ex_cod 73) 18 = .ok (.iconst 0, 1) := by decide +kernel
theorem ed_73_19 : decode (ex_cod 73) 19 = .ok (.istore_n 3, 1) := by decide +kernel
theorem ed_73_20 : decode (ex_cod 73) 20 = .ok (.iload_n 3, 1) := by decide +kernel
theorem ed_73_21 : decode (ex_cod 73) 21 = .ok (.bipush 16, 2) := by decide +kernel
theorem ed_73_23 : decode (ex_cod 73) 23 = .ok (.if_icmp .ge 59, 3) := by decide +kernel
theorem ed_73_26 : decode (ex_cod 73) 26 = .ok (.aload_n 0, 1) := by decide +kernel
theorem ed_73_27 : decode (ex_cod 73) 27 = .ok (.getfield 32, 3) := by decide +kernel
theorem ed_73_30 : decode (ex_cod 73) 30 = .ok (.iload_n 3, 1) := by decide +kernel
theorem ed_73_31 : decode (ex_cod 73) 31 = .ok (.iaload, 1) := by decide +kernel
theorem ed_73_32 : decode (ex_cod 73) 32 = .ok (.iload_n 2, 1) := by decide +kernel
theorem ed_73_33 : decode (ex_cod 73) 33 = .ok (.if_icmp .ne 43, 3) := by decide +kernel
theorem ed_73_36 : decode (ex_cod 73) 36 = .ok (.aload_n 0, 1) := by decide +kernel
theorem ed_73_37 : decode (ex_cod 73) 37 = .ok (.getfield 16, 3) := by decide +kernel
theorem ed_73_40 : decode (ex_cod 73) 40 = .ok (.iload_n 3, 1) := by decide +kernel
theorem ed_73_41 : decode (ex_cod 73) 41 = .ok (.iload_n 2, 1) := by decide +kernel
theorem ed_73_42 : decode (ex_cod 73) 42 = .ok (.iastore, 1) := by decide +kernel
theorem ed_73_43 : decode (ex_cod 73) 43 = .ok (.aload_n 0, 1) := by decide +kernel
theorem ed_73_44 : decode (ex_cod 73) 44 = .ok (.getfield 19, 3) := by decide +kernel
theorem ed_73_47 : decode (ex_cod 73) 47 = .ok (.iload_n 3, 1) := by decide +kernel
theorem ed_73_48 : decode (ex_cod 73) 48 = .ok (.aload_n 0, 1) := by decide +kernel
theorem ed_73_49 : decode (ex_cod 73) 49 = .ok (.getfield 35, 3) := by decide +kernel
theorem ed_73_52 : decode (ex_cod 73) 52 = .ok (.iload_n 3, 1) := by decide +kernel
theorem ed_73_53 : decode (ex_cod 73) 53 = .ok (.baload, 1) := by decide +kernel
theorem ed_73_54 : decode (ex_cod 73) 54 = .ok (.bastore, 1) := by decide +kernel
theorem ed_73_55 : decode (ex_cod 73) 55 = .ok (.aload_n 0, 1) := by decide +kernel
theorem ed_73_56 : decode (ex_cod 73) 56 = .ok (.getfield 23, 3) := by decide +kernel
theorem ed_73_59 : decode (ex_cod 73) 59 = .ok (.iload_n 3, 1) := by decide +kernel
theorem ed_73_60 : decode (ex_cod 73) 60 = .ok (.aload_n 0, 1) := by decide +kernel
theorem ed_73_61 : decode (ex_cod 73) 61 = .ok (.getfield 38, 3) := by decide +kernel
theorem ed_73_64 : decode (ex_cod 73) 64 = .ok (.iload_n 3, 1) := by decide +kernel
theorem ed_73_65 : decode (ex_cod 73) 65 = .ok (.iaload, 1) := by decide +kernel
theorem ed_73_66 : decode (ex_cod 73) 66 = .ok (.iastore, 1) := by decide +kernel
theorem ed_73_67 : decode (ex_cod 73) 67 = .ok (.aload_n 0, 1) := by decide +kernel
theorem ed_73_68 : decode (ex_cod 73) 68 = .ok (.iload_n 3, 1) := by decide +kernel
theorem ed_73_69 : decode (ex_cod 73) 69 = .ok (.iconst 1, 1) := by decide +kernel
theorem ed_73_70 : decode (ex_cod 73) 70 = .ok (.invokevirtual 83, 3) := by decide +kernel
theorem ed_73_73 : decode (ex_cod 73) 73 = .ok (.iinc 1 1, 3) := by decide +kernel
theorem ed_73_76 : decode (ex_cod 73) 76 = .ok (.iinc 3 1, 3) := by decide +kernel
theorem ed_73_79 : decode (ex_cod 73) 79 = .ok (.goto (-59), 3) := by decide +kernel
theorem ed_73_82 : decode (ex_cod 73) 82 = .ok (.iinc 2 1, 3) := by decide +kernel
theorem ed_73_85 : decode (ex_cod 73) 85 = .ok (.goto (-77), 3) := by decide +kernel
theorem ed_73_88 : decode (ex_cod 73) 88 = .ok (.iload_n 1, 1) := by decide +kernel
theorem ed_73_89 : decode (ex_cod 73) 89 = .ok (.ireturn, 1) := by decide +kernel
theorem ed_74_0 : decode (ex_cod 74) 0 = .ok (.aload_n 0, 1) := by decide +kernel
theorem ed_74_1 : decode (ex_cod 74) 1 = .ok (.invokevirtual 119, 3) := by decide +kernel
theorem ed_74_4 : decode (ex_cod 74) 4 = .ok (.istore_n 1, 1) := by decide +kernel
theorem ed_74_5 : decode (ex_cod 74) 5 = .ok (.aload_n 0, 1) := by decide +kernel
theorem ed_74_6 : decode (ex_cod 74) 6 = .ok (.invokevirtual 116, 3) := by decide +kernel
theorem ed_74_9 : decode (ex_cod 74) 9 = .ok (.aload_n 0, 1) := by decide +kernel
theorem ed_74_10 : decode (ex_cod 74) 10 = .ok (.invokevirtual 49, 3) := by decide +kernel
theorem ed_74_13 : decode (ex_cod 74) 13 = .ok (.aload_n 0, 1) := by decide +kernel
theorem ed_74_14 : decode (ex_cod 74) 14 = .ok (.iconst 0, 1) := by decide +kernel
theorem ed_74_15 : decode (ex_cod 74) 15 = .ok (.putfield 52, 3) := by decide +kernel
theorem ed_74_18 : decode (ex_cod 74) 18 = .ok (.iload_n 1, 1) := by decide +kernel
theorem ed_74_19 : decode (ex_cod 74) 19 = .ok (.ireturn, 1) := by decide +kernel
theorem ed_75_0 : decode (ex_cod 75) 0 = .ok (.aload_n 0, 1) := by decide +kernel
theorem ed_75_1 : decode (ex_cod 75) 1 = .ok (.getfield 99, 3) := by decide +kernel
theorem ed_75_4 : decode (ex_cod 75) 4 = .ok (.ireturn, 1) := by decide +kernel
theorem ed_76_0 : decode (ex_cod 76) 0 = .ok (.iload_n 1, 1) := by decide +kernel
theorem ed_76_1 : decode (ex_cod 76) 1 = .ok (.invokestatic 109, 3) := by decide +kernel
theorem ed_76_4 : decode (ex_cod 76) 4 = .ok (.ifCond .ne 7, 3) := by decide +kernel
theorem ed_76_7 : decode (ex_cod 76) 7 = .ok (.iconst 0, 1) := by decide +kernel
theorem ed_76_8 : decode (ex_cod 76) 8 = .ok (.goto 32, 3) := by decide +kernel
theorem ed_76_11 : decode (ex_cod 76) 11 = .ok (.aload_n 0, 1) := by decide +kernel
theorem ed_76_12 : decode (ex_cod 76) 12 = .ok (.getfield 16, 3) := by decide +kernel
theorem ed_76_15 : decode (ex_cod 76) 15 = .ok (.iload_n 1, 1) := by decide +kernel
theorem ed_76_16 : decode (ex_cod 76) 16 = .ok (.iaload, 1) := by decide +kernel
theorem ed_76_17 : decode (ex_cod 76) 17 = .ok (.ifCond .lt 17, 3) := by decide +kernel
theorem ed_76_20 : decode (ex_cod 76) 20 = .ok (.aload_n 0, 1) := by decide +kernel
theorem ed_76_21 : decode (ex_cod 76) 21 = .ok (.getfield 13, 3) := by decide +kernel
theorem ed_76_24 : decode (ex_cod 76) 24 = .ok (.aload_n 0, 1) := by decide +kernel
theorem ed_76_25 : decode (ex_cod 76) 25 = .ok (.getfield 16, 3) := by decide +kernel
theorem ed_76_28 : decode (ex_cod 76) 28 = .ok (.iload_n 1, 1) := by decide +kernel
theorem ed_76_29 : decode (ex_cod 76) 29 = .ok (.iaload, 1) := by decide +kernel
theorem ed_76_30 : decode (ex_cod 76) 30 = .ok (.iaload, 1) := by decide +kernel
theorem ed_76_31 : decode (ex_cod 76) 31 = .ok (.goto 9, 3) := by decide +kernel
theorem ed_76_34 : decode (ex_cod 76) 34 = .ok (.aload_n 0, 1) := by decide +kernel
theorem ed_76_35 : decode (ex_cod 76) 35 = .ok (.getfield 7, 3) := by decide +kernel
theorem ed_76_38 : decode (ex_cod 76) 38 = .ok (.iload_n 1, 1) := by decide +kernel
theorem ed_76_39 : decode (ex_cod 76) 39 = .ok (.iaload, 1) := by decide +kernel
theorem ed_76_40 : decode (ex_cod 76) 40 = .ok (.ireturn, 1) := by decide +kernel
theorem ed_77_0 : decode (ex_cod 77) 0 = .ok (.iload_n 1, 1) := by decide +kernel
theorem ed_77_1 : decode (ex_cod 77) 1 = .ok (.invokestatic 109, 3) := by decide +kernel
theorem ed_77_4 : decode (ex_cod 77) 4 = .ok (.ifCond .eq 12, 3) := by decide +kernel
theorem ed_77_7 : decode (ex_cod 77) 7 = .ok (.aload_n 0, 1) := by decide +kernel
theorem ed_77_8 : decode (ex_cod 77) 8 = .ok (.getfield 7, 3) := by decide +kernel
theorem ed_77_11 : decode (ex_cod 77) 11 = .ok (.iload_n 1, 1) := by decide +kernel
theorem ed_77_12 : decode (ex_cod 77) 12 = .ok (.iaload, 1) := by decide +kernel
theorem ed_77_13 : decode (ex_cod 77) 13 = .ok (.goto 4, 3) := by decide +kernel
theorem ed_77_16 : decode (ex_cod 77) 16 = .ok (.iconst 0, 1) := by decide +kernel
theorem ed_77_17 : decode (ex_cod 77) 17 = .ok (.ireturn, 1) := by decide +kernel
theorem ed_78_0 : decode (ex_cod 78) 0 = .ok (.iload_n 1, 1) := by decide +kernel
theorem ed_78_1 : decode (ex_cod 78) 1 = .ok (.invokestatic 109, 3) := by decide +kernel
theorem ed_78_4 : decode (ex_cod 78) 4 = .ok (.ifCond .eq 12, 3) := by decide +kernel
theorem ed_78_7 : decode (ex_cod 78) 7 = .ok (.aload_n 0, 1) := by decide +kernel
theorem ed_78_8 : decode (ex_cod 78) 8 = .ok (.getfield 16, 3) := by decide +kernel
theorem ed_78_11 : decode (ex_cod 78) 11 = .ok (.iload_n 1, 1) := by decide +kernel
theorem ed_78_12 : decode (ex_cod 78) 12 = .ok (.iaload, 1) := by decide +kernel
theorem ed_78_13 : decode (ex_cod 78) 13 = .ok (.goto 4, 3) := by decide +kernel
theorem ed_78_16 : decode (ex_cod 78) 16 = .ok (.iconst (-1), 1) := by decide +kernel
theorem ed_78_17 : decode (ex_cod 78) 17 = .ok (.ireturn, 1) := by decide +kernel
theorem ed_79_0 : decode (ex_cod 79) 0 = .ok (.iload_n 1, 1) := by decide +kernel
theorem ed_79_1 : decode (ex_cod 79) 1 = .ok (.invokestatic 109, 3) := by decide +kernel
theorem ed_79_4 : decode (ex_cod 79) 4 = .ok (.ifCond .eq 12, 3) := by decide +kernel
theorem ed_79_7 : decode (ex_cod 79) 7 = .ok (.aload_n 0, 1) := by decide +kernel
theorem ed_79_8 : decode (ex_cod 79) 8 = .ok (.getfield 32, 3) := by decide +kernel
theorem ed_79_11 : decode (ex_cod 79) 11 = .ok (.iload_n 1, 1) := by decide +kernel
theorem ed_79_12 : decode (ex_cod 79) 12 = .ok (.iaload, 1) := by decide +kernel
theorem ed_79_13 : decode (ex_cod 79) 13 = .ok (.goto 4, 3) := by decide +kernel
theorem ed_79_16 : decode (ex_cod 79) 16 = .ok (.iconst (-1), 1) := by decide +kernel
theorem ed_79_17 : decode (ex_cod 79) 17 = .ok (.ireturn, 1) := by decide +kernel
theorem ed_80_0 : decode (ex_cod 80) 0 = .ok (.iload_n 1, 1) := by decide +kernel
theorem ed_80_1 : decode (ex_cod 80) 1 = .ok (.invokestatic 109, 3) := by decide +kernel
theorem ed_80_4 : decode (ex_cod 80) 4 = .ok (.ifCond .eq 21, 3) := by decide +kernel
theorem ed_80_7 : decode (ex_cod 80) 7 = .ok (.aload_n 0, 1) := by decide +kernel
theorem ed_80_8 : decode (ex_cod 80) 8 = .ok (.getfield 19, 3) := by decide +kernel
theorem ed_80_11 : decode (ex_cod 80) 11 = .ok (.iload_n 1, 1) := by decide +kernel
theorem ed_80_12 : decode (ex_cod 80) 12 = .ok (.baload, 1) := by decide +kernel
theorem ed_80_13 : decode (ex_cod 80) 13 = .ok (.ifCond .eq 12, 3) := by decide +kernel
theorem ed_80_16 : decode (ex_cod 80) 16 = .ok (.aload_n 0, 1) := by decide +kernel
theorem ed_80_17 : decode (ex_cod 80) 17 = .ok (.getfield 23, 3) := by decide +kernel
theorem ed_80_20 : decode (ex_cod 80) 20 = .ok (.iload_n 1, 1) := by decide +kernel
theorem ed_80_21 : decode (ex_cod 80) 21 = .ok (.iaload, 1) := by decide +kernel
theorem ed_80_22 : decode (ex_cod 80) 22 = .ok (.goto 4, 3) := by decide +kernel
theorem ed_80_25 : decode (ex_cod 80) 25 = .ok (.iconst (-1), 1) := by decide +kernel
theorem ed_80_26 : decode (ex_cod 80) 26 = .ok (.ireturn, 1) := by decide +kernel
theorem ed_81_0 : decode (ex_cod 81) 0 = .ok (.iload_n 1, 1) := by decide +kernel
theorem ed_81_1 : decode (ex_cod 81) 1 = .ok (.invokestatic 109, 3) := by decide +kernel
theorem ed_81_4 : decode (ex_cod 81) 4 = .ok (.ifCond .eq 12, 3) := by decide +kernel
theorem ed_81_7 : decode (ex_cod 81) 7 = .ok (.aload_n 0, 1) := by decide +kernel
theorem ed_81_8 : decode (ex_cod 81) 8 = .ok (.getfield 26, 3) := by decide +kernel
theorem ed_81_11 : decode (ex_cod 81) 11 = .ok (.iload_n 1, 1) := by decide +kernel
theorem ed_81_12 : decode (ex_cod 81) 12 = .ok (.iaload, 1) := by decide +kernel
theorem ed_81_13 : decode (ex_cod 81) 13 = .ok (.goto 4, 3) := by decide +kernel
theorem ed_81_16 : decode (ex_cod 81) 16 = .ok (.iconst 0, 1) := by decide +kernel
theorem ed_81_17 : decode (ex_cod 81) 17 = .ok (.ireturn, 1) := by decide +kernel
theorem ed_82_0 : decode (ex_cod 82) 0 = .ok (.iload_n 1, 1) := by decide +kernel
theorem ed_82_1 : decode (ex_cod 82) 1 = .ok (.iconst 1, 1) := by decide +kernel
theorem ed_82_2 : decode (ex_cod 82) 2 = .ok (.if_icmp .lt 12, 3) := by decide +kernel
theorem ed_82_5 : decode (ex_cod 82) 5 = .ok (.iload_n 1, 1) := by decide +kernel
theorem ed_82_6 : decode (ex_cod 82) 6 = .ok (.iconst 4, 1) := by decide +kernel
theorem ed_82_7 : decode (ex_cod 82) 7 = .ok (.if_icmp .gt 7, 3) := by decide +kernel
theorem ed_82_10 : decode (ex_cod 82) 10 = .ok (.iload_n 2, 1) := by decide +kernel
theorem ed_82_11 : decode (ex_cod 82) 11 = .ok (.ifCond .ge 7, 3) := by decide +kernel
theorem ed_82_14 : decode (ex_cod 82) 14 = .ok (.iconst (-1), 1) := by decide +kernel
theorem ed_82_15 : decode (ex_cod 82) 15 = .ok (.goto 9, 3) := by decide +kernel
theorem ed_82_18 : decode (ex_cod 82) 18 = .ok (.aload_n 0, 1) := by decide +kernel
theorem ed_82_19 : decode (ex_cod 82) 19 = .ok (.iload_n 1, 1) := by decide +kernel
theorem ed_82_20 : decode (ex_cod 82) 20 = .ok (.iload_n 2, 1) := by decide +kernel
theorem ed_82_21 : decode (ex_cod 82) 21 = .ok (.invokevirtual 76, 3) := by decide +kernel
theorem ed_82_24 : decode (ex_cod 82) 24 = .ok (.ireturn, 1) := by decide +kernel
theorem ed_83_0 : decode (ex_cod 83) 0 = .ok (.aload_n 0, 1) := by decide +kernel
theorem ed_83_1 : decode (ex_cod 83) 1 = .ok (.getfield 90, 3) := by decide +kernel
theorem ed_83_4 : decode (ex_cod 83) 4 = .ok (.ireturn, 1) := by decide +kernel
theorem ed_84_0 : decode (ex_cod 84) 0 = .ok (.iconst 0, 1) := by decide +kernel
theorem ed_84_1 : decode (ex_cod 84) 1 = .ok (.istore_n 1, 1) := by decide +kernel
theorem ed_84_2 : decode (ex_cod 84) 2 = .ok (.iconst 0, 1) := by decide +kernel
theorem ed_84_3 : decode (ex_cod 84) 3 = .ok (.istore_n 2, 1) := by decide +kernel
theorem ed_84_4 : decode (ex_cod 84) 4 = .ok (.iload_n 2, 1) := by decide +kernel
theorem ed_84_5 : decode (ex_cod 84) 5 = .ok (.iconst 2, 1) := by decide +kernel
theorem ed_84_6 : decode (ex_cod 84) 6 = .ok (.aload_n 0, 1) := by decide +kernel
theorem ed_84_7 : decode (ex_cod 84) 7 = .ok (.getfield 41, 3) := by decide +kernel
theorem ed_84_10 : decode (ex_cod 84) 10 = .ok (.imul, 1) := by decide +kernel
theorem ed_84_11 : decode (ex_cod 84) 11 = .ok (.if_icmp .ge 25, 3) := by decide +kernel
theorem ed_84_14 : decode (ex_cod 84) 14 = .ok (.aload_n 0, 1) := by decide +kernel
theorem ed_84_15 : decode (ex_cod 84) 15 = .ok (.iload_n 2, 1) := by decide +kernel
theorem ed_84_16 : decode (ex_cod 84) 16 = .ok (.invokevirtual 45, 3) := by decide +kernel
theorem ed_84_19 : decode (ex_cod 84) 19 = .ok (.ifCond .eq 9, 3) := by decide +kernel
theorem ed_84_22 : decode (ex_cod 84) 22 = .ok (.iload_n 1, 1) := by decide +kernel
theorem ed_84_23 : decode (ex_cod 84) 23 = .ok (.iconst 1, 1) := by decide +kernel
theorem ed_84_24 : decode (ex_cod 84) 24 = .ok (.iadd, 1) := by decide +kernel
theorem ed_84_25 : decode (ex_cod 84) 25 = .ok (.goto 4, 3) := by decide +kernel
theorem ed_84_28 : decode (ex_cod 84) 28 = .ok (.iload_n 1, 1) := by decide +kernel
theorem ed_84_29 : decode (ex_cod 84) 29 = .ok (.istore_n 1, 1) := by decide +kernel
theorem ed_84_30 : decode (ex_cod 84) 30 = .ok (.iinc 2 1, 3) := by decide +kernel
theorem ed_84_33 : decode (ex_cod 84) 33 = .ok (.goto (-29), 3) := by decide +kernel
theorem ed_84_36 : decode (ex_cod 84) 36 = .ok (.iload_n 1, 1) := by decide +kernel
theorem ed_84_37 : decode (ex_cod 84) 37 = .ok (.ireturn, 1) := by decide +kernel
theorem ed_85_0 : decode (ex_cod 85) 0 = .ok (.aload_n 0, 1) := by decide +kernel
theorem ed_85_1 : decode (ex_cod 85) 1 = .ok (.getfield 62, 3) := by decide +kernel
theorem ed_85_4 : decode (ex_cod 85) 4 = .ok (.ireturn, 1) := by decide +kernel
