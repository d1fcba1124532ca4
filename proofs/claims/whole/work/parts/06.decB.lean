/-! decode rows: printed by gen.py -/
theorem ed_0_0 : decode (ex_cod 0) 0 = .ok (.aload_n 0, 1) := by decide +kernel
theorem ed_0_1 : decode (ex_cod 0) 1 = .ok (.invokespecial 3, 3) := by decide +kernel
theorem ed_0_4 : decode (ex_cod 0) 4 = .ok (.aload_n 0, 1) := by decide +kernel
theorem ed_0_5 : decode (ex_cod 0) 5 = .ok (.bipush 16, 2) := by decide +kernel
theorem ed_0_7 : decode (ex_cod 0) 7 = .ok (.newarray .int, 2) := by decide +kernel
theorem ed_0_9 : decode (ex_cod 0) 9 = .ok (.putfield 9, 3) := by decide +kernel
theorem ed_0_12 : decode (ex_cod 0) 12 = .ok (.return_, 1) := by decide +kernel
theorem ed_1_0 : decode (ex_cod 1) 0 = .ok (.aload_n 0, 1) := by decide +kernel
theorem ed_1_1 : decode (ex_cod 1) 1 = .ok (.getfield 15, 3) := by decide +kernel
theorem ed_1_4 : decode (ex_cod 1) 4 = .ok (.ireturn, 1) := by decide +kernel
theorem ed_2_0 : decode (ex_cod 2) 0 = .ok (.iload_n 1, 1) := by decide +kernel
theorem ed_2_1 : decode (ex_cod 2) 1 = .ok (.ifCond .lt 20, 3) := by decide +kernel
theorem ed_2_4 : decode (ex_cod 2) 4 = .ok (.iload_n 1, 1) := by decide +kernel
theorem ed_2_5 : decode (ex_cod 2) 5 = .ok (.aload_n 0, 1) := by decide +kernel
theorem ed_2_6 : decode (ex_cod 2) 6 = .ok (.getfield 15, 3) := by decide +kernel
theorem ed_2_9 : decode (ex_cod 2) 9 = .ok (.if_icmp .ge 12, 3) := by decide +kernel
theorem ed_2_12 : decode (ex_cod 2) 12 = .ok (.aload_n 0, 1) := by decide +kernel
theorem ed_2_13 : decode (ex_cod 2) 13 = .ok (.getfield 9, 3) := by decide +kernel
theorem ed_2_16 : decode (ex_cod 2) 16 = .ok (.iload_n 1, 1) := by decide +kernel
theorem ed_2_17 : decode (ex_cod 2) 17 = .ok (.iaload, 1) := by decide +kernel
theorem ed_2_18 : decode (ex_cod 2) 18 = .ok (.goto 4, 3) := by decide +kernel
theorem ed_2_21 : decode (ex_cod 2) 21 = .ok (.iconst (-1), 1) := by decide +kernel
theorem ed_2_22 : decode (ex_cod 2) 22 = .ok (.ireturn, 1) := by decide +kernel
theorem ed_3_0 : decode (ex_cod 3) 0 = .ok (.iconst 0, 1) := by decide +kernel
theorem ed_3_1 : decode (ex_cod 3) 1 = .ok (.istore_n 2, 1) := by decide +kernel
theorem ed_3_2 : decode (ex_cod 3) 2 = .ok (.iload_n 2, 1) := by decide +kernel
theorem ed_3_3 : decode (ex_cod 3) 3 = .ok (.aload_n 0, 1) := by decide +kernel
theorem ed_3_4 : decode (ex_cod 3) 4 = .ok (.getfield 15, 3) := by decide +kernel
theorem ed_3_7 : decode (ex_cod 3) 7 = .ok (.if_icmp .ge 21, 3) := by decide +kernel
theorem ed_3_10 : decode (ex_cod 3) 10 = .ok (.aload_n 0, 1) := by decide +kernel
theorem ed_3_11 : decode (ex_cod 3) 11 = .ok (.getfield 9, 3) := by decide +kernel
theorem ed_3_14 : decode (ex_cod 3) 14 = .ok (.iload_n 2, 1) := by decide +kernel
theorem ed_3_15 : decode (ex_cod 3) 15 = .ok (.iaload, 1) := by decide +kernel
theorem ed_3_16 : decode (ex_cod 3) 16 = .ok (.iload_n 1, 1) := by decide +kernel
theorem ed_3_17 : decode (ex_cod 3) 17 = .ok (.if_icmp .ne 5, 3) := by decide +kernel
theorem ed_3_20 : decode (ex_cod 3) 20 = .ok (.iconst 1, 1) := by decide +kernel
theorem ed_3_21 : decode (ex_cod 3) 21 = .ok (.ireturn, 1) := by decide +kernel
theorem ed_3_22 : decode (ex_cod 3) 22 = .ok (.iinc 2 1, 3) := by decide +kernel
theorem ed_3_25 : decode (ex_cod 3) 25 = .ok (.goto (-23), 3) := by decide +kernel
theorem ed_3_28 : decode (ex_cod 3) 28 = .ok (.iconst 0, 1) := by decide +kernel
theorem ed_3_29 : decode (ex_cod 3) 29 = .ok (.ireturn, 1) := by decide +kernel
theorem ed_4_0 : decode (ex_cod 4) 0 = .ok (.aload_n 0, 1) := by decide +kernel
theorem ed_4_1 : decode (ex_cod 4) 1 = .ok (.getfield 15, 3) := by decide +kernel
theorem ed_4_4 : decode (ex_cod 4) 4 = .ok (.bipush 16, 2) := by decide +kernel
theorem ed_4_6 : decode (ex_cod 4) 6 = .ok (.if_icmp .ge 23, 3) := by decide +kernel
theorem ed_4_9 : decode (ex_cod 4) 9 = .ok (.aload_n 0, 1) := by decide +kernel
theorem ed_4_10 : decode (ex_cod 4) 10 = .ok (.getfield 9, 3) := by decide +kernel
theorem ed_4_13 : decode (ex_cod 4) 13 = .ok (.aload_n 0, 1) := by decide +kernel
theorem ed_4_14 : decode (ex_cod 4) 14 = .ok (.getfield 15, 3) := by decide +kernel
theorem ed_4_17 : decode (ex_cod 4) 17 = .ok (.iload_n 1, 1) := by decide +kernel
theorem ed_4_18 : decode (ex_cod 4) 18 = .ok (.iastore, 1) := by decide +kernel
theorem ed_4_19 : decode (ex_cod 4) 19 = .ok (.aload_n 0, 1) := by decide +kernel
theorem ed_4_20 : decode (ex_cod 4) 20 = .ok (.dup, 1) := by decide +kernel
theorem ed_4_21 : decode (ex_cod 4) 21 = .ok (.getfield 15, 3) := by decide +kernel
theorem ed_4_24 : decode (ex_cod 4) 24 = .ok (.iconst 1, 1) := by decide +kernel
theorem ed_4_25 : decode (ex_cod 4) 25 = .ok (.iadd, 1) := by decide +kernel
theorem ed_4_26 : decode (ex_cod 4) 26 = .ok (.putfield 15, 3) := by decide +kernel
theorem ed_4_29 : decode (ex_cod 4) 29 = .ok (.return_, 1) := by decide +kernel
theorem ed_5_0 : decode (ex_cod 5) 0 = .ok (.iconst 0, 1) := by decide +kernel
theorem ed_5_1 : decode (ex_cod 5) 1 = .ok (.istore_n 2, 1) := by decide +kernel
theorem ed_5_2 : decode (ex_cod 5) 2 = .ok (.iconst 0, 1) := by decide +kernel
theorem ed_5_3 : decode (ex_cod 5) 3 = .ok (.istore_n 3, 1) := by decide +kernel
theorem ed_5_4 : decode (ex_cod 5) 4 = .ok (.iload_n 3, 1) := by decide +kernel
theorem ed_5_5 : decode (ex_cod 5) 5 = .ok (.aload_n 0, 1) := by decide +kernel
theorem ed_5_6 : decode (ex_cod 5) 6 = .ok (.getfield 15, 3) := by decide +kernel
theorem ed_5_9 : decode (ex_cod 5) 9 = .ok (.if_icmp .ge 34, 3) := by decide +kernel
theorem ed_5_12 : decode (ex_cod 5) 12 = .ok (.aload_n 0, 1) := by decide +kernel
theorem ed_5_13 : decode (ex_cod 5) 13 = .ok (.getfield 9, 3) := by decide +kernel
theorem ed_5_16 : decode (ex_cod 5) 16 = .ok (.iload_n 3, 1) := by decide +kernel
theorem ed_5_17 : decode (ex_cod 5) 17 = .ok (.iaload, 1) := by decide +kernel
theorem ed_5_18 : decode (ex_cod 5) 18 = .ok (.iload_n 1, 1) := by decide +kernel
theorem ed_5_19 : decode (ex_cod 5) 19 = .ok (.if_icmp .eq 18, 3) := by decide +kernel
theorem ed_5_22 : decode (ex_cod 5) 22 = .ok (.aload_n 0, 1) := by decide +kernel
theorem ed_5_23 : decode (ex_cod 5) 23 = .ok (.getfield 9, 3) := by decide +kernel
theorem ed_5_26 : decode (ex_cod 5) 26 = .ok (.iload_n 2, 1) := by decide +kernel
theorem ed_5_27 : decode (ex_cod 5) 27 = .ok (.aload_n 0, 1) := by decide +kernel
theorem ed_5_28 : decode (ex_cod 5) 28 = .ok (.getfield 9, 3) := by decide +kernel
theorem ed_5_31 : decode (ex_cod 5) 31 = .ok (.iload_n 3, 1) := by decide +kernel
theorem ed_5_32 : decode (ex_cod 5) 32 = .ok (.iaload, 1) := by decide +kernel
theorem ed_5_33 : decode (ex_cod 5) 33 = .ok (.iastore, 1) := by decide +kernel
theorem ed_5_34 : decode (ex_cod 5) 34 = .ok (.iinc 2 1, 3) := by decide +kernel
theorem ed_5_37 : decode (ex_cod 5) 37 = .ok (.iinc 3 1, 3) := by decide +kernel
theorem ed_5_40 : decode (ex_cod 5) 40 = .ok (.goto (-36), 3) := by decide +kernel
theorem ed_5_43 : decode (ex_cod 5) 43 = .ok (.aload_n 0, 1) := by decide +kernel
theorem ed_5_44 : decode (ex_cod 5) 44 = .ok (.iload_n 2, 1) := by decide +kernel
theorem ed_5_45 : decode (ex_cod 5) 45 = .ok (.putfield 15, 3) := by decide +kernel
theorem ed_5_48 : decode (ex_cod 5) 48 = .ok (.return_, 1) := by decide +kernel
theorem ed_6_0 : decode (ex_cod 6) 0 = .ok (.aload_n 0, 1) := by decide +kernel
theorem ed_6_1 : decode (ex_cod 6) 1 = .ok (.iconst 0, 1) := by decide +kernel
theorem ed_6_2 : decode (ex_cod 6) 2 = .ok (.putfield 15, 3) := by decide +kernel
theorem ed_6_5 : decode (ex_cod 6) 5 = .ok (.return_, 1) := by decide +kernel
theorem ed_7_0 : decode (ex_cod 7) 0 = .ok (.aload_n 0, 1) := by decide +kernel
theorem ed_7_1 : decode (ex_cod 7) 1 = .ok (.invokespecial 3, 3) := by decide +kernel
theorem ed_7_4 : decode (ex_cod 7) 4 = .ok (.aload_n 0, 1) := by decide +kernel
theorem ed_7_5 : decode (ex_cod 7) 5 = .ok (.iload_n 1, 1) := by decide +kernel
theorem ed_7_6 : decode (ex_cod 7) 6 = .ok (.newarray .int, 2) := by decide +kernel
theorem ed_7_8 : decode (ex_cod 7) 8 = .ok (.putfield 9, 3) := by decide +kernel
theorem ed_7_11 : decode (ex_cod 7) 11 = .ok (.aload_n 0, 1) := by decide +kernel
theorem ed_7_12 : decode (ex_cod 7) 12 = .ok (.iload_n 1, 1) := by decide +kernel
theorem ed_7_13 : decode (ex_cod 7) 13 = .ok (.newarray .int, 2) := by decide +kernel
theorem ed_7_15 : decode (ex_cod 7) 15 = .ok (.putfield 15, 3) := by decide +kernel
theorem ed_7_18 : decode (ex_cod 7) 18 = .ok (.iconst 0, 1) := by decide +kernel
theorem ed_7_19 : decode (ex_cod 7) 19 = .ok (.istore_n 2, 1) := by decide +kernel
theorem ed_7_20 : decode (ex_cod 7) 20 = .ok (.iload_n 2, 1) := by decide +kernel
theorem ed_7_21 : decode (ex_cod 7) 21 = .ok (.iload_n 1, 1) := by decide +kernel
theorem ed_7_22 : decode (ex_cod 7) 22 = .ok (.if_icmp .ge 23, 3) := by decide +kernel
theorem ed_7_25 : decode (ex_cod 7) 25 = .ok (.aload_n 0, 1) := by decide +kernel
theorem ed_7_26 : decode (ex_cod 7) 26 = .ok (.getfield 9, 3) := by decide +kernel
theorem ed_7_29 : decode (ex_cod 7) 29 = .ok (.iload_n 2, 1) := by decide +kernel
theorem ed_7_30 : decode (ex_cod 7) 30 = .ok (.iconst (-1), 1) := by decide +kernel
theorem ed_7_31 : decode (ex_cod 7) 31 = .ok (.iastore, 1) := by decide +kernel
theorem ed_7_32 : decode (ex_cod 7) 32 = .ok (.aload_n 0, 1) := by decide +kernel
theorem ed_7_33 : decode (ex_cod 7) 33 = .ok (.getfield 15, 3) := by decide +kernel
theorem ed_7_36 : decode (ex_cod 7) 36 = .ok (.iload_n 2, 1) := by decide +kernel
theorem ed_7_37 : decode (ex_cod 7) 37 = .ok (.iconst (-1), 1) := by decide +kernel
theorem ed_7_38 : decode (ex_cod 7) 38 = .ok (.iastore, 1) := by decide +kernel
theorem ed_7_39 : decode (ex_cod 7) 39 = .ok (.iinc 2 1, 3) := by decide +kernel
theorem ed_7_42 : decode (ex_cod 7) 42 = .ok (.goto (-22), 3) := by decide +kernel
theorem ed_7_45 : decode (ex_cod 7) 45 = .ok (.return_, 1) := by decide +kernel
theorem ed_8_0 : decode (ex_cod 8) 0 = .ok (.aload_n 0, 1) := by decide +kernel
theorem ed_8_1 : decode (ex_cod 8) 1 = .ok (.getfield 9, 3) := by decide +kernel
theorem ed_8_4 : decode (ex_cod 8) 4 = .ok (.iload_n 1, 1) := by decide +kernel
theorem ed_8_5 : decode (ex_cod 8) 5 = .ok (.iconst (-1), 1) := by decide +kernel
theorem ed_8_6 : decode (ex_cod 8) 6 = .ok (.iastore, 1) := by decide +kernel
theorem ed_8_7 : decode (ex_cod 8) 7 = .ok (.aload_n 0, 1) := by decide +kernel
theorem ed_8_8 : decode (ex_cod 8) 8 = .ok (.getfield 15, 3) := by decide +kernel
theorem ed_8_11 : decode (ex_cod 8) 11 = .ok (.iload_n 1, 1) := by decide +kernel
theorem ed_8_12 : decode (ex_cod 8) 12 = .ok (.iconst (-1), 1) := by decide +kernel
theorem ed_8_13 : decode (ex_cod 8) 13 = .ok (.iastore, 1) := by decide +kernel
theorem ed_8_14 : decode (ex_cod 8) 14 = .ok (.return_, 1) := by decide +kernel
theorem ed_9_0 : decode (ex_cod 9) 0 = .ok (.iconst 0, 1) := by decide +kernel
theorem ed_9_1 : decode (ex_cod 9) 1 = .ok (.istore_n 1, 1) := by decide +kernel
theorem ed_9_2 : decode (ex_cod 9) 2 = .ok (.iload_n 1, 1) := by decide +kernel
theorem ed_9_3 : decode (ex_cod 9) 3 = .ok (.aload_n 0, 1) := by decide +kernel
theorem ed_9_4 : decode (ex_cod 9) 4 = .ok (.getfield 9, 3) := by decide +kernel
theorem ed_9_7 : decode (ex_cod 9) 7 = .ok (.arraylength, 1) := by decide +kernel
theorem ed_9_8 : decode (ex_cod 9) 8 = .ok (.if_icmp .ge 14, 3) := by decide +kernel
theorem ed_9_11 : decode (ex_cod 9) 11 = .ok (.aload_n 0, 1) := by decide +kernel
theorem ed_9_12 : decode (ex_cod 9) 12 = .ok (.iload_n 1, 1) := by decide +kernel
theorem ed_9_13 : decode (ex_cod 9) 13 = .ok (.invokevirtual 18, 3) := by decide +kernel
theorem ed_9_16 : decode (ex_cod 9) 16 = .ok (.iinc 1 1, 3) := by decide +kernel
theorem ed_9_19 : decode (ex_cod 9) 19 = .ok (.goto (-17), 3) := by decide +kernel
theorem ed_9_22 : decode (ex_cod 9) 22 = .ok (.return_, 1) := by decide +kernel
theorem ed_10_0 : decode (ex_cod 10) 0 = .ok (.iconst 0, 1) := by decide +kernel
theorem ed_10_1 : decode (ex_cod 10) 1 = .ok (.istore_n 2, 1) := by decide +kernel
theorem ed_10_2 : decode (ex_cod 10) 2 = .ok (.iload_n 2, 1) := by decide +kernel
theorem ed_10_3 : decode (ex_cod 10) 3 = .ok (.aload_n 0, 1) := by decide +kernel
theorem ed_10_4 : decode (ex_cod 10) 4 = .ok (.getfield 9, 3) := by decide +kernel
theorem ed_10_7 : decode (ex_cod 10) 7 = .ok (.arraylength, 1) := by decide +kernel
theorem ed_10_8 : decode (ex_cod 10) 8 = .ok (.if_icmp .ge 33, 3) := by decide +kernel
theorem ed_10_11 : decode (ex_cod 10) 11 = .ok (.aload_n 0, 1) := by decide +kernel
theorem ed_10_12 : decode (ex_cod 10) 12 = .ok (.getfield 9, 3) := by decide +kernel
theorem ed_10_15 : decode (ex_cod 10) 15 = .ok (.iload_n 2, 1) := by decide +kernel
theorem ed_10_16 : decode (ex_cod 10) 16 = .ok (.aload_n 1, 1) := by decide +kernel
theorem ed_10_17 : decode (ex_cod 10) 17 = .ok (.getfield 9, 3) := by decide +kernel
theorem ed_10_20 : decode (ex_cod 10) 20 = .ok (.iload_n 2, 1) := by decide +kernel
theorem ed_10_21 : decode (ex_cod 10) 21 = .ok (.iaload, 1) := by decide +kernel
theorem ed_10_22 : decode (ex_cod 10) 22 = .ok (.iastore, 1) := by decide +kernel
theorem ed_10_23 : decode (ex_cod 10) 23 = .ok (.aload_n 0, 1) := by decide +kernel
theorem ed_10_24 : decode (ex_cod 10) 24 = .ok (.getfield 15, 3) := by decide +kernel
theorem ed_10_27 : decode (ex_cod 10) 27 = .ok (.iload_n 2, 1) := by decide +kernel
theorem ed_10_28 : decode (ex_cod 10) 28 = .ok (.aload_n 1, 1) := by decide +kernel
theorem ed_10_29 : decode (ex_cod 10) 29 = .ok (.getfield 15, 3) := by decide +kernel
theorem ed_10_32 : decode (ex_cod 10) 32 = .ok (.iload_n 2, 1) := by decide +kernel
theorem ed_10_33 : decode (ex_cod 10) 33 = .ok (.iaload, 1) := by decide +kernel
theorem ed_10_34 : decode (ex_cod 10) 34 = .ok (.iastore, 1) := by decide +kernel
theorem ed_10_35 : decode (ex_cod 10) 35 = .ok (.iinc 2 1, 3) := by decide +kernel
theorem ed_10_38 : decode (ex_cod 10) 38 = .ok (.goto (-36), 3) := by decide +kernel
theorem ed_10_41 : decode (ex_cod 10) 41 = .ok (.return_, 1) := by decide +kernel
theorem ed_11_0 : decode (ex_cod 11) 0 = .ok (.iload_n 1, 1) := by decide +kernel
theorem ed_11_1 : decode (ex_cod 11) 1 = .ok (.iconst (-1), 1) := by decide +kernel
theorem ed_11_2 : decode (ex_cod 11) 2 = .ok (.if_icmp .ne 5, 3) := by decide +kernel
theorem ed_11_5 : decode (ex_cod 11) 5 = .ok (.iconst (-1), 1) := by decide +kernel
theorem ed_11_6 : decode (ex_cod 11) 6 = .ok (.ireturn, 1) := by decide +kernel
theorem ed_11_7 : decode (ex_cod 11) 7 = .ok (.iconst 0, 1) := by decide +kernel
theorem ed_11_8 : decode (ex_cod 11) 8 = .ok (.istore_n 2, 1) := by decide +kernel
theorem ed_11_9 : decode (ex_cod 11) 9 = .ok (.iload_n 2, 1) := by decide +kernel
theorem ed_11_10 : decode (ex_cod 11) 10 = .ok (.aload_n 0, 1) := by decide +kernel
theorem ed_11_11 : decode (ex_cod 11) 11 = .ok (.getfield 9, 3) := by decide +kernel
theorem ed_11_14 : decode (ex_cod 11) 14 = .ok (.arraylength, 1) := by decide +kernel
theorem ed_11_15 : decode (ex_cod 11) 15 = .ok (.if_icmp .ge 21, 3) := by decide +kernel
theorem ed_11_18 : decode (ex_cod 11) 18 = .ok (.aload_n 0, 1) := by decide +kernel
theorem ed_11_19 : decode (ex_cod 11) 19 = .ok (.getfield 9, 3) := by decide +kernel
theorem ed_11_22 : decode (ex_cod 11) 22 = .ok (.iload_n 2, 1) := by decide +kernel
theorem ed_11_23 : decode (ex_cod 11) 23 = .ok (.iaload, 1) := by decide +kernel
theorem ed_11_24 : decode (ex_cod 11) 24 = .ok (.iload_n 1, 1) := by decide +kernel
theorem ed_11_25 : decode (ex_cod 11) 25 = .ok (.if_icmp .ne 5, 3) := by decide +kernel
theorem ed_11_28 : decode (ex_cod 11) 28 = .ok (.iload_n 2, 1) := by decide +kernel
theorem ed_11_29 : decode (ex_cod 11) 29 = .ok (.ireturn, 1) := by decide +kernel
theorem ed_11_30 : decode (ex_cod 11) 30 = .ok (.iinc 2 1, 3) := by decide +kernel
theorem ed_11_33 : decode (ex_cod 11) 33 = .ok (.goto (-24), 3) := by decide +kernel
theorem ed_11_36 : decode (ex_cod 11) 36 = .ok (.iconst (-1), 1) := by decide +kernel
theorem ed_11_37 : decode (ex_cod 11) 37 = .ok (.ireturn, 1) := by decide +kernel
theorem ed_12_0 : decode (ex_cod 12) 0 = .ok (.iconst 0, 1) := by decide +kernel
theorem ed_12_1 : decode (ex_cod 12) 1 = .ok (.istore_n 1, 1) := by decide +kernel
theorem ed_12_2 : decode (ex_cod 12) 2 = .ok (.iconst 0, 1) := by decide +kernel
theorem ed_12_3 : decode (ex_cod 12) 3 = .ok (.istore_n 2, 1) := by decide +kernel
theorem ed_12_4 : decode (ex_cod 12) 4 = .ok (.iload_n 2, 1) := by decide +kernel
theorem ed_12_5 : decode (ex_cod 12) 5 = .ok (.aload_n 0, 1) := by decide +kernel
theorem ed_12_6 : decode (ex_cod 12) 6 = .ok (.getfield 9, 3) := by decide +kernel
theorem ed_12_9 : decode (ex_cod 12) 9 = .ok (.arraylength, 1) := by decide +kernel
theorem ed_12_10 : decode (ex_cod 12) 10 = .ok (.if_icmp .ge 22, 3) := by decide +kernel
theorem ed_12_13 : decode (ex_cod 12) 13 = .ok (.aload_n 0, 1) := by decide +kernel
theorem ed_12_14 : decode (ex_cod 12) 14 = .ok (.getfield 15, 3) := by decide +kernel
theorem ed_12_17 : decode (ex_cod 12) 17 = .ok (.iload_n 2, 1) := by decide +kernel
theorem ed_12_18 : decode (ex_cod 12) 18 = .ok (.iaload, 1) := by decide +kernel
theorem ed_12_19 : decode (ex_cod 12) 19 = .ok (.iconst (-1), 1) := by decide +kernel
theorem ed_12_20 : decode (ex_cod 12) 20 = .ok (.if_icmp .eq 6, 3) := by decide +kernel
theorem ed_12_23 : decode (ex_cod 12) 23 = .ok (.iinc 1 1, 3) := by decide +kernel
theorem ed_12_26 : decode (ex_cod 12) 26 = .ok (.iinc 2 1, 3) := by decide +kernel
theorem ed_12_29 : decode (ex_cod 12) 29 = .ok (.goto (-25), 3) := by decide +kernel
theorem ed_12_32 : decode (ex_cod 12) 32 = .ok (.iload_n 1, 1) := by decide +kernel
theorem ed_12_33 : decode (ex_cod 12) 33 = .ok (.ireturn, 1) := by decide +kernel
theorem ed_13_0 : decode (ex_cod 13) 0 = .ok (.iconst (-1), 1) := by decide +kernel
theorem ed_13_1 : decode (ex_cod 13) 1 = .ok (.istore_n 2, 1) := by decide +kernel
theorem ed_13_2 : decode (ex_cod 13) 2 = .ok (.iconst 0, 1) := by decide +kernel
theorem ed_13_3 : decode (ex_cod 13) 3 = .ok (.istore_n 3, 1) := by decide +kernel
theorem ed_13_4 : decode (ex_cod 13) 4 = .ok (.iload_n 3, 1) := by decide +kernel
theorem ed_13_5 : decode (ex_cod 13) 5 = .ok (.aload_n 0, 1) := by decide +kernel
theorem ed_13_6 : decode (ex_cod 13) 6 = .ok (.getfield 9, 3) := by decide +kernel
theorem ed_13_9 : decode (ex_cod 13) 9 = .ok (.arraylength, 1) := by decide +kernel
theorem ed_13_10 : decode (ex_cod 13) 10 = .ok (.if_icmp .ge 84, 3) := by decide +kernel
theorem ed_13_13 : decode (ex_cod 13) 13 = .ok (.aload_n 0, 1) := by decide +kernel
theorem ed_13_14 : decode (ex_cod 13) 14 = .ok (.getfield 15, 3) := by decide +kernel
theorem ed_13_17 : decode (ex_cod 13) 17 = .ok (.iload_n 3, 1) := by decide +kernel
theorem ed_13_18 : decode (ex_cod 13) 18 = .ok (.iaload, 1) := by decide +kernel
theorem ed_13_19 : decode (ex_cod 13) 19 = .ok (.iconst (-1), 1) := by decide +kernel
theorem ed_13_20 : decode (ex_cod 13) 20 = .ok (.if_icmp .eq 68, 3) := by decide +kernel
theorem ed_13_23 : decode (ex_cod 13) 23 = .ok (.aload_n 0, 1) := by decide +kernel
theorem ed_13_24 : decode (ex_cod 13) 24 = .ok (.getfield 15, 3) := by decide +kernel
theorem ed_13_27 : decode (ex_cod 13) 27 = .ok (.iload_n 3, 1) := by decide +kernel
theorem ed_13_28 : decode (ex_cod 13) 28 = .ok (.iaload, 1) := by decide +kernel
theorem ed_13_29 : decode (ex_cod 13) 29 = .ok (.iload_n 1, 1) := by decide +kernel
theorem ed_13_30 : decode (ex_cod 13) 30 = .ok (.if_icmp .le 6, 3) := by decide +kernel
theorem ed_13_33 : decode (ex_cod 13) 33 = .ok (.goto 55, 3) := by decide +kernel
theorem ed_13_36 : decode (ex_cod 13) 36 = .ok (.iload_n 2, 1) := by decide +kernel
theorem ed_13_37 : decode (ex_cod 13) 37 = .ok (.iconst (-1), 1) := by decide +kernel
theorem ed_13_38 : decode (ex_cod 13) 38 = .ok (.if_icmp .eq 48, 3) := by decide +kernel
theorem ed_13_41 : decode (ex_cod 13) 41 = .ok (.aload_n 0, 1) := by decide +kernel
theorem ed_13_42 : decode (ex_cod 13) 42 = .ok (.getfield 15, 3) := by decide +kernel
theorem ed_13_45 : decode (ex_cod 13) 45 = .ok (.iload_n 3, 1) := by decide +kernel
theorem ed_13_46 : decode (ex_cod 13) 46 = .ok (.iaload, 1) := by decide +kernel
theorem ed_13_47 : decode (ex_cod 13) 47 = .ok (.aload_n 0, 1) := by decide +kernel
theorem ed_13_48 : decode (ex_cod 13) 48 = .ok (.getfield 15, 3) := by decide +kernel
theorem ed_13_51 : decode (ex_cod 13) 51 = .ok (.iload_n 2, 1) := by decide +kernel
theorem ed_13_52 : decode (ex_cod 13) 52 = .ok (.iaload, 1) := by decide +kernel
theorem ed_13_53 : decode (ex_cod 13) 53 = .ok (.if_icmp .lt 33, 3) := by decide +kernel
theorem ed_13_56 : decode (ex_cod 13) 56 = .ok (.aload_n 0, 1) := by decide +kernel
theorem ed_13_57 : decode (ex_cod 13) 57 = .ok (.getfield 15, 3) := by decide +kernel
theorem ed_13_60 : decode (ex_cod 13) 60 = .ok (.iload_n 3, 1) := by decide +kernel
theorem ed_13_61 : decode (ex_cod 13) 61 = .ok (.iaload, 1) := by decide +kernel
theorem ed_13_62 : decode (ex_cod 13) 62 = .ok (.aload_n 0, 1) := by decide +kernel
theorem ed_13_63 : decode (ex_cod 13) 63 = .ok (.getfield 15, 3) := by decide +kernel
theorem ed_13_66 : decode (ex_cod 13) 66 = .ok (.iload_n 2, 1) := by decide +kernel
theorem ed_13_67 : decode (ex_cod 13) 67 = .ok (.iaload, 1) := by decide +kernel
theorem ed_13_68 : decode (ex_cod 13) 68 = .ok (.if_icmp .ne 20, 3) := by decide +kernel
theorem ed_13_71 : decode (ex_cod 13) 71 = .ok (.aload_n 0, 1) := by decide +kernel
theorem ed_13_72 : decode (ex_cod 13) 72 = .ok (.getfield 9, 3) := by decide +kernel
theorem ed_13_75 : decode (ex_cod 13) 75 = .ok (.iload_n 3, 1) := by decide +kernel
theorem ed_13_76 : decode (ex_cod 13) 76 = .ok (.iaload, 1) := by decide +kernel
theorem ed_13_77 : decode (ex_cod 13) 77 = .ok (.aload_n 0, 1) := by decide +kernel
theorem ed_13_78 : decode (ex_cod 13) 78 = .ok (.getfield 9, 3) := by decide +kernel
theorem ed_13_81 : decode (ex_cod 13) 81 = .ok (.iload_n 2, 1) := by decide +kernel
theorem ed_13_82 : decode (ex_cod 13) 82 = .ok (.iaload, 1) := by decide +kernel
theorem ed_13_83 : decode (ex_cod 13) 83 = .ok (.if_icmp .ge 5, 3) := by decide +kernel
theorem ed_13_86 : decode (ex_cod 13) 86 = .ok (.iload_n 3, 1) := by decide +kernel
theorem ed_13_87 : decode (ex_cod 13) 87 = .ok (.istore_n 2, 1) := by decide +kernel
theorem ed_13_88 : decode (ex_cod 13) 88 = .ok (.iinc 3 1, 3) := by decide +kernel
theorem ed_13_91 : decode (ex_cod 13) 91 = .ok (.goto (-87), 3) := by decide +kernel
theorem ed_13_94 : decode (ex_cod 13) 94 = .ok (.iload_n 2, 1) := by decide +kernel
theorem ed_13_95 : decode (ex_cod 13) 95 = .ok (.ireturn, 1) := by decide +kernel
