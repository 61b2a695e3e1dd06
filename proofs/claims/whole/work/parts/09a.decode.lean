/-! printed: each instruction -/
theorem d0_0 : decode (am_bytes 0) 0 = .ok (.aload_n 0, 1) := by decide +kernel
theorem d0_1 : decode (am_bytes 0) 1 = .ok (.iload_n 1, 1) := by decide +kernel
theorem d0_2 : decode (am_bytes 0) 2 = .ok (.invokevirtual 50, 3) := by decide +kernel
theorem d0_5 : decode (am_bytes 0) 5 = .ok (.aload_n 0, 1) := by decide +kernel
theorem d0_6 : decode (am_bytes 0) 6 = .ok (.iload_n 1, 1) := by decide +kernel
theorem d0_7 : decode (am_bytes 0) 7 = .ok (.iload_n 2, 1) := by decide +kernel
theorem d0_8 : decode (am_bytes 0) 8 = .ok (.invokevirtual 54, 3) := by decide +kernel
theorem d0_11 : decode (am_bytes 0) 11 = .ok (.aload_n 0, 1) := by decide +kernel
theorem d0_12 : decode (am_bytes 0) 12 = .ok (.getfield 12, 3) := by decide +kernel
theorem d0_15 : decode (am_bytes 0) 15 = .ok (.getfield 58, 3) := by decide +kernel
theorem d0_18 : decode (am_bytes 0) 18 = .ok (.bipush 6, 2) := by decide +kernel
theorem d0_20 : decode (am_bytes 0) 20 = .ok (.if_icmp .ne 13, 3) := by decide +kernel
theorem d0_23 : decode (am_bytes 0) 23 = .ok (.new 61, 3) := by decide +kernel
theorem d0_26 : decode (am_bytes 0) 26 = .ok (.dup, 1) := by decide +kernel
theorem d0_33 : decode (am_bytes 0) 33 = .ok (.aload_n 0, 1) := by decide +kernel
theorem d0_34 : decode (am_bytes 0) 34 = .ok (.getfield 12, 3) := by decide +kernel
theorem d0_37 : decode (am_bytes 0) 37 = .ok (.iload_n 1, 1) := by decide +kernel
theorem d0_38 : decode (am_bytes 0) 38 = .ok (.iload_n 2, 1) := by decide +kernel
theorem d0_39 : decode (am_bytes 0) 39 = .ok (.invokevirtual 68, 3) := by decide +kernel
theorem d0_42 : decode (am_bytes 0) 42 = .ok (.ireturn, 1) := by decide +kernel
theorem d1_0 : decode (am_bytes 1) 0 = .ok (.aload_n 0, 1) := by decide +kernel
theorem d1_1 : decode (am_bytes 1) 1 = .ok (.iload_n 1, 1) := by decide +kernel
theorem d1_2 : decode (am_bytes 1) 2 = .ok (.invokevirtual 50, 3) := by decide +kernel
theorem d1_5 : decode (am_bytes 1) 5 = .ok (.aload_n 0, 1) := by decide +kernel
theorem d1_6 : decode (am_bytes 1) 6 = .ok (.iload_n 1, 1) := by decide +kernel
theorem d1_7 : decode (am_bytes 1) 7 = .ok (.invokevirtual 72, 3) := by decide +kernel
theorem d1_10 : decode (am_bytes 1) 10 = .ok (.aload_n 0, 1) := by decide +kernel
theorem d1_11 : decode (am_bytes 1) 11 = .ok (.getfield 12, 3) := by decide +kernel
theorem d1_14 : decode (am_bytes 1) 14 = .ok (.invokevirtual 75, 3) := by decide +kernel
theorem d1_17 : decode (am_bytes 1) 17 = .ok (.iconst 1, 1) := by decide +kernel
theorem d1_18 : decode (am_bytes 1) 18 = .ok (.if_icmp .ne 13, 3) := by decide +kernel
theorem d1_21 : decode (am_bytes 1) 21 = .ok (.new 61, 3) := by decide +kernel
theorem d1_24 : decode (am_bytes 1) 24 = .ok (.dup, 1) := by decide +kernel
theorem d1_31 : decode (am_bytes 1) 31 = .ok (.aload_n 0, 1) := by decide +kernel
theorem d1_32 : decode (am_bytes 1) 32 = .ok (.getfield 12, 3) := by decide +kernel
theorem d1_35 : decode (am_bytes 1) 35 = .ok (.getfield 81, 3) := by decide +kernel
theorem d1_38 : decode (am_bytes 1) 38 = .ok (.iload_n 1, 1) := by decide +kernel
theorem d1_39 : decode (am_bytes 1) 39 = .ok (.iconst 0, 1) := by decide +kernel
theorem d1_40 : decode (am_bytes 1) 40 = .ok (.bastore, 1) := by decide +kernel
theorem d1_41 : decode (am_bytes 1) 41 = .ok (.return_, 1) := by decide +kernel
theorem d2_0 : decode (am_bytes 2) 0 = .ok (.aload_n 0, 1) := by decide +kernel
theorem d2_1 : decode (am_bytes 2) 1 = .ok (.iload_n 1, 1) := by decide +kernel
theorem d2_2 : decode (am_bytes 2) 2 = .ok (.invokevirtual 50, 3) := by decide +kernel
theorem d2_5 : decode (am_bytes 2) 5 = .ok (.iload_n 2, 1) := by decide +kernel
theorem d2_6 : decode (am_bytes 2) 6 = .ok (.invokestatic 85, 3) := by decide +kernel
theorem d2_9 : decode (am_bytes 2) 9 = .ok (.iload_n 3, 1) := by decide +kernel
theorem d2_10 : decode (am_bytes 2) 10 = .ok (.invokestatic 88, 3) := by decide +kernel
theorem d2_13 : decode (am_bytes 2) 13 = .ok (.iload 4, 2) := by decide +kernel
theorem d2_15 : decode (am_bytes 2) 15 = .ok (.iload 5, 2) := by decide +kernel
theorem d2_17 : decode (am_bytes 2) 17 = .ok (.invokestatic 91, 3) := by decide +kernel
theorem d2_20 : decode (am_bytes 2) 20 = .ok (.ifCond .ne 13, 3) := by decide +kernel
theorem d2_23 : decode (am_bytes 2) 23 = .ok (.new 95, 3) := by decide +kernel
theorem d2_26 : decode (am_bytes 2) 26 = .ok (.dup, 1) := by decide +kernel
theorem d2_33 : decode (am_bytes 2) 33 = .ok (.aload_n 0, 1) := by decide +kernel
theorem d2_34 : decode (am_bytes 2) 34 = .ok (.iload_n 1, 1) := by decide +kernel
theorem d2_35 : decode (am_bytes 2) 35 = .ok (.invokevirtual 72, 3) := by decide +kernel
theorem d2_38 : decode (am_bytes 2) 38 = .ok (.aload_n 0, 1) := by decide +kernel
theorem d2_39 : decode (am_bytes 2) 39 = .ok (.iconst 1, 1) := by decide +kernel
theorem d2_40 : decode (am_bytes 2) 40 = .ok (.invokevirtual 100, 3) := by decide +kernel
theorem d2_43 : decode (am_bytes 2) 43 = .ok (.aload_n 0, 1) := by decide +kernel
theorem d2_44 : decode (am_bytes 2) 44 = .ok (.iload_n 1, 1) := by decide +kernel
theorem d2_45 : decode (am_bytes 2) 45 = .ok (.iload_n 2, 1) := by decide +kernel
theorem d2_46 : decode (am_bytes 2) 46 = .ok (.iload_n 3, 1) := by decide +kernel
theorem d2_47 : decode (am_bytes 2) 47 = .ok (.invokestatic 103, 3) := by decide +kernel
theorem d2_50 : decode (am_bytes 2) 50 = .ok (.iload 4, 2) := by decide +kernel
theorem d2_52 : decode (am_bytes 2) 52 = .ok (.iload 4, 2) := by decide +kernel
theorem d2_54 : decode (am_bytes 2) 54 = .ok (.ifCond .ne 7, 3) := by decide +kernel
theorem d2_57 : decode (am_bytes 2) 57 = .ok (.iconst 0, 1) := by decide +kernel
theorem d2_58 : decode (am_bytes 2) 58 = .ok (.goto 5, 3) := by decide +kernel
theorem d2_61 : decode (am_bytes 2) 61 = .ok (.iload 5, 2) := by decide +kernel
theorem d2_63 : decode (am_bytes 2) 63 = .ok (.invokevirtual 106, 3) := by decide +kernel
theorem d2_66 : decode (am_bytes 2) 66 = .ok (.aload_n 0, 1) := by decide +kernel
theorem d2_67 : decode (am_bytes 2) 67 = .ok (.getfield 43, 3) := by decide +kernel
theorem d2_70 : decode (am_bytes 2) 70 = .ok (.ireturn, 1) := by decide +kernel
theorem d3_0 : decode (am_bytes 3) 0 = .ok (.aload_n 0, 1) := by decide +kernel
theorem d3_1 : decode (am_bytes 3) 1 = .ok (.iload_n 1, 1) := by decide +kernel
theorem d3_2 : decode (am_bytes 3) 2 = .ok (.invokevirtual 50, 3) := by decide +kernel
theorem d3_5 : decode (am_bytes 3) 5 = .ok (.iload_n 3, 1) := by decide +kernel
theorem d3_6 : decode (am_bytes 3) 6 = .ok (.invokestatic 85, 3) := by decide +kernel
theorem d3_9 : decode (am_bytes 3) 9 = .ok (.iload 4, 2) := by decide +kernel
theorem d3_11 : decode (am_bytes 3) 11 = .ok (.invokestatic 88, 3) := by decide +kernel
theorem d3_14 : decode (am_bytes 3) 14 = .ok (.aload_n 0, 1) := by decide +kernel
theorem d3_15 : decode (am_bytes 3) 15 = .ok (.iload_n 1, 1) := by decide +kernel
theorem d3_16 : decode (am_bytes 3) 16 = .ok (.iload_n 2, 1) := by decide +kernel
theorem d3_17 : decode (am_bytes 3) 17 = .ok (.invokevirtual 54, 3) := by decide +kernel
theorem d3_20 : decode (am_bytes 3) 20 = .ok (.iload 5, 2) := by decide +kernel
theorem d3_22 : decode (am_bytes 3) 22 = .ok (.iconst 2, 1) := by decide +kernel
theorem d3_23 : decode (am_bytes 3) 23 = .ok (.invokestatic 110, 3) := by decide +kernel
theorem d3_26 : decode (am_bytes 3) 26 = .ok (.aload_n 0, 1) := by decide +kernel
theorem d3_27 : decode (am_bytes 3) 27 = .ok (.aload_n 0, 1) := by decide +kernel
theorem d3_28 : decode (am_bytes 3) 28 = .ok (.getfield 26, 3) := by decide +kernel
theorem d3_31 : decode (am_bytes 3) 31 = .ok (.iload_n 1, 1) := by decide +kernel
theorem d3_32 : decode (am_bytes 3) 32 = .ok (.iload_n 2, 1) := by decide +kernel
theorem d3_33 : decode (am_bytes 3) 33 = .ok (.invokevirtual 113, 3) := by decide +kernel
theorem d3_36 : decode (am_bytes 3) 36 = .ok (.iload_n 3, 1) := by decide +kernel
theorem d3_37 : decode (am_bytes 3) 37 = .ok (.iload 4, 2) := by decide +kernel
theorem d3_39 : decode (am_bytes 3) 39 = .ok (.invokestatic 103, 3) := by decide +kernel
theorem d3_42 : decode (am_bytes 3) 42 = .ok (.istore 6, 2) := by decide +kernel
theorem d3_44 : decode (am_bytes 3) 44 = .ok (.iload 5, 2) := by decide +kernel
theorem d3_46 : decode (am_bytes 3) 46 = .ok (.ifCond .ne 14, 3) := by decide +kernel
theorem d3_49 : decode (am_bytes 3) 49 = .ok (.aload_n 0, 1) := by decide +kernel
theorem d3_50 : decode (am_bytes 3) 50 = .ok (.getfield 26, 3) := by decide +kernel
theorem d3_53 : decode (am_bytes 3) 53 = .ok (.getfield 117, 3) := by decide +kernel
theorem d3_56 : decode (am_bytes 3) 56 = .ok (.iload 6, 2) := by decide +kernel
theorem d3_58 : decode (am_bytes 3) 58 = .ok (.iaload, 1) := by decide +kernel
theorem d3_59 : decode (am_bytes 3) 59 = .ok (.ireturn, 1) := by decide +kernel
theorem d3_60 : decode (am_bytes 3) 60 = .ok (.iload 5, 2) := by decide +kernel
theorem d3_62 : decode (am_bytes 3) 62 = .ok (.iconst 1, 1) := by decide +kernel
theorem d3_63 : decode (am_bytes 3) 63 = .ok (.if_icmp .ne 16, 3) := by decide +kernel
theorem d3_66 : decode (am_bytes 3) 66 = .ok (.aload_n 0, 1) := by decide +kernel
theorem d3_67 : decode (am_bytes 3) 67 = .ok (.getfield 26, 3) := by decide +kernel
theorem d3_70 : decode (am_bytes 3) 70 = .ok (.getfield 121, 3) := by decide +kernel
theorem d3_73 : decode (am_bytes 3) 73 = .ok (.iload 6, 2) := by decide +kernel
theorem d3_75 : decode (am_bytes 3) 75 = .ok (.iaload, 1) := by decide +kernel
theorem d3_76 : decode (am_bytes 3) 76 = .ok (.goto 13, 3) := by decide +kernel
theorem d3_79 : decode (am_bytes 3) 79 = .ok (.aload_n 0, 1) := by decide +kernel
theorem d3_80 : decode (am_bytes 3) 80 = .ok (.getfield 26, 3) := by decide +kernel
theorem d3_83 : decode (am_bytes 3) 83 = .ok (.getfield 124, 3) := by decide +kernel
theorem d3_86 : decode (am_bytes 3) 86 = .ok (.iload 6, 2) := by decide +kernel
theorem d3_88 : decode (am_bytes 3) 88 = .ok (.iaload, 1) := by decide +kernel
theorem d3_89 : decode (am_bytes 3) 89 = .ok (.ireturn, 1) := by decide +kernel
theorem d4_0 : decode (am_bytes 4) 0 = .ok (.aload_n 0, 1) := by decide +kernel
theorem d4_1 : decode (am_bytes 4) 1 = .ok (.iload_n 1, 1) := by decide +kernel
theorem d4_2 : decode (am_bytes 4) 2 = .ok (.invokevirtual 50, 3) := by decide +kernel
theorem d4_5 : decode (am_bytes 4) 5 = .ok (.iload_n 2, 1) := by decide +kernel
theorem d4_6 : decode (am_bytes 4) 6 = .ok (.invokestatic 85, 3) := by decide +kernel
theorem d4_9 : decode (am_bytes 4) 9 = .ok (.iload_n 3, 1) := by decide +kernel
theorem d4_10 : decode (am_bytes 4) 10 = .ok (.invokestatic 88, 3) := by decide +kernel
theorem d4_13 : decode (am_bytes 4) 13 = .ok (.aload_n 0, 1) := by decide +kernel
theorem d4_14 : decode (am_bytes 4) 14 = .ok (.getfield 19, 3) := by decide +kernel
theorem d4_17 : decode (am_bytes 4) 17 = .ok (.invokevirtual 127, 3) := by decide +kernel
theorem d4_20 : decode (am_bytes 4) 20 = .ok (.aload_n 0, 1) := by decide +kernel
theorem d4_21 : decode (am_bytes 4) 21 = .ok (.iload_n 1, 1) := by decide +kernel
theorem d4_22 : decode (am_bytes 4) 22 = .ok (.invokevirtual 130, 3) := by decide +kernel
theorem d4_25 : decode (am_bytes 4) 25 = .ok (.aload_n 0, 1) := by decide +kernel
theorem d4_26 : decode (am_bytes 4) 26 = .ok (.getfield 19, 3) := by decide +kernel
theorem d4_29 : decode (am_bytes 4) 29 = .ok (.iload_n 2, 1) := by decide +kernel
theorem d4_30 : decode (am_bytes 4) 30 = .ok (.iload_n 3, 1) := by decide +kernel
theorem d4_31 : decode (am_bytes 4) 31 = .ok (.invokestatic 103, 3) := by decide +kernel
theorem d4_34 : decode (am_bytes 4) 34 = .ok (.iload 4, 2) := by decide +kernel
theorem d4_36 : decode (am_bytes 4) 36 = .ok (.invokevirtual 133, 3) := by decide +kernel
theorem d4_39 : decode (am_bytes 4) 39 = .ok (.ireturn, 1) := by decide +kernel
theorem d5_0 : decode (am_bytes 5) 0 = .ok (.aload_n 0, 1) := by decide +kernel
theorem d5_1 : decode (am_bytes 5) 1 = .ok (.iload_n 1, 1) := by decide +kernel
theorem d5_2 : decode (am_bytes 5) 2 = .ok (.invokevirtual 50, 3) := by decide +kernel
theorem d5_5 : decode (am_bytes 5) 5 = .ok (.aload_n 0, 1) := by decide +kernel
theorem d5_6 : decode (am_bytes 5) 6 = .ok (.iload_n 2, 1) := by decide +kernel
theorem d5_7 : decode (am_bytes 5) 7 = .ok (.invokevirtual 50, 3) := by decide +kernel
theorem d5_10 : decode (am_bytes 5) 10 = .ok (.aload_n 0, 1) := by decide +kernel
theorem d5_11 : decode (am_bytes 5) 11 = .ok (.iload_n 1, 1) := by decide +kernel
theorem d5_12 : decode (am_bytes 5) 12 = .ok (.invokevirtual 72, 3) := by decide +kernel
theorem d5_15 : decode (am_bytes 5) 15 = .ok (.aload_n 0, 1) := by decide +kernel
theorem d5_16 : decode (am_bytes 5) 16 = .ok (.iload_n 2, 1) := by decide +kernel
theorem d5_17 : decode (am_bytes 5) 17 = .ok (.invokevirtual 72, 3) := by decide +kernel
theorem d5_20 : decode (am_bytes 5) 20 = .ok (.aload_n 0, 1) := by decide +kernel
theorem d5_21 : decode (am_bytes 5) 21 = .ok (.aload_n 0, 1) := by decide +kernel
theorem d5_22 : decode (am_bytes 5) 22 = .ok (.getfield 26, 3) := by decide +kernel
theorem d5_25 : decode (am_bytes 5) 25 = .ok (.iload_n 1, 1) := by decide +kernel
theorem d5_26 : decode (am_bytes 5) 26 = .ok (.aload_n 0, 1) := by decide +kernel
theorem d5_27 : decode (am_bytes 5) 27 = .ok (.getfield 43, 3) := by decide +kernel
theorem d5_30 : decode (am_bytes 5) 30 = .ok (.invokevirtual 113, 3) := by decide +kernel
theorem d5_33 : decode (am_bytes 5) 33 = .ok (.aload_n 0, 1) := by decide +kernel
theorem d5_34 : decode (am_bytes 5) 34 = .ok (.aload_n 0, 1) := by decide +kernel
theorem d5_35 : decode (am_bytes 5) 35 = .ok (.getfield 30, 3) := by decide +kernel
theorem d5_38 : decode (am_bytes 5) 38 = .ok (.iload_n 2, 1) := by decide +kernel
theorem d5_39 : decode (am_bytes 5) 39 = .ok (.aload_n 0, 1) := by decide +kernel
theorem d5_40 : decode (am_bytes 5) 40 = .ok (.getfield 43, 3) := by decide +kernel
theorem d5_43 : decode (am_bytes 5) 43 = .ok (.invokevirtual 113, 3) := by decide +kernel
theorem d5_46 : decode (am_bytes 5) 46 = .ok (.iconst 0, 1) := by decide +kernel
theorem d5_47 : decode (am_bytes 5) 47 = .ok (.istore 4, 2) := by decide +kernel
theorem d5_49 : decode (am_bytes 5) 49 = .ok (.iconst 0, 1) := by decide +kernel
theorem d5_50 : decode (am_bytes 5) 50 = .ok (.istore 5, 2) := by decide +kernel
theorem d5_52 : decode (am_bytes 5) 52 = .ok (.iload 5, 2) := by decide +kernel
theorem d5_54 : decode (am_bytes 5) 54 = .ok (.bipush 48, 2) := by decide +kernel
theorem d5_56 : decode (am_bytes 5) 56 = .ok (.if_icmp .ge 37, 3) := by decide +kernel
theorem d5_59 : decode (am_bytes 5) 59 = .ok (.aload_n 0, 1) := by decide +kernel
theorem d5_60 : decode (am_bytes 5) 60 = .ok (.getfield 26, 3) := by decide +kernel
theorem d5_63 : decode (am_bytes 5) 63 = .ok (.aload_n 0, 1) := by decide +kernel
theorem d5_64 : decode (am_bytes 5) 64 = .ok (.getfield 30, 3) := by decide +kernel
theorem d5_67 : decode (am_bytes 5) 67 = .ok (.iload 5, 2) := by decide +kernel
theorem d5_69 : decode (am_bytes 5) 69 = .ok (.invokevirtual 136, 3) := by decide +kernel
theorem d5_72 : decode (am_bytes 5) 72 = .ok (.ifCond .ne 15, 3) := by decide +kernel
theorem d5_75 : decode (am_bytes 5) 75 = .ok (.iload 4, 2) := by decide +kernel
theorem d5_77 : decode (am_bytes 5) 77 = .ok (.iload_n 3, 1) := by decide +kernel
theorem d5_78 : decode (am_bytes 5) 78 = .ok (.if_icmp .ne 6, 3) := by decide +kernel
theorem d5_81 : decode (am_bytes 5) 81 = .ok (.iload 5, 2) := by decide +kernel
theorem d5_83 : decode (am_bytes 5) 83 = .ok (.ireturn, 1) := by decide +kernel
theorem d5_84 : decode (am_bytes 5) 84 = .ok (.iinc 4 1, 3) := by decide +kernel
theorem d5_87 : decode (am_bytes 5) 87 = .ok (.iinc 5 1, 3) := by decide +kernel
theorem d5_90 : decode (am_bytes 5) 90 = .ok (.goto (-38), 3) := by decide +kernel
theorem d5_93 : decode (am_bytes 5) 93 = .ok (.iconst (-1), 1) := by decide +kernel
theorem d5_94 : decode (am_bytes 5) 94 = .ok (.ireturn, 1) := by decide +kernel
theorem d6_0 : decode (am_bytes 6) 0 = .ok (.aload_n 0, 1) := by decide +kernel
theorem d6_1 : decode (am_bytes 6) 1 = .ok (.iload_n 1, 1) := by decide +kernel
theorem d6_2 : decode (am_bytes 6) 2 = .ok (.invokevirtual 50, 3) := by decide +kernel
theorem d6_5 : decode (am_bytes 6) 5 = .ok (.aload_n 0, 1) := by decide +kernel
theorem d6_6 : decode (am_bytes 6) 6 = .ok (.iload_n 2, 1) := by decide +kernel
theorem d6_7 : decode (am_bytes 6) 7 = .ok (.invokevirtual 50, 3) := by decide +kernel
theorem d6_10 : decode (am_bytes 6) 10 = .ok (.aload_n 0, 1) := by decide +kernel
theorem d6_11 : decode (am_bytes 6) 11 = .ok (.getfield 12, 3) := by decide +kernel
theorem d6_14 : decode (am_bytes 6) 14 = .ok (.iload_n 1, 1) := by decide +kernel
theorem d6_15 : decode (am_bytes 6) 15 = .ok (.iload_n 2, 1) := by decide +kernel
theorem d6_16 : decode (am_bytes 6) 16 = .ok (.aload_n 0, 1) := by decide +kernel
theorem d6_17 : decode (am_bytes 6) 17 = .ok (.getfield 43, 3) := by decide +kernel
theorem d6_20 : decode (am_bytes 6) 20 = .ok (.invokevirtual 140, 3) := by decide +kernel
theorem d6_23 : decode (am_bytes 6) 23 = .ok (.ireturn, 1) := by decide +kernel
theorem d7_0 : decode (am_bytes 7) 0 = .ok (.aload_n 0, 1) := by decide +kernel
theorem d7_1 : decode (am_bytes 7) 1 = .ok (.iload_n 1, 1) := by decide +kernel
theorem d7_2 : decode (am_bytes 7) 2 = .ok (.invokevirtual 50, 3) := by decide +kernel
theorem d7_5 : decode (am_bytes 7) 5 = .ok (.aload_n 0, 1) := by decide +kernel
theorem d7_6 : decode (am_bytes 7) 6 = .ok (.iload_n 2, 1) := by decide +kernel
theorem d7_7 : decode (am_bytes 7) 7 = .ok (.invokevirtual 50, 3) := by decide +kernel
theorem d7_10 : decode (am_bytes 7) 10 = .ok (.iload_n 1, 1) := by decide +kernel
theorem d7_11 : decode (am_bytes 7) 11 = .ok (.iload_n 2, 1) := by decide +kernel
theorem d7_12 : decode (am_bytes 7) 12 = .ok (.if_icmp .ne 13, 3) := by decide +kernel
theorem d7_15 : decode (am_bytes 7) 15 = .ok (.new 95, 3) := by decide +kernel
theorem d7_18 : decode (am_bytes 7) 18 = .ok (.dup, 1) := by decide +kernel
theorem d7_25 : decode (am_bytes 7) 25 = .ok (.aload_n 0, 1) := by decide +kernel
theorem d7_26 : decode (am_bytes 7) 26 = .ok (.iload_n 1, 1) := by decide +kernel
theorem d7_27 : decode (am_bytes 7) 27 = .ok (.invokevirtual 72, 3) := by decide +kernel
theorem d7_30 : decode (am_bytes 7) 30 = .ok (.aload_n 0, 1) := by decide +kernel
theorem d7_31 : decode (am_bytes 7) 31 = .ok (.iload_n 2, 1) := by decide +kernel
theorem d7_32 : decode (am_bytes 7) 32 = .ok (.invokevirtual 72, 3) := by decide +kernel
theorem d7_35 : decode (am_bytes 7) 35 = .ok (.aload_n 0, 1) := by decide +kernel
theorem d7_36 : decode (am_bytes 7) 36 = .ok (.getfield 12, 3) := by decide +kernel
theorem d7_39 : decode (am_bytes 7) 39 = .ok (.iload_n 1, 1) := by decide +kernel
theorem d7_40 : decode (am_bytes 7) 40 = .ok (.iload_n 2, 1) := by decide +kernel
theorem d7_41 : decode (am_bytes 7) 41 = .ok (.aload_n 0, 1) := by decide +kernel
theorem d7_42 : decode (am_bytes 7) 42 = .ok (.getfield 43, 3) := by decide +kernel
theorem d7_45 : decode (am_bytes 7) 45 = .ok (.invokevirtual 140, 3) := by decide +kernel
theorem d7_48 : decode (am_bytes 7) 48 = .ok (.istore_n 3, 1) := by decide +kernel
theorem d7_49 : decode (am_bytes 7) 49 = .ok (.iload_n 3, 1) := by decide +kernel
theorem d7_50 : decode (am_bytes 7) 50 = .ok (.aload_n 0, 1) := by decide +kernel
theorem d7_51 : decode (am_bytes 7) 51 = .ok (.getfield 47, 3) := by decide +kernel
theorem d7_54 : decode (am_bytes 7) 54 = .ok (.if_icmp .ge 13, 3) := by decide +kernel
theorem d7_57 : decode (am_bytes 7) 57 = .ok (.new 61, 3) := by decide +kernel
theorem d7_60 : decode (am_bytes 7) 60 = .ok (.dup, 1) := by decide +kernel
theorem d7_67 : decode (am_bytes 7) 67 = .ok (.aload_n 0, 1) := by decide +kernel
theorem d7_68 : decode (am_bytes 7) 68 = .ok (.aload_n 0, 1) := by decide +kernel
theorem d7_69 : decode (am_bytes 7) 69 = .ok (.getfield 26, 3) := by decide +kernel
theorem d7_72 : decode (am_bytes 7) 72 = .ok (.iload_n 1, 1) := by decide +kernel
theorem d7_73 : decode (am_bytes 7) 73 = .ok (.aload_n 0, 1) := by decide +kernel
theorem d7_74 : decode (am_bytes 7) 74 = .ok (.getfield 43, 3) := by decide +kernel
theorem d7_77 : decode (am_bytes 7) 77 = .ok (.invokevirtual 113, 3) := by decide +kernel
theorem d7_80 : decode (am_bytes 7) 80 = .ok (.aload_n 0, 1) := by decide +kernel
theorem d7_81 : decode (am_bytes 7) 81 = .ok (.aload_n 0, 1) := by decide +kernel
theorem d7_82 : decode (am_bytes 7) 82 = .ok (.getfield 30, 3) := by decide +kernel
theorem d7_85 : decode (am_bytes 7) 85 = .ok (.iload_n 2, 1) := by decide +kernel
theorem d7_86 : decode (am_bytes 7) 86 = .ok (.aload_n 0, 1) := by decide +kernel
theorem d7_87 : decode (am_bytes 7) 87 = .ok (.getfield 43, 3) := by decide +kernel
theorem d7_90 : decode (am_bytes 7) 90 = .ok (.invokevirtual 113, 3) := by decide +kernel
theorem d7_93 : decode (am_bytes 7) 93 = .ok (.aload_n 0, 1) := by decide +kernel
theorem d7_94 : decode (am_bytes 7) 94 = .ok (.aload_n 0, 1) := by decide +kernel
theorem d7_95 : decode (am_bytes 7) 95 = .ok (.getfield 33, 3) := by decide +kernel
theorem d7_98 : decode (am_bytes 7) 98 = .ok (.iload_n 1, 1) := by decide +kernel
theorem d7_99 : decode (am_bytes 7) 99 = .ok (.iload_n 3, 1) := by decide +kernel
theorem d7_100 : decode (am_bytes 7) 100 = .ok (.invokevirtual 113, 3) := by decide +kernel
theorem d7_103 : decode (am_bytes 7) 103 = .ok (.aload_n 0, 1) := by decide +kernel
theorem d7_104 : decode (am_bytes 7) 104 = .ok (.invokevirtual 148, 3) := by decide +kernel
theorem d7_107 : decode (am_bytes 7) 107 = .ok (.istore 4, 2) := by decide +kernel
theorem d7_109 : decode (am_bytes 7) 109 = .ok (.iload 4, 2) := by decide +kernel
theorem d7_111 : decode (am_bytes 7) 111 = .ok (.ifCond .ne 16, 3) := by decide +kernel
theorem d7_114 : decode (am_bytes 7) 114 = .ok (.aload_n 0, 1) := by decide +kernel
theorem d7_115 : decode (am_bytes 7) 115 = .ok (.aload_n 0, 1) := by decide +kernel
theorem d7_116 : decode (am_bytes 7) 116 = .ok (.invokevirtual 151, 3) := by decide +kernel
theorem d7_119 : decode (am_bytes 7) 119 = .ok (.invokevirtual 100, 3) := by decide +kernel
theorem d7_122 : decode (am_bytes 7) 122 = .ok (.aload_n 0, 1) := by decide +kernel
theorem d7_123 : decode (am_bytes 7) 123 = .ok (.iload_n 2, 1) := by decide +kernel
theorem d7_124 : decode (am_bytes 7) 124 = .ok (.invokevirtual 154, 3) := by decide +kernel
theorem d7_127 : decode (am_bytes 7) 127 = .ok (.iload 4, 2) := by decide +kernel
theorem d7_129 : decode (am_bytes 7) 129 = .ok (.ireturn, 1) := by decide +kernel
theorem d8_0 : decode (am_bytes 8) 0 = .ok (.iload_n 1, 1) := by decide +kernel
theorem d8_1 : decode (am_bytes 8) 1 = .ok (.aload_n 0, 1) := by decide +kernel
theorem d8_2 : decode (am_bytes 8) 2 = .ok (.getfield 47, 3) := by decide +kernel
theorem d8_5 : decode (am_bytes 8) 5 = .ok (.if_icmp .lt 11, 3) := by decide +kernel
theorem d8_8 : decode (am_bytes 8) 8 = .ok (.iload_n 1, 1) := by decide +kernel
theorem d8_9 : decode (am_bytes 8) 9 = .ok (.aload_n 0, 1) := by decide +kernel
theorem d8_10 : decode (am_bytes 8) 10 = .ok (.getfield 43, 3) := by decide +kernel
theorem d8_13 : decode (am_bytes 8) 13 = .ok (.if_icmp .le 13, 3) := by decide +kernel
theorem d8_16 : decode (am_bytes 8) 16 = .ok (.new 95, 3) := by decide +kernel
theorem d8_19 : decode (am_bytes 8) 19 = .ok (.dup, 1) := by decide +kernel
theorem d8_26 : decode (am_bytes 8) 26 = .ok (.aload_n 0, 1) := by decide +kernel
theorem d8_27 : decode (am_bytes 8) 27 = .ok (.iload_n 1, 1) := by decide +kernel
theorem d8_28 : decode (am_bytes 8) 28 = .ok (.putfield 47, 3) := by decide +kernel
theorem d8_31 : decode (am_bytes 8) 31 = .ok (.aload_n 0, 1) := by decide +kernel
theorem d8_32 : decode (am_bytes 8) 32 = .ok (.getfield 19, 3) := by decide +kernel
theorem d8_35 : decode (am_bytes 8) 35 = .ok (.invokevirtual 127, 3) := by decide +kernel
theorem d8_38 : decode (am_bytes 8) 38 = .ok (.iconst 0, 1) := by decide +kernel
theorem d8_39 : decode (am_bytes 8) 39 = .ok (.istore_n 2, 1) := by decide +kernel
theorem d8_40 : decode (am_bytes 8) 40 = .ok (.iload_n 2, 1) := by decide +kernel
theorem d8_41 : decode (am_bytes 8) 41 = .ok (.aload_n 0, 1) := by decide +kernel
theorem d8_42 : decode (am_bytes 8) 42 = .ok (.getfield 12, 3) := by decide +kernel
theorem d8_45 : decode (am_bytes 8) 45 = .ok (.getfield 58, 3) := by decide +kernel
theorem d8_48 : decode (am_bytes 8) 48 = .ok (.if_icmp .ge 14, 3) := by decide +kernel
theorem d8_51 : decode (am_bytes 8) 51 = .ok (.aload_n 0, 1) := by decide +kernel
theorem d8_52 : decode (am_bytes 8) 52 = .ok (.iload_n 2, 1) := by decide +kernel
theorem d8_53 : decode (am_bytes 8) 53 = .ok (.invokevirtual 130, 3) := by decide +kernel
theorem d8_56 : decode (am_bytes 8) 56 = .ok (.iinc 2 1, 3) := by decide +kernel
theorem d8_59 : decode (am_bytes 8) 59 = .ok (.goto (-19), 3) := by decide +kernel
theorem d8_62 : decode (am_bytes 8) 62 = .ok (.aload_n 0, 1) := by decide +kernel
theorem d8_63 : decode (am_bytes 8) 63 = .ok (.getfield 19, 3) := by decide +kernel
theorem d8_66 : decode (am_bytes 8) 66 = .ok (.invokevirtual 159, 3) := by decide +kernel
theorem d8_69 : decode (am_bytes 8) 69 = .ok (.ireturn, 1) := by decide +kernel
theorem d9_0 : decode (am_bytes 9) 0 = .ok (.aload_n 0, 1) := by decide +kernel
theorem d9_1 : decode (am_bytes 9) 1 = .ok (.iload_n 1, 1) := by decide +kernel
theorem d9_2 : decode (am_bytes 9) 2 = .ok (.invokevirtual 50, 3) := by decide +kernel
theorem d9_5 : decode (am_bytes 9) 5 = .ok (.iload_n 3, 1) := by decide +kernel
theorem d9_6 : decode (am_bytes 9) 6 = .ok (.invokestatic 85, 3) := by decide +kernel
theorem d9_9 : decode (am_bytes 9) 9 = .ok (.aload_n 0, 1) := by decide +kernel
theorem d9_10 : decode (am_bytes 9) 10 = .ok (.iload_n 1, 1) := by decide +kernel
theorem d9_11 : decode (am_bytes 9) 11 = .ok (.iload_n 2, 1) := by decide +kernel
theorem d9_12 : decode (am_bytes 9) 12 = .ok (.invokevirtual 54, 3) := by decide +kernel
theorem d9_15 : decode (am_bytes 9) 15 = .ok (.aload_n 0, 1) := by decide +kernel
theorem d9_16 : decode (am_bytes 9) 16 = .ok (.aload_n 0, 1) := by decide +kernel
theorem d9_17 : decode (am_bytes 9) 17 = .ok (.getfield 26, 3) := by decide +kernel
theorem d9_20 : decode (am_bytes 9) 20 = .ok (.iload_n 1, 1) := by decide +kernel
theorem d9_21 : decode (am_bytes 9) 21 = .ok (.iload_n 2, 1) := by decide +kernel
theorem d9_22 : decode (am_bytes 9) 22 = .ok (.invokevirtual 113, 3) := by decide +kernel
theorem d9_25 : decode (am_bytes 9) 25 = .ok (.aload_n 0, 1) := by decide +kernel
theorem d9_26 : decode (am_bytes 9) 26 = .ok (.getfield 26, 3) := by decide +kernel
theorem d9_29 : decode (am_bytes 9) 29 = .ok (.iconst 1, 1) := by decide +kernel
theorem d9_30 : decode (am_bytes 9) 30 = .ok (.iload_n 3, 1) := by decide +kernel
theorem d9_31 : decode (am_bytes 9) 31 = .ok (.ishl, 1) := by decide +kernel
theorem d9_32 : decode (am_bytes 9) 32 = .ok (.invokevirtual 162, 3) := by decide +kernel
theorem d9_35 : decode (am_bytes 9) 35 = .ok (.ireturn, 1) := by decide +kernel
theorem d10_0 : decode (am_bytes 10) 0 = .ok (.aload_n 0, 1) := by decide +kernel
theorem d10_1 : decode (am_bytes 10) 1 = .ok (.getfield 39, 3) := by decide +kernel
theorem d10_4 : decode (am_bytes 10) 4 = .ok (.iload_n 1, 1) := by decide +kernel
theorem d10_5 : decode (am_bytes 10) 5 = .ok (.invokevirtual 166, 3) := by decide +kernel
theorem d10_8 : decode (am_bytes 10) 8 = .ok (.ifCond .ne 13, 3) := by decide +kernel
theorem d10_11 : decode (am_bytes 10) 11 = .ok (.new 95, 3) := by decide +kernel
theorem d10_14 : decode (am_bytes 10) 14 = .ok (.dup, 1) := by decide +kernel
theorem d10_21 : decode (am_bytes 10) 21 = .ok (.aload_n 0, 1) := by decide +kernel
theorem d10_22 : decode (am_bytes 10) 22 = .ok (.getfield 39, 3) := by decide +kernel
theorem d10_25 : decode (am_bytes 10) 25 = .ok (.iload_n 1, 1) := by decide +kernel
theorem d10_26 : decode (am_bytes 10) 26 = .ok (.invokevirtual 172, 3) := by decide +kernel
theorem d10_29 : decode (am_bytes 10) 29 = .ok (.ifCond .ne 13, 3) := by decide +kernel
theorem d10_32 : decode (am_bytes 10) 32 = .ok (.new 61, 3) := by decide +kernel
theorem d10_35 : decode (am_bytes 10) 35 = .ok (.dup, 1) := by decide +kernel
theorem d10_42 : decode (am_bytes 10) 42 = .ok (.aload_n 0, 1) := by decide +kernel
theorem d10_43 : decode (am_bytes 10) 43 = .ok (.getfield 39, 3) := by decide +kernel
theorem d10_46 : decode (am_bytes 10) 46 = .ok (.iload_n 1, 1) := by decide +kernel
theorem d10_47 : decode (am_bytes 10) 47 = .ok (.invokevirtual 177, 3) := by decide +kernel
theorem d10_50 : decode (am_bytes 10) 50 = .ok (.ireturn, 1) := by decide +kernel
theorem d11_0 : decode (am_bytes 11) 0 = .ok (.aload_n 0, 1) := by decide +kernel
theorem d11_1 : decode (am_bytes 11) 1 = .ok (.getfield 39, 3) := by decide +kernel
theorem d11_4 : decode (am_bytes 11) 4 = .ok (.invokevirtual 179, 3) := by decide +kernel
theorem d11_7 : decode (am_bytes 11) 7 = .ok (.return_, 1) := by decide +kernel
theorem d12_0 : decode (am_bytes 12) 0 = .ok (.aload_n 0, 1) := by decide +kernel
theorem d12_1 : decode (am_bytes 12) 1 = .ok (.iload_n 1, 1) := by decide +kernel
theorem d12_2 : decode (am_bytes 12) 2 = .ok (.invokevirtual 50, 3) := by decide +kernel
theorem d12_5 : decode (am_bytes 12) 5 = .ok (.aload_n 0, 1) := by decide +kernel
theorem d12_6 : decode (am_bytes 12) 6 = .ok (.iload_n 1, 1) := by decide +kernel
theorem d12_7 : decode (am_bytes 12) 7 = .ok (.iload_n 2, 1) := by decide +kernel
theorem d12_8 : decode (am_bytes 12) 8 = .ok (.invokevirtual 54, 3) := by decide +kernel
theorem d12_11 : decode (am_bytes 12) 11 = .ok (.aload_n 0, 1) := by decide +kernel
theorem d12_12 : decode (am_bytes 12) 12 = .ok (.aload_n 0, 1) := by decide +kernel
theorem d12_13 : decode (am_bytes 12) 13 = .ok (.getfield 26, 3) := by decide +kernel
theorem d12_16 : decode (am_bytes 12) 16 = .ok (.iload_n 1, 1) := by decide +kernel
theorem d12_17 : decode (am_bytes 12) 17 = .ok (.iload_n 2, 1) := by decide +kernel
theorem d12_18 : decode (am_bytes 12) 18 = .ok (.invokevirtual 113, 3) := by decide +kernel
theorem d12_21 : decode (am_bytes 12) 21 = .ok (.aload_n 0, 1) := by decide +kernel
theorem d12_22 : decode (am_bytes 12) 22 = .ok (.getfield 39, 3) := by decide +kernel
theorem d12_25 : decode (am_bytes 12) 25 = .ok (.aload_n 0, 1) := by decide +kernel
theorem d12_26 : decode (am_bytes 12) 26 = .ok (.getfield 26, 3) := by decide +kernel
theorem d12_29 : decode (am_bytes 12) 29 = .ok (.invokevirtual 182, 3) := by decide +kernel
theorem d12_32 : decode (am_bytes 12) 32 = .ok (.ireturn, 1) := by decide +kernel
theorem d13_0 : decode (am_bytes 13) 0 = .ok (.iload_n 1, 1) := by decide +kernel
theorem d13_1 : decode (am_bytes 13) 1 = .ok (.iconst 3, 1) := by decide +kernel
theorem d13_2 : decode (am_bytes 13) 2 = .ok (.invokestatic 110, 3) := by decide +kernel
theorem d13_5 : decode (am_bytes 13) 5 = .ok (.iload_n 1, 1) := by decide +kernel
theorem d13_6 : decode (am_bytes 13) 6 = .ok (.ifCond .ne 8, 3) := by decide +kernel
theorem d13_9 : decode (am_bytes 13) 9 = .ok (.aload_n 0, 1) := by decide +kernel
theorem d13_10 : decode (am_bytes 13) 10 = .ok (.getfield 43, 3) := by decide +kernel
theorem d13_13 : decode (am_bytes 13) 13 = .ok (.ireturn, 1) := by decide +kernel
theorem d13_14 : decode (am_bytes 13) 14 = .ok (.iload_n 1, 1) := by decide +kernel
theorem d13_15 : decode (am_bytes 13) 15 = .ok (.iconst 1, 1) := by decide +kernel
theorem d13_16 : decode (am_bytes 13) 16 = .ok (.if_icmp .ne 8, 3) := by decide +kernel
theorem d13_19 : decode (am_bytes 13) 19 = .ok (.aload_n 0, 1) := by decide +kernel
theorem d13_20 : decode (am_bytes 13) 20 = .ok (.getfield 47, 3) := by decide +kernel
theorem d13_23 : decode (am_bytes 13) 23 = .ok (.ireturn, 1) := by decide +kernel
theorem d13_24 : decode (am_bytes 13) 24 = .ok (.iload_n 1, 1) := by decide +kernel
theorem d13_25 : decode (am_bytes 13) 25 = .ok (.iconst 2, 1) := by decide +kernel
theorem d13_26 : decode (am_bytes 13) 26 = .ok (.if_icmp .ne 13, 3) := by decide +kernel
theorem d13_29 : decode (am_bytes 13) 29 = .ok (.aload_n 0, 1) := by decide +kernel
theorem d13_30 : decode (am_bytes 13) 30 = .ok (.getfield 19, 3) := by decide +kernel
theorem d13_33 : decode (am_bytes 13) 33 = .ok (.getfield 186, 3) := by decide +kernel
theorem d13_36 : decode (am_bytes 13) 36 = .ok (.goto 10, 3) := by decide +kernel
theorem d13_39 : decode (am_bytes 13) 39 = .ok (.aload_n 0, 1) := by decide +kernel
theorem d13_40 : decode (am_bytes 13) 40 = .ok (.getfield 12, 3) := by decide +kernel
theorem d13_43 : decode (am_bytes 13) 43 = .ok (.getfield 58, 3) := by decide +kernel
theorem d13_46 : decode (am_bytes 13) 46 = .ok (.ireturn, 1) := by decide +kernel
theorem d14_0 : decode (am_bytes 14) 0 = .ok (.aload_n 0, 1) := by decide +kernel
theorem d14_1 : decode (am_bytes 14) 1 = .ok (.iload_n 1, 1) := by decide +kernel
theorem d14_2 : decode (am_bytes 14) 2 = .ok (.invokevirtual 50, 3) := by decide +kernel
theorem d14_5 : decode (am_bytes 14) 5 = .ok (.iload_n 2, 1) := by decide +kernel
theorem d14_6 : decode (am_bytes 14) 6 = .ok (.iconst 3, 1) := by decide +kernel
theorem d14_7 : decode (am_bytes 14) 7 = .ok (.invokestatic 110, 3) := by decide +kernel
theorem d14_10 : decode (am_bytes 14) 10 = .ok (.iload_n 2, 1) := by decide +kernel
theorem d14_11 : decode (am_bytes 14) 11 = .ok (.ifCond .ne 21, 3) := by decide +kernel
theorem d14_14 : decode (am_bytes 14) 14 = .ok (.aload_n 0, 1) := by decide +kernel
theorem d14_15 : decode (am_bytes 14) 15 = .ok (.getfield 12, 3) := by decide +kernel
theorem d14_18 : decode (am_bytes 14) 18 = .ok (.getfield 81, 3) := by decide +kernel
theorem d14_21 : decode (am_bytes 14) 21 = .ok (.iload_n 1, 1) := by decide +kernel
theorem d14_22 : decode (am_bytes 14) 22 = .ok (.baload, 1) := by decide +kernel
theorem d14_23 : decode (am_bytes 14) 23 = .ok (.ifCond .eq 7, 3) := by decide +kernel
theorem d14_26 : decode (am_bytes 14) 26 = .ok (.iconst 1, 1) := by decide +kernel
theorem d14_27 : decode (am_bytes 14) 27 = .ok (.goto 4, 3) := by decide +kernel
theorem d14_30 : decode (am_bytes 14) 30 = .ok (.iconst 0, 1) := by decide +kernel
theorem d14_31 : decode (am_bytes 14) 31 = .ok (.ireturn, 1) := by decide +kernel
theorem d14_32 : decode (am_bytes 14) 32 = .ok (.iload_n 2, 1) := by decide +kernel
theorem d14_33 : decode (am_bytes 14) 33 = .ok (.iconst 1, 1) := by decide +kernel
theorem d14_34 : decode (am_bytes 14) 34 = .ok (.if_icmp .ne 13, 3) := by decide +kernel
theorem d14_37 : decode (am_bytes 14) 37 = .ok (.aload_n 0, 1) := by decide +kernel
theorem d14_38 : decode (am_bytes 14) 38 = .ok (.getfield 12, 3) := by decide +kernel
theorem d14_41 : decode (am_bytes 14) 41 = .ok (.getfield 187, 3) := by decide +kernel
theorem d14_44 : decode (am_bytes 14) 44 = .ok (.iload_n 1, 1) := by decide +kernel
theorem d14_45 : decode (am_bytes 14) 45 = .ok (.iaload, 1) := by decide +kernel
theorem d14_46 : decode (am_bytes 14) 46 = .ok (.ireturn, 1) := by decide +kernel
theorem d14_47 : decode (am_bytes 14) 47 = .ok (.iload_n 2, 1) := by decide +kernel
theorem d14_48 : decode (am_bytes 14) 48 = .ok (.iconst 2, 1) := by decide +kernel
theorem d14_49 : decode (am_bytes 14) 49 = .ok (.if_icmp .ne 15, 3) := by decide +kernel
theorem d14_52 : decode (am_bytes 14) 52 = .ok (.aload_n 0, 1) := by decide +kernel
theorem d14_53 : decode (am_bytes 14) 53 = .ok (.getfield 12, 3) := by decide +kernel
theorem d14_56 : decode (am_bytes 14) 56 = .ok (.getfield 190, 3) := by decide +kernel
theorem d14_59 : decode (am_bytes 14) 59 = .ok (.iload_n 1, 1) := by decide +kernel
theorem d14_60 : decode (am_bytes 14) 60 = .ok (.iaload, 1) := by decide +kernel
theorem d14_61 : decode (am_bytes 14) 61 = .ok (.goto 11, 3) := by decide +kernel
theorem d14_64 : decode (am_bytes 14) 64 = .ok (.aload_n 0, 1) := by decide +kernel
theorem d14_65 : decode (am_bytes 14) 65 = .ok (.getfield 19, 3) := by decide +kernel
theorem d14_68 : decode (am_bytes 14) 68 = .ok (.iload_n 1, 1) := by decide +kernel
theorem d14_69 : decode (am_bytes 14) 69 = .ok (.invokevirtual 193, 3) := by decide +kernel
theorem d14_72 : decode (am_bytes 14) 72 = .ok (.ireturn, 1) := by decide +kernel
theorem d15_0 : decode (am_bytes 15) 0 = .ok (.iload_n 1, 1) := by decide +kernel
theorem d15_1 : decode (am_bytes 15) 1 = .ok (.ifCond .lt 14, 3) := by decide +kernel
theorem d15_4 : decode (am_bytes 15) 4 = .ok (.iload_n 1, 1) := by decide +kernel
theorem d15_5 : decode (am_bytes 15) 5 = .ok (.aload_n 0, 1) := by decide +kernel
theorem d15_6 : decode (am_bytes 15) 6 = .ok (.getfield 12, 3) := by decide +kernel
theorem d15_9 : decode (am_bytes 15) 9 = .ok (.getfield 58, 3) := by decide +kernel
theorem d15_12 : decode (am_bytes 15) 12 = .ok (.if_icmp .lt 13, 3) := by decide +kernel
theorem d15_15 : decode (am_bytes 15) 15 = .ok (.new 196, 3) := by decide +kernel
theorem d15_18 : decode (am_bytes 15) 18 = .ok (.dup, 1) := by decide +kernel
theorem d15_25 : decode (am_bytes 15) 25 = .ok (.return_, 1) := by decide +kernel
theorem d16_0 : decode (am_bytes 16) 0 = .ok (.iload_n 0, 1) := by decide +kernel
theorem d16_1 : decode (am_bytes 16) 1 = .ok (.invokestatic 201, 3) := by decide +kernel
theorem d16_4 : decode (am_bytes 16) 4 = .ok (.ifCond .ne 13, 3) := by decide +kernel
theorem d16_7 : decode (am_bytes 16) 7 = .ok (.new 196, 3) := by decide +kernel
theorem d16_10 : decode (am_bytes 16) 10 = .ok (.dup, 1) := by decide +kernel
theorem d16_17 : decode (am_bytes 16) 17 = .ok (.return_, 1) := by decide +kernel
theorem d17_0 : decode (am_bytes 17) 0 = .ok (.iload_n 0, 1) := by decide +kernel
theorem d17_1 : decode (am_bytes 17) 1 = .ok (.ifCond .lt 8, 3) := by decide +kernel
theorem d17_4 : decode (am_bytes 17) 4 = .ok (.iload_n 0, 1) := by decide +kernel
theorem d17_5 : decode (am_bytes 17) 5 = .ok (.iconst 4, 1) := by decide +kernel
theorem d17_6 : decode (am_bytes 17) 6 = .ok (.if_icmp .lt 13, 3) := by decide +kernel
theorem d17_9 : decode (am_bytes 17) 9 = .ok (.new 196, 3) := by decide +kernel
theorem d17_12 : decode (am_bytes 17) 12 = .ok (.dup, 1) := by decide +kernel
theorem d17_19 : decode (am_bytes 17) 19 = .ok (.return_, 1) := by decide +kernel
theorem d18_0 : decode (am_bytes 18) 0 = .ok (.iload_n 0, 1) := by decide +kernel
theorem d18_1 : decode (am_bytes 18) 1 = .ok (.ifCond .lt 8, 3) := by decide +kernel
theorem d18_4 : decode (am_bytes 18) 4 = .ok (.iload_n 0, 1) := by decide +kernel
theorem d18_5 : decode (am_bytes 18) 5 = .ok (.iload_n 1, 1) := by decide +kernel
theorem d18_6 : decode (am_bytes 18) 6 = .ok (.if_icmp .le 13, 3) := by decide +kernel
theorem d18_9 : decode (am_bytes 18) 9 = .ok (.new 95, 3) := by decide +kernel
theorem d18_12 : decode (am_bytes 18) 12 = .ok (.dup, 1) := by decide +kernel
theorem d18_19 : decode (am_bytes 18) 19 = .ok (.return_, 1) := by decide +kernel
theorem d19_0 : decode (am_bytes 19) 0 = .ok (.aload_n 0, 1) := by decide +kernel
theorem d19_1 : decode (am_bytes 19) 1 = .ok (.getfield 12, 3) := by decide +kernel
theorem d19_4 : decode (am_bytes 19) 4 = .ok (.getfield 81, 3) := by decide +kernel
theorem d19_7 : decode (am_bytes 19) 7 = .ok (.iload_n 1, 1) := by decide +kernel
theorem d19_8 : decode (am_bytes 19) 8 = .ok (.baload, 1) := by decide +kernel
theorem d19_9 : decode (am_bytes 19) 9 = .ok (.ifCond .eq 20, 3) := by decide +kernel
theorem d19_12 : decode (am_bytes 19) 12 = .ok (.iload_n 2, 1) := by decide +kernel
theorem d19_13 : decode (am_bytes 19) 13 = .ok (.aload_n 0, 1) := by decide +kernel
theorem d19_14 : decode (am_bytes 19) 14 = .ok (.iload_n 1, 1) := by decide +kernel
theorem d19_15 : decode (am_bytes 19) 15 = .ok (.invokevirtual 210, 3) := by decide +kernel
theorem d19_18 : decode (am_bytes 19) 18 = .ok (.if_icmp .lt 11, 3) := by decide +kernel
theorem d19_21 : decode (am_bytes 19) 21 = .ok (.iload_n 2, 1) := by decide +kernel
theorem d19_22 : decode (am_bytes 19) 22 = .ok (.aload_n 0, 1) := by decide +kernel
theorem d19_23 : decode (am_bytes 19) 23 = .ok (.getfield 43, 3) := by decide +kernel
theorem d19_26 : decode (am_bytes 19) 26 = .ok (.if_icmp .le 13, 3) := by decide +kernel
theorem d19_29 : decode (am_bytes 19) 29 = .ok (.new 95, 3) := by decide +kernel
theorem d19_32 : decode (am_bytes 19) 32 = .ok (.dup, 1) := by decide +kernel
theorem d19_39 : decode (am_bytes 19) 39 = .ok (.return_, 1) := by decide +kernel
theorem d20_0 : decode (am_bytes 20) 0 = .ok (.aload_n 0, 1) := by decide +kernel
theorem d20_1 : decode (am_bytes 20) 1 = .ok (.getfield 12, 3) := by decide +kernel
theorem d20_4 : decode (am_bytes 20) 4 = .ok (.getfield 81, 3) := by decide +kernel
theorem d20_7 : decode (am_bytes 20) 7 = .ok (.iload_n 1, 1) := by decide +kernel
theorem d20_8 : decode (am_bytes 20) 8 = .ok (.baload, 1) := by decide +kernel
theorem d20_9 : decode (am_bytes 20) 9 = .ok (.ifCond .ne 13, 3) := by decide +kernel
theorem d20_12 : decode (am_bytes 20) 12 = .ok (.new 61, 3) := by decide +kernel
theorem d20_15 : decode (am_bytes 20) 15 = .ok (.dup, 1) := by decide +kernel
theorem d20_22 : decode (am_bytes 20) 22 = .ok (.return_, 1) := by decide +kernel
theorem d21_0 : decode (am_bytes 21) 0 = .ok (.aload_n 0, 1) := by decide +kernel
theorem d21_1 : decode (am_bytes 21) 1 = .ok (.getfield 19, 3) := by decide +kernel
theorem d21_4 : decode (am_bytes 21) 4 = .ok (.getfield 186, 3) := by decide +kernel
theorem d21_7 : decode (am_bytes 21) 7 = .ok (.iload_n 1, 1) := by decide +kernel
theorem d21_8 : decode (am_bytes 21) 8 = .ok (.iadd, 1) := by decide +kernel
theorem d21_9 : decode (am_bytes 21) 9 = .ok (.bipush 120, 2) := by decide +kernel
theorem d21_11 : decode (am_bytes 21) 11 = .ok (.if_icmp .le 13, 3) := by decide +kernel
theorem d21_14 : decode (am_bytes 21) 14 = .ok (.new 217, 3) := by decide +kernel
theorem d21_17 : decode (am_bytes 21) 17 = .ok (.dup, 1) := by decide +kernel
theorem d21_24 : decode (am_bytes 21) 24 = .ok (.return_, 1) := by decide +kernel
theorem d22_0 : decode (am_bytes 22) 0 = .ok (.aload_n 0, 1) := by decide +kernel
theorem d22_1 : decode (am_bytes 22) 1 = .ok (.getfield 12, 3) := by decide +kernel
theorem d22_4 : decode (am_bytes 22) 4 = .ok (.getfield 190, 3) := by decide +kernel
theorem d22_7 : decode (am_bytes 22) 7 = .ok (.iload_n 1, 1) := by decide +kernel
theorem d22_8 : decode (am_bytes 22) 8 = .ok (.iaload, 1) := by decide +kernel
theorem d22_9 : decode (am_bytes 22) 9 = .ok (.aload_n 0, 1) := by decide +kernel
theorem d22_10 : decode (am_bytes 22) 10 = .ok (.getfield 47, 3) := by decide +kernel
theorem d22_13 : decode (am_bytes 22) 13 = .ok (.invokestatic 222, 3) := by decide +kernel
theorem d22_16 : decode (am_bytes 22) 16 = .ok (.ireturn, 1) := by decide +kernel
theorem d23_0 : decode (am_bytes 23) 0 = .ok (.aload_n 0, 1) := by decide +kernel
theorem d23_1 : decode (am_bytes 23) 1 = .ok (.getfield 12, 3) := by decide +kernel
theorem d23_4 : decode (am_bytes 23) 4 = .ok (.iload_n 2, 1) := by decide +kernel
theorem d23_5 : decode (am_bytes 23) 5 = .ok (.iload_n 3, 1) := by decide +kernel
theorem d23_6 : decode (am_bytes 23) 6 = .ok (.invokevirtual 227, 3) := by decide +kernel
theorem d23_9 : decode (am_bytes 23) 9 = .ok (.aload_n 0, 1) := by decide +kernel
theorem d23_10 : decode (am_bytes 23) 10 = .ok (.getfield 19, 3) := by decide +kernel
theorem d23_13 : decode (am_bytes 23) 13 = .ok (.aload_n 0, 1) := by decide +kernel
theorem d23_14 : decode (am_bytes 23) 14 = .ok (.getfield 12, 3) := by decide +kernel
theorem d23_17 : decode (am_bytes 23) 17 = .ok (.getfield 230, 3) := by decide +kernel
theorem d23_20 : decode (am_bytes 23) 20 = .ok (.aload_n 1, 1) := by decide +kernel
theorem d23_21 : decode (am_bytes 23) 21 = .ok (.invokevirtual 233, 3) := by decide +kernel
theorem d23_24 : decode (am_bytes 23) 24 = .ok (.return_, 1) := by decide +kernel
theorem d24_0 : decode (am_bytes 24) 0 = .ok (.aload_n 0, 1) := by decide +kernel
theorem d24_1 : decode (am_bytes 24) 1 = .ok (.dup, 1) := by decide +kernel
theorem d24_2 : decode (am_bytes 24) 2 = .ok (.getfield 43, 3) := by decide +kernel
theorem d24_5 : decode (am_bytes 24) 5 = .ok (.iconst 1, 1) := by decide +kernel
theorem d24_6 : decode (am_bytes 24) 6 = .ok (.iadd, 1) := by decide +kernel
theorem d24_7 : decode (am_bytes 24) 7 = .ok (.putfield 43, 3) := by decide +kernel
theorem d24_10 : decode (am_bytes 24) 10 = .ok (.aload_n 0, 1) := by decide +kernel
theorem d24_11 : decode (am_bytes 24) 11 = .ok (.getfield 19, 3) := by decide +kernel
theorem d24_14 : decode (am_bytes 24) 14 = .ok (.iload_n 1, 1) := by decide +kernel
theorem d24_15 : decode (am_bytes 24) 15 = .ok (.aload_n 0, 1) := by decide +kernel
theorem d24_16 : decode (am_bytes 24) 16 = .ok (.getfield 43, 3) := by decide +kernel
theorem d24_19 : decode (am_bytes 24) 19 = .ok (.iload_n 2, 1) := by decide +kernel
theorem d24_20 : decode (am_bytes 24) 20 = .ok (.iload_n 3, 1) := by decide +kernel
theorem d24_21 : decode (am_bytes 24) 21 = .ok (.iload 4, 2) := by decide +kernel
theorem d24_23 : decode (am_bytes 24) 23 = .ok (.invokevirtual 237, 3) := by decide +kernel
theorem d24_26 : decode (am_bytes 24) 26 = .ok (.return_, 1) := by decide +kernel
theorem d25_0 : decode (am_bytes 25) 0 = .ok (.aload_n 0, 1) := by decide +kernel
theorem d25_1 : decode (am_bytes 25) 1 = .ok (.getfield 12, 3) := by decide +kernel
theorem d25_4 : decode (am_bytes 25) 4 = .ok (.getfield 81, 3) := by decide +kernel
theorem d25_7 : decode (am_bytes 25) 7 = .ok (.iload_n 1, 1) := by decide +kernel
theorem d25_8 : decode (am_bytes 25) 8 = .ok (.baload, 1) := by decide +kernel
theorem d25_9 : decode (am_bytes 25) 9 = .ok (.ifCond .ne 4, 3) := by decide +kernel
theorem d25_12 : decode (am_bytes 25) 12 = .ok (.return_, 1) := by decide +kernel
theorem d25_13 : decode (am_bytes 25) 13 = .ok (.aload_n 0, 1) := by decide +kernel
theorem d25_14 : decode (am_bytes 25) 14 = .ok (.iload_n 1, 1) := by decide +kernel
theorem d25_15 : decode (am_bytes 25) 15 = .ok (.invokevirtual 210, 3) := by decide +kernel
theorem d25_18 : decode (am_bytes 25) 18 = .ok (.istore_n 2, 1) := by decide +kernel
theorem d25_19 : decode (am_bytes 25) 19 = .ok (.aload_n 0, 1) := by decide +kernel
theorem d25_20 : decode (am_bytes 25) 20 = .ok (.aload_n 0, 1) := by decide +kernel
theorem d25_21 : decode (am_bytes 25) 21 = .ok (.getfield 26, 3) := by decide +kernel
theorem d25_24 : decode (am_bytes 25) 24 = .ok (.iload_n 1, 1) := by decide +kernel
theorem d25_25 : decode (am_bytes 25) 25 = .ok (.iload_n 2, 1) := by decide +kernel
theorem d25_26 : decode (am_bytes 25) 26 = .ok (.invokevirtual 113, 3) := by decide +kernel
theorem d25_29 : decode (am_bytes 25) 29 = .ok (.aload_n 0, 1) := by decide +kernel
theorem d25_30 : decode (am_bytes 25) 30 = .ok (.getfield 19, 3) := by decide +kernel
theorem d25_33 : decode (am_bytes 25) 33 = .ok (.aload_n 0, 1) := by decide +kernel
theorem d25_34 : decode (am_bytes 25) 34 = .ok (.getfield 26, 3) := by decide +kernel
theorem d25_37 : decode (am_bytes 25) 37 = .ok (.invokevirtual 240, 3) := by decide +kernel
theorem d25_40 : decode (am_bytes 25) 40 = .ok (.aload_n 0, 1) := by decide +kernel
theorem d25_41 : decode (am_bytes 25) 41 = .ok (.getfield 19, 3) := by decide +kernel
theorem d25_44 : decode (am_bytes 25) 44 = .ok (.iload_n 1, 1) := by decide +kernel
theorem d25_45 : decode (am_bytes 25) 45 = .ok (.iload_n 2, 1) := by decide +kernel
theorem d25_46 : decode (am_bytes 25) 46 = .ok (.invokevirtual 244, 3) := by decide +kernel
theorem d25_49 : decode (am_bytes 25) 49 = .ok (.return_, 1) := by decide +kernel
theorem d26_0 : decode (am_bytes 26) 0 = .ok (.aload_n 0, 1) := by decide +kernel
theorem d26_1 : decode (am_bytes 26) 1 = .ok (.getfield 26, 3) := by decide +kernel
theorem d26_4 : decode (am_bytes 26) 4 = .ok (.aload_n 0, 1) := by decide +kernel
theorem d26_5 : decode (am_bytes 26) 5 = .ok (.getfield 33, 3) := by decide +kernel
theorem d26_8 : decode (am_bytes 26) 8 = .ok (.iload_n 1, 1) := by decide +kernel
theorem d26_9 : decode (am_bytes 26) 9 = .ok (.invokevirtual 136, 3) := by decide +kernel
theorem d26_12 : decode (am_bytes 26) 12 = .ok (.ifCond .ne 22, 3) := by decide +kernel
theorem d26_15 : decode (am_bytes 26) 15 = .ok (.aload_n 0, 1) := by decide +kernel
theorem d26_16 : decode (am_bytes 26) 16 = .ok (.getfield 26, 3) := by decide +kernel
theorem d26_19 : decode (am_bytes 26) 19 = .ok (.aload_n 0, 1) := by decide +kernel
theorem d26_20 : decode (am_bytes 26) 20 = .ok (.getfield 30, 3) := by decide +kernel
theorem d26_23 : decode (am_bytes 26) 23 = .ok (.iload_n 1, 1) := by decide +kernel
theorem d26_24 : decode (am_bytes 26) 24 = .ok (.invokevirtual 136, 3) := by decide +kernel
theorem d26_27 : decode (am_bytes 26) 27 = .ok (.ifCond .ne 7, 3) := by decide +kernel
theorem d26_30 : decode (am_bytes 26) 30 = .ok (.iconst 1, 1) := by decide +kernel
theorem d26_31 : decode (am_bytes 26) 31 = .ok (.goto 4, 3) := by decide +kernel
theorem d26_34 : decode (am_bytes 26) 34 = .ok (.iconst 0, 1) := by decide +kernel
theorem d26_35 : decode (am_bytes 26) 35 = .ok (.ireturn, 1) := by decide +kernel
theorem d27_0 : decode (am_bytes 27) 0 = .ok (.iconst 0, 1) := by decide +kernel
theorem d27_1 : decode (am_bytes 27) 1 = .ok (.istore_n 1, 1) := by decide +kernel
theorem d27_2 : decode (am_bytes 27) 2 = .ok (.iconst 0, 1) := by decide +kernel
theorem d27_3 : decode (am_bytes 27) 3 = .ok (.istore_n 2, 1) := by decide +kernel
theorem d27_4 : decode (am_bytes 27) 4 = .ok (.iload_n 2, 1) := by decide +kernel
theorem d27_5 : decode (am_bytes 27) 5 = .ok (.bipush 48, 2) := by decide +kernel
theorem d27_7 : decode (am_bytes 27) 7 = .ok (.if_icmp .ge 20, 3) := by decide +kernel
theorem d27_10 : decode (am_bytes 27) 10 = .ok (.aload_n 0, 1) := by decide +kernel
theorem d27_11 : decode (am_bytes 27) 11 = .ok (.iload_n 2, 1) := by decide +kernel
theorem d27_12 : decode (am_bytes 27) 12 = .ok (.invokevirtual 247, 3) := by decide +kernel
theorem d27_15 : decode (am_bytes 27) 15 = .ok (.ifCond .eq 6, 3) := by decide +kernel
theorem d27_18 : decode (am_bytes 27) 18 = .ok (.iinc 1 1, 3) := by decide +kernel
theorem d27_21 : decode (am_bytes 27) 21 = .ok (.iinc 2 1, 3) := by decide +kernel
theorem d27_24 : decode (am_bytes 27) 24 = .ok (.goto (-20), 3) := by decide +kernel
theorem d27_27 : decode (am_bytes 27) 27 = .ok (.iload_n 1, 1) := by decide +kernel
theorem d27_28 : decode (am_bytes 27) 28 = .ok (.ireturn, 1) := by decide +kernel
theorem d28_0 : decode (am_bytes 28) 0 = .ok (.iconst 0, 1) := by decide +kernel
theorem d28_1 : decode (am_bytes 28) 1 = .ok (.istore_n 1, 1) := by decide +kernel
theorem d28_2 : decode (am_bytes 28) 2 = .ok (.iconst 0, 1) := by decide +kernel
theorem d28_3 : decode (am_bytes 28) 3 = .ok (.istore_n 2, 1) := by decide +kernel
theorem d28_4 : decode (am_bytes 28) 4 = .ok (.iload_n 2, 1) := by decide +kernel
theorem d28_5 : decode (am_bytes 28) 5 = .ok (.bipush 48, 2) := by decide +kernel
theorem d28_7 : decode (am_bytes 28) 7 = .ok (.if_icmp .ge 35, 3) := by decide +kernel
theorem d28_10 : decode (am_bytes 28) 10 = .ok (.aload_n 0, 1) := by decide +kernel
theorem d28_11 : decode (am_bytes 28) 11 = .ok (.iload_n 2, 1) := by decide +kernel
theorem d28_12 : decode (am_bytes 28) 12 = .ok (.invokevirtual 247, 3) := by decide +kernel
theorem d28_15 : decode (am_bytes 28) 15 = .ok (.ifCond .eq 21, 3) := by decide +kernel
theorem d28_18 : decode (am_bytes 28) 18 = .ok (.aload_n 0, 1) := by decide +kernel
theorem d28_19 : decode (am_bytes 28) 19 = .ok (.getfield 30, 3) := by decide +kernel
theorem d28_22 : decode (am_bytes 28) 22 = .ok (.aload_n 0, 1) := by decide +kernel
theorem d28_23 : decode (am_bytes 28) 23 = .ok (.getfield 33, 3) := by decide +kernel
theorem d28_26 : decode (am_bytes 28) 26 = .ok (.iload_n 2, 1) := by decide +kernel
theorem d28_27 : decode (am_bytes 28) 27 = .ok (.invokevirtual 136, 3) := by decide +kernel
theorem d28_30 : decode (am_bytes 28) 30 = .ok (.ifCond .ne 6, 3) := by decide +kernel
theorem d28_33 : decode (am_bytes 28) 33 = .ok (.iinc 1 1, 3) := by decide +kernel
theorem d28_36 : decode (am_bytes 28) 36 = .ok (.iinc 2 1, 3) := by decide +kernel
theorem d28_39 : decode (am_bytes 28) 39 = .ok (.goto (-35), 3) := by decide +kernel
theorem d28_42 : decode (am_bytes 28) 42 = .ok (.iload_n 1, 1) := by decide +kernel
theorem d28_43 : decode (am_bytes 28) 43 = .ok (.ireturn, 1) := by decide +kernel
theorem d29_0 : decode (am_bytes 29) 0 = .ok (.iconst 0, 1) := by decide +kernel
theorem d29_1 : decode (am_bytes 29) 1 = .ok (.istore_n 2, 1) := by decide +kernel
theorem d29_2 : decode (am_bytes 29) 2 = .ok (.iload_n 2, 1) := by decide +kernel
theorem d29_3 : decode (am_bytes 29) 3 = .ok (.bipush 48, 2) := by decide +kernel
theorem d29_5 : decode (am_bytes 29) 5 = .ok (.if_icmp .ge 41, 3) := by decide +kernel
theorem d29_8 : decode (am_bytes 29) 8 = .ok (.aload_n 0, 1) := by decide +kernel
theorem d29_9 : decode (am_bytes 29) 9 = .ok (.iload_n 2, 1) := by decide +kernel
theorem d29_10 : decode (am_bytes 29) 10 = .ok (.invokevirtual 247, 3) := by decide +kernel
theorem d29_13 : decode (am_bytes 29) 13 = .ok (.ifCond .eq 27, 3) := by decide +kernel
theorem d29_16 : decode (am_bytes 29) 16 = .ok (.aload_n 0, 1) := by decide +kernel
theorem d29_17 : decode (am_bytes 29) 17 = .ok (.iload_n 1, 1) := by decide +kernel
theorem d29_18 : decode (am_bytes 29) 18 = .ok (.iload_n 2, 1) := by decide +kernel
theorem d29_19 : decode (am_bytes 29) 19 = .ok (.aload_n 0, 1) := by decide +kernel
theorem d29_20 : decode (am_bytes 29) 20 = .ok (.getfield 26, 3) := by decide +kernel
theorem d29_23 : decode (am_bytes 29) 23 = .ok (.getfield 117, 3) := by decide +kernel
theorem d29_26 : decode (am_bytes 29) 26 = .ok (.iload_n 2, 1) := by decide +kernel
theorem d29_27 : decode (am_bytes 29) 27 = .ok (.iaload, 1) := by decide +kernel
theorem d29_28 : decode (am_bytes 29) 28 = .ok (.aload_n 0, 1) := by decide +kernel
theorem d29_29 : decode (am_bytes 29) 29 = .ok (.getfield 26, 3) := by decide +kernel
theorem d29_32 : decode (am_bytes 29) 32 = .ok (.getfield 121, 3) := by decide +kernel
theorem d29_35 : decode (am_bytes 29) 35 = .ok (.iload_n 2, 1) := by decide +kernel
theorem d29_36 : decode (am_bytes 29) 36 = .ok (.iaload, 1) := by decide +kernel
theorem d29_37 : decode (am_bytes 29) 37 = .ok (.invokevirtual 106, 3) := by decide +kernel
theorem d29_40 : decode (am_bytes 29) 40 = .ok (.iinc 2 1, 3) := by decide +kernel
theorem d29_43 : decode (am_bytes 29) 43 = .ok (.goto (-41), 3) := by decide +kernel
theorem d29_46 : decode (am_bytes 29) 46 = .ok (.return_, 1) := by decide +kernel
theorem d30_0 : decode (am_bytes 30) 0 = .ok (.iload_n 0, 1) := by decide +kernel
theorem d30_1 : decode (am_bytes 30) 1 = .ok (.ifCond .lt 13, 3) := by decide +kernel
theorem d30_4 : decode (am_bytes 30) 4 = .ok (.iload_n 0, 1) := by decide +kernel
theorem d30_5 : decode (am_bytes 30) 5 = .ok (.bipush 12, 2) := by decide +kernel
theorem d30_7 : decode (am_bytes 30) 7 = .ok (.if_icmp .ge 7, 3) := by decide +kernel
theorem d30_10 : decode (am_bytes 30) 10 = .ok (.iconst 1, 1) := by decide +kernel
theorem d30_11 : decode (am_bytes 30) 11 = .ok (.goto 4, 3) := by decide +kernel
theorem d30_14 : decode (am_bytes 30) 14 = .ok (.iconst 0, 1) := by decide +kernel
theorem d30_15 : decode (am_bytes 30) 15 = .ok (.ireturn, 1) := by decide +kernel
theorem d31_0 : decode (am_bytes 31) 0 = .ok (.iload_n 0, 1) := by decide +kernel
theorem d31_1 : decode (am_bytes 31) 1 = .ok (.ifCond .eq 20, 3) := by decide +kernel
theorem d31_4 : decode (am_bytes 31) 4 = .ok (.iload_n 0, 1) := by decide +kernel
theorem d31_5 : decode (am_bytes 31) 5 = .ok (.iconst 1, 1) := by decide +kernel
theorem d31_6 : decode (am_bytes 31) 6 = .ok (.if_icmp .eq 15, 3) := by decide +kernel
theorem d31_9 : decode (am_bytes 31) 9 = .ok (.iload_n 0, 1) := by decide +kernel
theorem d31_10 : decode (am_bytes 31) 10 = .ok (.iconst 2, 1) := by decide +kernel
theorem d31_11 : decode (am_bytes 31) 11 = .ok (.if_icmp .ne 14, 3) := by decide +kernel
theorem d31_14 : decode (am_bytes 31) 14 = .ok (.iload_n 1, 1) := by decide +kernel
theorem d31_15 : decode (am_bytes 31) 15 = .ok (.invokestatic 201, 3) := by decide +kernel
theorem d31_18 : decode (am_bytes 31) 18 = .ok (.ifCond .eq 7, 3) := by decide +kernel
theorem d31_21 : decode (am_bytes 31) 21 = .ok (.iconst 1, 1) := by decide +kernel
theorem d31_22 : decode (am_bytes 31) 22 = .ok (.goto 4, 3) := by decide +kernel
theorem d31_25 : decode (am_bytes 31) 25 = .ok (.iconst 0, 1) := by decide +kernel
theorem d31_26 : decode (am_bytes 31) 26 = .ok (.ireturn, 1) := by decide +kernel
theorem d32_0 : decode (am_bytes 32) 0 = .ok (.iconst 4, 1) := by decide +kernel
theorem d32_1 : decode (am_bytes 32) 1 = .ok (.iload_n 0, 1) := by decide +kernel
theorem d32_2 : decode (am_bytes 32) 2 = .ok (.imul, 1) := by decide +kernel
theorem d32_3 : decode (am_bytes 32) 3 = .ok (.iload_n 1, 1) := by decide +kernel
theorem d32_4 : decode (am_bytes 32) 4 = .ok (.iadd, 1) := by decide +kernel
theorem d32_5 : decode (am_bytes 32) 5 = .ok (.ireturn, 1) := by decide +kernel
theorem d33_0 : decode (am_bytes 33) 0 = .ok (.aload_n 0, 1) := by decide +kernel
theorem d33_1 : decode (am_bytes 33) 1 = .ok (.getfield 45, 3) := by decide +kernel
theorem d33_4 : decode (am_bytes 33) 4 = .ok (.ireturn, 1) := by decide +kernel
theorem d34_0 : decode (am_bytes 34) 0 = .ok (.iload_n 1, 1) := by decide +kernel
theorem d34_1 : decode (am_bytes 34) 1 = .ok (.ifCond .lt 11, 3) := by decide +kernel
theorem d34_4 : decode (am_bytes 34) 4 = .ok (.iload_n 1, 1) := by decide +kernel
theorem d34_5 : decode (am_bytes 34) 5 = .ok (.aload_n 0, 1) := by decide +kernel
theorem d34_6 : decode (am_bytes 34) 6 = .ok (.getfield 7, 3) := by decide +kernel
theorem d34_9 : decode (am_bytes 34) 9 = .ok (.if_icmp .lt 7, 3) := by decide +kernel
theorem d34_12 : decode (am_bytes 34) 12 = .ok (.iconst 1, 1) := by decide +kernel
theorem d34_13 : decode (am_bytes 34) 13 = .ok (.goto 4, 3) := by decide +kernel
theorem d34_16 : decode (am_bytes 34) 16 = .ok (.iconst 0, 1) := by decide +kernel
theorem d34_17 : decode (am_bytes 34) 17 = .ok (.ireturn, 1) := by decide +kernel
theorem d35_0 : decode (am_bytes 35) 0 = .ok (.iload_n 0, 1) := by decide +kernel
theorem d35_1 : decode (am_bytes 35) 1 = .ok (.ifCond .lt 18, 3) := by decide +kernel
theorem d35_4 : decode (am_bytes 35) 4 = .ok (.iload_n 0, 1) := by decide +kernel
theorem d35_5 : decode (am_bytes 35) 5 = .ok (.bipush 11, 2) := by decide +kernel
theorem d35_7 : decode (am_bytes 35) 7 = .ok (.if_icmp .gt 12, 3) := by decide +kernel
theorem d35_10 : decode (am_bytes 35) 10 = .ok (.iload_n 1, 1) := by decide +kernel
theorem d35_11 : decode (am_bytes 35) 11 = .ok (.ifCond .lt 8, 3) := by decide +kernel
theorem d35_14 : decode (am_bytes 35) 14 = .ok (.iload_n 1, 1) := by decide +kernel
theorem d35_15 : decode (am_bytes 35) 15 = .ok (.iconst 3, 1) := by decide +kernel
theorem d35_16 : decode (am_bytes 35) 16 = .ok (.if_icmp .le 7, 3) := by decide +kernel
theorem d35_19 : decode (am_bytes 35) 19 = .ok (.iconst 1, 1) := by decide +kernel
theorem d35_20 : decode (am_bytes 35) 20 = .ok (.goto 4, 3) := by decide +kernel
theorem d35_23 : decode (am_bytes 35) 23 = .ok (.iconst 0, 1) := by decide +kernel
theorem d35_24 : decode (am_bytes 35) 24 = .ok (.ireturn, 1) := by decide +kernel
theorem d36_0 : decode (am_bytes 36) 0 = .ok (.aload_n 0, 1) := by decide +kernel
theorem d36_1 : decode (am_bytes 36) 1 = .ok (.getfield 17, 3) := by decide +kernel
theorem d36_4 : decode (am_bytes 36) 4 = .ok (.iload_n 1, 1) := by decide +kernel
theorem d36_5 : decode (am_bytes 36) 5 = .ok (.iaload, 1) := by decide +kernel
theorem d36_6 : decode (am_bytes 36) 6 = .ok (.aload_n 0, 1) := by decide +kernel
theorem d36_7 : decode (am_bytes 36) 7 = .ok (.getfield 48, 3) := by decide +kernel
theorem d36_10 : decode (am_bytes 36) 10 = .ok (.if_icmp .le 12, 3) := by decide +kernel
theorem d36_13 : decode (am_bytes 36) 13 = .ok (.aload_n 0, 1) := by decide +kernel
theorem d36_14 : decode (am_bytes 36) 14 = .ok (.getfield 17, 3) := by decide +kernel
theorem d36_17 : decode (am_bytes 36) 17 = .ok (.iload_n 1, 1) := by decide +kernel
theorem d36_18 : decode (am_bytes 36) 18 = .ok (.iaload, 1) := by decide +kernel
theorem d36_19 : decode (am_bytes 36) 19 = .ok (.goto 7, 3) := by decide +kernel
theorem d36_22 : decode (am_bytes 36) 22 = .ok (.aload_n 0, 1) := by decide +kernel
theorem d36_23 : decode (am_bytes 36) 23 = .ok (.getfield 48, 3) := by decide +kernel
theorem d36_26 : decode (am_bytes 36) 26 = .ok (.ireturn, 1) := by decide +kernel
theorem d37_0 : decode (am_bytes 37) 0 = .ok (.aload_n 0, 1) := by decide +kernel
theorem d37_1 : decode (am_bytes 37) 1 = .ok (.getfield 20, 3) := by decide +kernel
theorem d37_4 : decode (am_bytes 37) 4 = .ok (.iload_n 1, 1) := by decide +kernel
theorem d37_5 : decode (am_bytes 37) 5 = .ok (.baload, 1) := by decide +kernel
theorem d37_6 : decode (am_bytes 37) 6 = .ok (.ifCond .ne 20, 3) := by decide +kernel
theorem d37_9 : decode (am_bytes 37) 9 = .ok (.iload_n 2, 1) := by decide +kernel
theorem d37_10 : decode (am_bytes 37) 10 = .ok (.aload_n 0, 1) := by decide +kernel
theorem d37_11 : decode (am_bytes 37) 11 = .ok (.iload_n 1, 1) := by decide +kernel
theorem d37_12 : decode (am_bytes 37) 12 = .ok (.invokevirtual 51, 3) := by decide +kernel
theorem d37_15 : decode (am_bytes 37) 15 = .ok (.if_icmp .lt 11, 3) := by decide +kernel
theorem d37_18 : decode (am_bytes 37) 18 = .ok (.iload_n 2, 1) := by decide +kernel
theorem d37_19 : decode (am_bytes 37) 19 = .ok (.aload_n 0, 1) := by decide +kernel
theorem d37_20 : decode (am_bytes 37) 20 = .ok (.getfield 55, 3) := by decide +kernel
theorem d37_23 : decode (am_bytes 37) 23 = .ok (.if_icmp .le 7, 3) := by decide +kernel
theorem d37_26 : decode (am_bytes 37) 26 = .ok (.iconst 1, 1) := by decide +kernel
theorem d37_27 : decode (am_bytes 37) 27 = .ok (.goto 4, 3) := by decide +kernel
theorem d37_30 : decode (am_bytes 37) 30 = .ok (.iconst 0, 1) := by decide +kernel
theorem d37_31 : decode (am_bytes 37) 31 = .ok (.ireturn, 1) := by decide +kernel
theorem d38_0 : decode (am_bytes 38) 0 = .ok (.iload_n 1, 1) := by decide +kernel
theorem d38_1 : decode (am_bytes 38) 1 = .ok (.istore 4, 2) := by decide +kernel
theorem d38_3 : decode (am_bytes 38) 3 = .ok (.iload_n 2, 1) := by decide +kernel
theorem d38_4 : decode (am_bytes 38) 4 = .ok (.istore 5, 2) := by decide +kernel
theorem d38_6 : decode (am_bytes 38) 6 = .ok (.iload 4, 2) := by decide +kernel
theorem d38_8 : decode (am_bytes 38) 8 = .ok (.ifCond .lt 65, 3) := by decide +kernel
theorem d38_11 : decode (am_bytes 38) 11 = .ok (.aload_n 0, 1) := by decide +kernel
theorem d38_12 : decode (am_bytes 38) 12 = .ok (.getfield 24, 3) := by decide +kernel
theorem d38_15 : decode (am_bytes 38) 15 = .ok (.iload_n 3, 1) := by decide +kernel
theorem d38_16 : decode (am_bytes 38) 16 = .ok (.iaload, 1) := by decide +kernel
theorem d38_17 : decode (am_bytes 38) 17 = .ok (.iload 4, 2) := by decide +kernel
theorem d38_19 : decode (am_bytes 38) 19 = .ok (.if_icmp .ne 16, 3) := by decide +kernel
theorem d38_22 : decode (am_bytes 38) 22 = .ok (.aload_n 0, 1) := by decide +kernel
theorem d38_23 : decode (am_bytes 38) 23 = .ok (.getfield 27, 3) := by decide +kernel
theorem d38_26 : decode (am_bytes 38) 26 = .ok (.iload_n 3, 1) := by decide +kernel
theorem d38_27 : decode (am_bytes 38) 27 = .ok (.iaload, 1) := by decide +kernel
theorem d38_28 : decode (am_bytes 38) 28 = .ok (.iload 5, 2) := by decide +kernel
theorem d38_30 : decode (am_bytes 38) 30 = .ok (.if_icmp .gt 5, 3) := by decide +kernel
theorem d38_33 : decode (am_bytes 38) 33 = .ok (.iconst 1, 1) := by decide +kernel
theorem d38_34 : decode (am_bytes 38) 34 = .ok (.ireturn, 1) := by decide +kernel
theorem d38_35 : decode (am_bytes 38) 35 = .ok (.aload_n 0, 1) := by decide +kernel
theorem d38_36 : decode (am_bytes 38) 36 = .ok (.getfield 17, 3) := by decide +kernel
theorem d38_39 : decode (am_bytes 38) 39 = .ok (.iload 4, 2) := by decide +kernel
theorem d38_41 : decode (am_bytes 38) 41 = .ok (.iaload, 1) := by decide +kernel
theorem d38_42 : decode (am_bytes 38) 42 = .ok (.iload 5, 2) := by decide +kernel
theorem d38_44 : decode (am_bytes 38) 44 = .ok (.if_icmp .ge 13, 3) := by decide +kernel
theorem d38_47 : decode (am_bytes 38) 47 = .ok (.aload_n 0, 1) := by decide +kernel
theorem d38_48 : decode (am_bytes 38) 48 = .ok (.getfield 17, 3) := by decide +kernel
theorem d38_51 : decode (am_bytes 38) 51 = .ok (.iload 4, 2) := by decide +kernel
theorem d38_53 : decode (am_bytes 38) 53 = .ok (.iaload, 1) := by decide +kernel
theorem d38_54 : decode (am_bytes 38) 54 = .ok (.goto 5, 3) := by decide +kernel
theorem d38_57 : decode (am_bytes 38) 57 = .ok (.iload 5, 2) := by decide +kernel
theorem d38_59 : decode (am_bytes 38) 59 = .ok (.istore 5, 2) := by decide +kernel
theorem d38_61 : decode (am_bytes 38) 61 = .ok (.aload_n 0, 1) := by decide +kernel
theorem d38_62 : decode (am_bytes 38) 62 = .ok (.getfield 13, 3) := by decide +kernel
theorem d38_65 : decode (am_bytes 38) 65 = .ok (.iload 4, 2) := by decide +kernel
theorem d38_67 : decode (am_bytes 38) 67 = .ok (.iaload, 1) := by decide +kernel
theorem d38_68 : decode (am_bytes 38) 68 = .ok (.istore 4, 2) := by decide +kernel
theorem d38_70 : decode (am_bytes 38) 70 = .ok (.goto (-64), 3) := by decide +kernel
theorem d38_73 : decode (am_bytes 38) 73 = .ok (.iconst 0, 1) := by decide +kernel
theorem d38_74 : decode (am_bytes 38) 74 = .ok (.ireturn, 1) := by decide +kernel
theorem d39_0 : decode (am_bytes 39) 0 = .ok (.iconst (-1), 1) := by decide +kernel
theorem d39_1 : decode (am_bytes 39) 1 = .ok (.istore 4, 2) := by decide +kernel
theorem d39_3 : decode (am_bytes 39) 3 = .ok (.iconst 0, 1) := by decide +kernel
theorem d39_4 : decode (am_bytes 39) 4 = .ok (.istore 5, 2) := by decide +kernel
theorem d39_6 : decode (am_bytes 39) 6 = .ok (.iload 5, 2) := by decide +kernel
theorem d39_8 : decode (am_bytes 39) 8 = .ok (.aload_n 0, 1) := by decide +kernel
theorem d39_9 : decode (am_bytes 39) 9 = .ok (.getfield 58, 3) := by decide +kernel
theorem d39_12 : decode (am_bytes 39) 12 = .ok (.if_icmp .ge 35, 3) := by decide +kernel
theorem d39_15 : decode (am_bytes 39) 15 = .ok (.aload_n 0, 1) := by decide +kernel
theorem d39_16 : decode (am_bytes 39) 16 = .ok (.getfield 30, 3) := by decide +kernel
theorem d39_19 : decode (am_bytes 39) 19 = .ok (.iload 5, 2) := by decide +kernel
theorem d39_21 : decode (am_bytes 39) 21 = .ok (.iaload, 1) := by decide +kernel
theorem d39_22 : decode (am_bytes 39) 22 = .ok (.iload_n 3, 1) := by decide +kernel
theorem d39_23 : decode (am_bytes 39) 23 = .ok (.if_icmp .ne 18, 3) := by decide +kernel
theorem d39_26 : decode (am_bytes 39) 26 = .ok (.aload_n 0, 1) := by decide +kernel
theorem d39_27 : decode (am_bytes 39) 27 = .ok (.iload_n 1, 1) := by decide +kernel
theorem d39_28 : decode (am_bytes 39) 28 = .ok (.iload_n 2, 1) := by decide +kernel
theorem d39_29 : decode (am_bytes 39) 29 = .ok (.iload 5, 2) := by decide +kernel
theorem d39_31 : decode (am_bytes 39) 31 = .ok (.invokevirtual 61, 3) := by decide +kernel
theorem d39_34 : decode (am_bytes 39) 34 = .ok (.ifCond .eq 7, 3) := by decide +kernel
theorem d39_37 : decode (am_bytes 39) 37 = .ok (.iload 5, 2) := by decide +kernel
theorem d39_39 : decode (am_bytes 39) 39 = .ok (.istore 4, 2) := by decide +kernel
theorem d39_41 : decode (am_bytes 39) 41 = .ok (.iinc 5 1, 3) := by decide +kernel
theorem d39_44 : decode (am_bytes 39) 44 = .ok (.goto (-38), 3) := by decide +kernel
theorem d39_47 : decode (am_bytes 39) 47 = .ok (.iload 4, 2) := by decide +kernel
theorem d39_49 : decode (am_bytes 39) 49 = .ok (.ireturn, 1) := by decide +kernel
theorem d40_0 : decode (am_bytes 40) 0 = .ok (.iload_n 1, 1) := by decide +kernel
theorem d40_1 : decode (am_bytes 40) 1 = .ok (.ifCond .ge 7, 3) := by decide +kernel
theorem d40_4 : decode (am_bytes 40) 4 = .ok (.iconst 0, 1) := by decide +kernel
theorem d40_5 : decode (am_bytes 40) 5 = .ok (.goto 9, 3) := by decide +kernel
theorem d40_8 : decode (am_bytes 40) 8 = .ok (.aload_n 0, 1) := by decide +kernel
theorem d40_9 : decode (am_bytes 40) 9 = .ok (.getfield 33, 3) := by decide +kernel
theorem d40_12 : decode (am_bytes 40) 12 = .ok (.iload_n 1, 1) := by decide +kernel
theorem d40_13 : decode (am_bytes 40) 13 = .ok (.iaload, 1) := by decide +kernel
theorem d40_14 : decode (am_bytes 40) 14 = .ok (.ireturn, 1) := by decide +kernel
theorem d41_0 : decode (am_bytes 41) 0 = .ok (.iload_n 1, 1) := by decide +kernel
theorem d41_1 : decode (am_bytes 41) 1 = .ok (.ifCond .ge 7, 3) := by decide +kernel
theorem d41_4 : decode (am_bytes 41) 4 = .ok (.iconst 0, 1) := by decide +kernel
theorem d41_5 : decode (am_bytes 41) 5 = .ok (.goto 9, 3) := by decide +kernel
theorem d41_8 : decode (am_bytes 41) 8 = .ok (.aload_n 0, 1) := by decide +kernel
theorem d41_9 : decode (am_bytes 41) 9 = .ok (.getfield 36, 3) := by decide +kernel
theorem d41_12 : decode (am_bytes 41) 12 = .ok (.iload_n 1, 1) := by decide +kernel
theorem d41_13 : decode (am_bytes 41) 13 = .ok (.iaload, 1) := by decide +kernel
theorem d41_14 : decode (am_bytes 41) 14 = .ok (.ireturn, 1) := by decide +kernel
theorem d42_0 : decode (am_bytes 42) 0 = .ok (.aload_n 0, 1) := by decide +kernel
theorem d42_1 : decode (am_bytes 42) 1 = .ok (.iload_n 1, 1) := by decide +kernel
theorem d42_2 : decode (am_bytes 42) 2 = .ok (.invokevirtual 65, 3) := by decide +kernel
theorem d42_5 : decode (am_bytes 42) 5 = .ok (.aload_n 0, 1) := by decide +kernel
theorem d42_6 : decode (am_bytes 42) 6 = .ok (.iload_n 2, 1) := by decide +kernel
theorem d42_7 : decode (am_bytes 42) 7 = .ok (.invokevirtual 65, 3) := by decide +kernel
theorem d42_10 : decode (am_bytes 42) 10 = .ok (.if_icmp .ne 20, 3) := by decide +kernel
theorem d42_13 : decode (am_bytes 42) 13 = .ok (.aload_n 0, 1) := by decide +kernel
theorem d42_14 : decode (am_bytes 42) 14 = .ok (.iload_n 1, 1) := by decide +kernel
theorem d42_15 : decode (am_bytes 42) 15 = .ok (.invokevirtual 68, 3) := by decide +kernel
theorem d42_18 : decode (am_bytes 42) 18 = .ok (.aload_n 0, 1) := by decide +kernel
theorem d42_19 : decode (am_bytes 42) 19 = .ok (.iload_n 2, 1) := by decide +kernel
theorem d42_20 : decode (am_bytes 42) 20 = .ok (.invokevirtual 68, 3) := by decide +kernel
theorem d42_23 : decode (am_bytes 42) 23 = .ok (.if_icmp .ne 7, 3) := by decide +kernel
theorem d42_26 : decode (am_bytes 42) 26 = .ok (.iconst 1, 1) := by decide +kernel
theorem d42_27 : decode (am_bytes 42) 27 = .ok (.goto 4, 3) := by decide +kernel
theorem d42_30 : decode (am_bytes 42) 30 = .ok (.iconst 0, 1) := by decide +kernel
theorem d42_31 : decode (am_bytes 42) 31 = .ok (.ireturn, 1) := by decide +kernel
theorem d43_0 : decode (am_bytes 43) 0 = .ok (.aload_n 0, 1) := by decide +kernel
theorem d43_1 : decode (am_bytes 43) 1 = .ok (.getfield 27, 3) := by decide +kernel
theorem d43_4 : decode (am_bytes 43) 4 = .ok (.iload_n 2, 1) := by decide +kernel
theorem d43_5 : decode (am_bytes 43) 5 = .ok (.iaload, 1) := by decide +kernel
theorem d43_6 : decode (am_bytes 43) 6 = .ok (.aload_n 0, 1) := by decide +kernel
theorem d43_7 : decode (am_bytes 43) 7 = .ok (.iload_n 1, 1) := by decide +kernel
theorem d43_8 : decode (am_bytes 43) 8 = .ok (.invokevirtual 51, 3) := by decide +kernel
theorem d43_11 : decode (am_bytes 43) 11 = .ok (.if_icmp .le 12, 3) := by decide +kernel
theorem d43_14 : decode (am_bytes 43) 14 = .ok (.aload_n 0, 1) := by decide +kernel
theorem d43_15 : decode (am_bytes 43) 15 = .ok (.getfield 27, 3) := by decide +kernel
theorem d43_18 : decode (am_bytes 43) 18 = .ok (.iload_n 2, 1) := by decide +kernel
theorem d43_19 : decode (am_bytes 43) 19 = .ok (.iaload, 1) := by decide +kernel
theorem d43_20 : decode (am_bytes 43) 20 = .ok (.goto 8, 3) := by decide +kernel
theorem d43_23 : decode (am_bytes 43) 23 = .ok (.aload_n 0, 1) := by decide +kernel
theorem d43_24 : decode (am_bytes 43) 24 = .ok (.iload_n 1, 1) := by decide +kernel
theorem d43_25 : decode (am_bytes 43) 25 = .ok (.invokevirtual 51, 3) := by decide +kernel
theorem d43_28 : decode (am_bytes 43) 28 = .ok (.istore_n 3, 1) := by decide +kernel
theorem d43_29 : decode (am_bytes 43) 29 = .ok (.aload_n 0, 1) := by decide +kernel
theorem d43_30 : decode (am_bytes 43) 30 = .ok (.iload_n 1, 1) := by decide +kernel
theorem d43_31 : decode (am_bytes 43) 31 = .ok (.iload_n 3, 1) := by decide +kernel
theorem d43_32 : decode (am_bytes 43) 32 = .ok (.invokevirtual 71, 3) := by decide +kernel
theorem d43_35 : decode (am_bytes 43) 35 = .ok (.ifCond .ne 23, 3) := by decide +kernel
theorem d43_38 : decode (am_bytes 43) 38 = .ok (.aload_n 0, 1) := by decide +kernel
theorem d43_39 : decode (am_bytes 43) 39 = .ok (.iload_n 1, 1) := by decide +kernel
theorem d43_40 : decode (am_bytes 43) 40 = .ok (.iload_n 3, 1) := by decide +kernel
theorem d43_41 : decode (am_bytes 43) 41 = .ok (.aload_n 0, 1) := by decide +kernel
theorem d43_42 : decode (am_bytes 43) 42 = .ok (.getfield 30, 3) := by decide +kernel
theorem d43_45 : decode (am_bytes 43) 45 = .ok (.iload_n 2, 1) := by decide +kernel
theorem d43_46 : decode (am_bytes 43) 46 = .ok (.iaload, 1) := by decide +kernel
theorem d43_47 : decode (am_bytes 43) 47 = .ok (.invokevirtual 75, 3) := by decide +kernel
theorem d43_50 : decode (am_bytes 43) 50 = .ok (.iload_n 2, 1) := by decide +kernel
theorem d43_51 : decode (am_bytes 43) 51 = .ok (.if_icmp .ne 7, 3) := by decide +kernel
theorem d43_54 : decode (am_bytes 43) 54 = .ok (.iconst 1, 1) := by decide +kernel
theorem d43_55 : decode (am_bytes 43) 55 = .ok (.goto 4, 3) := by decide +kernel
theorem d43_58 : decode (am_bytes 43) 58 = .ok (.iconst 0, 1) := by decide +kernel
theorem d43_59 : decode (am_bytes 43) 59 = .ok (.ireturn, 1) := by decide +kernel
theorem d44_0 : decode (am_bytes 44) 0 = .ok (.aload_n 0, 1) := by decide +kernel
theorem d44_1 : decode (am_bytes 44) 1 = .ok (.aload_n 0, 1) := by decide +kernel
theorem d44_2 : decode (am_bytes 44) 2 = .ok (.iload_n 1, 1) := by decide +kernel
theorem d44_3 : decode (am_bytes 44) 3 = .ok (.invokevirtual 79, 3) := by decide +kernel
theorem d44_6 : decode (am_bytes 44) 6 = .ok (.ifCond .eq 7, 3) := by decide +kernel
theorem d44_9 : decode (am_bytes 44) 9 = .ok (.iconst 1, 1) := by decide +kernel
theorem d44_10 : decode (am_bytes 44) 10 = .ok (.goto 30, 3) := by decide +kernel
theorem d44_13 : decode (am_bytes 44) 13 = .ok (.aload_n 0, 1) := by decide +kernel
theorem d44_14 : decode (am_bytes 44) 14 = .ok (.iload_n 1, 1) := by decide +kernel
theorem d44_15 : decode (am_bytes 44) 15 = .ok (.iload_n 2, 1) := by decide +kernel
theorem d44_16 : decode (am_bytes 44) 16 = .ok (.invokevirtual 71, 3) := by decide +kernel
theorem d44_19 : decode (am_bytes 44) 19 = .ok (.ifCond .eq 7, 3) := by decide +kernel
theorem d44_22 : decode (am_bytes 44) 22 = .ok (.iconst 2, 1) := by decide +kernel
theorem d44_23 : decode (am_bytes 44) 23 = .ok (.goto 17, 3) := by decide +kernel
theorem d44_26 : decode (am_bytes 44) 26 = .ok (.aload_n 0, 1) := by decide +kernel
theorem d44_27 : decode (am_bytes 44) 27 = .ok (.getfield 7, 3) := by decide +kernel
theorem d44_30 : decode (am_bytes 44) 30 = .ok (.bipush 6, 2) := by decide +kernel
theorem d44_32 : decode (am_bytes 44) 32 = .ok (.if_icmp .ne 7, 3) := by decide +kernel
theorem d44_35 : decode (am_bytes 44) 35 = .ok (.iconst 3, 1) := by decide +kernel
theorem d44_36 : decode (am_bytes 44) 36 = .ok (.goto 4, 3) := by decide +kernel
