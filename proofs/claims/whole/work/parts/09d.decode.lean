/-! printed: each instruction -/
theorem d82_44 : decode (am_bytes 82) 44 = .ok (.aload_n 0, 1) := by decide +kernel
theorem d82_45 : decode (am_bytes 82) 45 = .ok (.getfield 15, 3) := by decide +kernel
theorem d82_48 : decode (am_bytes 82) 48 = .ok (.ireturn, 1) := by decide +kernel
theorem d83_0 : decode (am_bytes 83) 0 = .ok (.aload_n 0, 1) := by decide +kernel
theorem d83_1 : decode (am_bytes 83) 1 = .ok (.iconst 0, 1) := by decide +kernel
theorem d83_2 : decode (am_bytes 83) 2 = .ok (.putfield 15, 3) := by decide +kernel
theorem d83_5 : decode (am_bytes 83) 5 = .ok (.return_, 1) := by decide +kernel
theorem d84_0 : decode (am_bytes 84) 0 = .ok (.aload_n 0, 1) := by decide +kernel
theorem d84_1 : decode (am_bytes 84) 1 = .ok (.iconst 0, 1) := by decide +kernel
theorem d84_2 : decode (am_bytes 84) 2 = .ok (.putfield 19, 3) := by decide +kernel
theorem d84_5 : decode (am_bytes 84) 5 = .ok (.aload_n 0, 1) := by decide +kernel
theorem d84_6 : decode (am_bytes 84) 6 = .ok (.invokevirtual 29, 3) := by decide +kernel
theorem d84_9 : decode (am_bytes 84) 9 = .ok (.ifCond .ne 5, 3) := by decide +kernel
theorem d84_12 : decode (am_bytes 84) 12 = .ok (.iconst (-1), 1) := by decide +kernel
theorem d84_13 : decode (am_bytes 84) 13 = .ok (.ireturn, 1) := by decide +kernel
theorem d84_14 : decode (am_bytes 84) 14 = .ok (.iconst 0, 1) := by decide +kernel
theorem d84_15 : decode (am_bytes 84) 15 = .ok (.istore_n 2, 1) := by decide +kernel
theorem d84_16 : decode (am_bytes 84) 16 = .ok (.iload_n 2, 1) := by decide +kernel
theorem d84_17 : decode (am_bytes 84) 17 = .ok (.bipush 32, 2) := by decide +kernel
theorem d84_19 : decode (am_bytes 84) 19 = .ok (.if_icmp .ge 30, 3) := by decide +kernel
theorem d84_22 : decode (am_bytes 84) 22 = .ok (.aload_n 0, 1) := by decide +kernel
theorem d84_23 : decode (am_bytes 84) 23 = .ok (.getfield 19, 3) := by decide +kernel
theorem d84_26 : decode (am_bytes 84) 26 = .ok (.aload_n 0, 1) := by decide +kernel
theorem d84_27 : decode (am_bytes 84) 27 = .ok (.getfield 15, 3) := by decide +kernel
theorem d84_30 : decode (am_bytes 84) 30 = .ok (.if_icmp .ge 19, 3) := by decide +kernel
theorem d84_33 : decode (am_bytes 84) 33 = .ok (.aload_n 0, 1) := by decide +kernel
theorem d84_34 : decode (am_bytes 84) 34 = .ok (.aload_n 1, 1) := by decide +kernel
theorem d84_35 : decode (am_bytes 84) 35 = .ok (.invokevirtual 33, 3) := by decide +kernel
theorem d84_38 : decode (am_bytes 84) 38 = .ok (.ifCond .ne 5, 3) := by decide +kernel
theorem d84_41 : decode (am_bytes 84) 41 = .ok (.iconst (-1), 1) := by decide +kernel
theorem d84_42 : decode (am_bytes 84) 42 = .ok (.ireturn, 1) := by decide +kernel
theorem d84_43 : decode (am_bytes 84) 43 = .ok (.iinc 2 1, 3) := by decide +kernel
theorem d84_46 : decode (am_bytes 84) 46 = .ok (.goto (-30), 3) := by decide +kernel
theorem d84_49 : decode (am_bytes 84) 49 = .ok (.aload_n 0, 1) := by decide +kernel
theorem d84_50 : decode (am_bytes 84) 50 = .ok (.getfield 22, 3) := by decide +kernel
theorem d84_53 : decode (am_bytes 84) 53 = .ok (.ireturn, 1) := by decide +kernel
theorem d85_0 : decode (am_bytes 85) 0 = .ok (.aload_n 0, 1) := by decide +kernel
theorem d85_1 : decode (am_bytes 85) 1 = .ok (.invokevirtual 37, 3) := by decide +kernel
theorem d85_4 : decode (am_bytes 85) 4 = .ok (.istore_n 1, 1) := by decide +kernel
theorem d85_5 : decode (am_bytes 85) 5 = .ok (.iload_n 1, 1) := by decide +kernel
theorem d85_6 : decode (am_bytes 85) 6 = .ok (.bipush 42, 2) := by decide +kernel
theorem d85_8 : decode (am_bytes 85) 8 = .ok (.if_icmp .ne 12, 3) := by decide +kernel
theorem d85_11 : decode (am_bytes 85) 11 = .ok (.aload_n 0, 1) := by decide +kernel
theorem d85_12 : decode (am_bytes 85) 12 = .ok (.sipush 4095, 3) := by decide +kernel
theorem d85_15 : decode (am_bytes 85) 15 = .ok (.putfield 22, 3) := by decide +kernel
theorem d85_18 : decode (am_bytes 85) 18 = .ok (.iconst 1, 1) := by decide +kernel
theorem d85_19 : decode (am_bytes 85) 19 = .ok (.ireturn, 1) := by decide +kernel
theorem d85_20 : decode (am_bytes 85) 20 = .ok (.iload_n 1, 1) := by decide +kernel
theorem d85_21 : decode (am_bytes 85) 21 = .ok (.bipush 97, 2) := by decide +kernel
theorem d85_23 : decode (am_bytes 85) 23 = .ok (.isub, 1) := by decide +kernel
theorem d85_24 : decode (am_bytes 85) 24 = .ok (.invokestatic 41, 3) := by decide +kernel
theorem d85_27 : decode (am_bytes 85) 27 = .ok (.ifCond .ne 5, 3) := by decide +kernel
theorem d85_30 : decode (am_bytes 85) 30 = .ok (.iconst 0, 1) := by decide +kernel
theorem d85_31 : decode (am_bytes 85) 31 = .ok (.ireturn, 1) := by decide +kernel
theorem d85_32 : decode (am_bytes 85) 32 = .ok (.aload_n 0, 1) := by decide +kernel
theorem d85_33 : decode (am_bytes 85) 33 = .ok (.iconst 1, 1) := by decide +kernel
theorem d85_34 : decode (am_bytes 85) 34 = .ok (.iload_n 1, 1) := by decide +kernel
theorem d85_35 : decode (am_bytes 85) 35 = .ok (.bipush 97, 2) := by decide +kernel
theorem d85_37 : decode (am_bytes 85) 37 = .ok (.isub, 1) := by decide +kernel
theorem d85_38 : decode (am_bytes 85) 38 = .ok (.ishl, 1) := by decide +kernel
theorem d85_39 : decode (am_bytes 85) 39 = .ok (.putfield 22, 3) := by decide +kernel
theorem d85_42 : decode (am_bytes 85) 42 = .ok (.iconst 1, 1) := by decide +kernel
theorem d85_43 : decode (am_bytes 85) 43 = .ok (.ireturn, 1) := by decide +kernel
theorem d86_0 : decode (am_bytes 86) 0 = .ok (.aload_n 0, 1) := by decide +kernel
theorem d86_1 : decode (am_bytes 86) 1 = .ok (.invokevirtual 37, 3) := by decide +kernel
theorem d86_4 : decode (am_bytes 86) 4 = .ok (.istore_n 2, 1) := by decide +kernel
theorem d86_5 : decode (am_bytes 86) 5 = .ok (.aload_n 0, 1) := by decide +kernel
theorem d86_6 : decode (am_bytes 86) 6 = .ok (.invokevirtual 37, 3) := by decide +kernel
theorem d86_9 : decode (am_bytes 86) 9 = .ok (.bipush 48, 2) := by decide +kernel
theorem d86_11 : decode (am_bytes 86) 11 = .ok (.isub, 1) := by decide +kernel
theorem d86_12 : decode (am_bytes 86) 12 = .ok (.istore_n 3, 1) := by decide +kernel
theorem d86_13 : decode (am_bytes 86) 13 = .ok (.iload_n 3, 1) := by decide +kernel
theorem d86_14 : decode (am_bytes 86) 14 = .ok (.ifCond .lt 8, 3) := by decide +kernel
theorem d86_17 : decode (am_bytes 86) 17 = .ok (.iload_n 3, 1) := by decide +kernel
theorem d86_18 : decode (am_bytes 86) 18 = .ok (.iconst 4, 1) := by decide +kernel
theorem d86_19 : decode (am_bytes 86) 19 = .ok (.if_icmp .lt 5, 3) := by decide +kernel
theorem d86_22 : decode (am_bytes 86) 22 = .ok (.iconst 0, 1) := by decide +kernel
theorem d86_23 : decode (am_bytes 86) 23 = .ok (.ireturn, 1) := by decide +kernel
theorem d86_24 : decode (am_bytes 86) 24 = .ok (.iload_n 2, 1) := by decide +kernel
theorem d86_25 : decode (am_bytes 86) 25 = .ok (.bipush 46, 2) := by decide +kernel
theorem d86_27 : decode (am_bytes 86) 27 = .ok (.if_icmp .eq 9, 3) := by decide +kernel
theorem d86_30 : decode (am_bytes 86) 30 = .ok (.iload_n 2, 1) := by decide +kernel
theorem d86_31 : decode (am_bytes 86) 31 = .ok (.bipush 94, 2) := by decide +kernel
theorem d86_33 : decode (am_bytes 86) 33 = .ok (.if_icmp .ne 22, 3) := by decide +kernel
theorem d86_36 : decode (am_bytes 86) 36 = .ok (.aload_n 0, 1) := by decide +kernel
theorem d86_37 : decode (am_bytes 86) 37 = .ok (.aload_n 1, 1) := by decide +kernel
theorem d86_38 : decode (am_bytes 86) 38 = .ok (.iload_n 2, 1) := by decide +kernel
theorem d86_39 : decode (am_bytes 86) 39 = .ok (.bipush 46, 2) := by decide +kernel
theorem d86_41 : decode (am_bytes 86) 41 = .ok (.if_icmp .ne 7, 3) := by decide +kernel
theorem d86_44 : decode (am_bytes 86) 44 = .ok (.iconst 1, 1) := by decide +kernel
theorem d86_45 : decode (am_bytes 86) 45 = .ok (.goto 4, 3) := by decide +kernel
theorem d86_48 : decode (am_bytes 86) 48 = .ok (.iconst 0, 1) := by decide +kernel
theorem d86_49 : decode (am_bytes 86) 49 = .ok (.iload_n 3, 1) := by decide +kernel
theorem d86_50 : decode (am_bytes 86) 50 = .ok (.invokevirtual 45, 3) := by decide +kernel
theorem d86_53 : decode (am_bytes 86) 53 = .ok (.iconst 1, 1) := by decide +kernel
theorem d86_54 : decode (am_bytes 86) 54 = .ok (.ireturn, 1) := by decide +kernel
theorem d86_55 : decode (am_bytes 86) 55 = .ok (.iload_n 2, 1) := by decide +kernel
theorem d86_56 : decode (am_bytes 86) 56 = .ok (.bipush 91, 2) := by decide +kernel
theorem d86_58 : decode (am_bytes 86) 58 = .ok (.if_icmp .ne 10, 3) := by decide +kernel
theorem d86_61 : decode (am_bytes 86) 61 = .ok (.aload_n 0, 1) := by decide +kernel
theorem d86_62 : decode (am_bytes 86) 62 = .ok (.aload_n 1, 1) := by decide +kernel
theorem d86_63 : decode (am_bytes 86) 63 = .ok (.iload_n 3, 1) := by decide +kernel
theorem d86_64 : decode (am_bytes 86) 64 = .ok (.invokevirtual 49, 3) := by decide +kernel
theorem d86_67 : decode (am_bytes 86) 67 = .ok (.ireturn, 1) := by decide +kernel
theorem d86_68 : decode (am_bytes 86) 68 = .ok (.iload_n 2, 1) := by decide +kernel
theorem d86_69 : decode (am_bytes 86) 69 = .ok (.bipush 63, 2) := by decide +kernel
theorem d86_71 : decode (am_bytes 86) 71 = .ok (.if_icmp .ne 18, 3) := by decide +kernel
theorem d86_74 : decode (am_bytes 86) 74 = .ok (.aload_n 0, 1) := by decide +kernel
theorem d86_75 : decode (am_bytes 86) 75 = .ok (.aload_n 1, 1) := by decide +kernel
theorem d86_76 : decode (am_bytes 86) 76 = .ok (.aload_n 0, 1) := by decide +kernel
theorem d86_77 : decode (am_bytes 86) 77 = .ok (.getfield 22, 3) := by decide +kernel
theorem d86_80 : decode (am_bytes 86) 80 = .ok (.iload_n 3, 1) := by decide +kernel
theorem d86_81 : decode (am_bytes 86) 81 = .ok (.invokevirtual 53, 3) := by decide +kernel
theorem d86_84 : decode (am_bytes 86) 84 = .ok (.putfield 22, 3) := by decide +kernel
theorem d86_87 : decode (am_bytes 86) 87 = .ok (.iconst 1, 1) := by decide +kernel
theorem d86_88 : decode (am_bytes 86) 88 = .ok (.ireturn, 1) := by decide +kernel
theorem d86_89 : decode (am_bytes 86) 89 = .ok (.iconst 0, 1) := by decide +kernel
theorem d86_90 : decode (am_bytes 86) 90 = .ok (.ireturn, 1) := by decide +kernel
theorem d87_0 : decode (am_bytes 87) 0 = .ok (.aload_n 0, 1) := by decide +kernel
theorem d87_1 : decode (am_bytes 87) 1 = .ok (.bipush 126, 2) := by decide +kernel
theorem d87_3 : decode (am_bytes 87) 3 = .ok (.invokevirtual 58, 3) := by decide +kernel
theorem d87_6 : decode (am_bytes 87) 6 = .ok (.ifCond .ne 15, 3) := by decide +kernel
theorem d87_9 : decode (am_bytes 87) 9 = .ok (.aload_n 0, 1) := by decide +kernel
theorem d87_10 : decode (am_bytes 87) 10 = .ok (.aload_n 0, 1) := by decide +kernel
theorem d87_11 : decode (am_bytes 87) 11 = .ok (.aload_n 1, 1) := by decide +kernel
theorem d87_12 : decode (am_bytes 87) 12 = .ok (.iload_n 2, 1) := by decide +kernel
theorem d87_13 : decode (am_bytes 87) 13 = .ok (.iload_n 3, 1) := by decide +kernel
theorem d87_14 : decode (am_bytes 87) 14 = .ok (.invokevirtual 62, 3) := by decide +kernel
theorem d87_17 : decode (am_bytes 87) 17 = .ok (.putfield 22, 3) := by decide +kernel
theorem d87_20 : decode (am_bytes 87) 20 = .ok (.return_, 1) := by decide +kernel
theorem d87_21 : decode (am_bytes 87) 21 = .ok (.iconst 0, 1) := by decide +kernel
theorem d87_22 : decode (am_bytes 87) 22 = .ok (.istore 4, 2) := by decide +kernel
theorem d87_24 : decode (am_bytes 87) 24 = .ok (.iconst 0, 1) := by decide +kernel
theorem d87_25 : decode (am_bytes 87) 25 = .ok (.istore 5, 2) := by decide +kernel
theorem d87_27 : decode (am_bytes 87) 27 = .ok (.iload 5, 2) := by decide +kernel
theorem d87_29 : decode (am_bytes 87) 29 = .ok (.bipush 12, 2) := by decide +kernel
theorem d87_31 : decode (am_bytes 87) 31 = .ok (.if_icmp .ge 40, 3) := by decide +kernel
theorem d87_34 : decode (am_bytes 87) 34 = .ok (.aload_n 0, 1) := by decide +kernel
theorem d87_35 : decode (am_bytes 87) 35 = .ok (.getfield 22, 3) := by decide +kernel
theorem d87_38 : decode (am_bytes 87) 38 = .ok (.iload 4, 2) := by decide +kernel
theorem d87_40 : decode (am_bytes 87) 40 = .ok (.if_icmp .eq 31, 3) := by decide +kernel
theorem d87_43 : decode (am_bytes 87) 43 = .ok (.aload_n 0, 1) := by decide +kernel
theorem d87_44 : decode (am_bytes 87) 44 = .ok (.getfield 22, 3) := by decide +kernel
theorem d87_47 : decode (am_bytes 87) 47 = .ok (.istore 4, 2) := by decide +kernel
theorem d87_49 : decode (am_bytes 87) 49 = .ok (.aload_n 0, 1) := by decide +kernel
theorem d87_50 : decode (am_bytes 87) 50 = .ok (.dup, 1) := by decide +kernel
theorem d87_51 : decode (am_bytes 87) 51 = .ok (.getfield 22, 3) := by decide +kernel
theorem d87_54 : decode (am_bytes 87) 54 = .ok (.aload_n 0, 1) := by decide +kernel
theorem d87_55 : decode (am_bytes 87) 55 = .ok (.aload_n 1, 1) := by decide +kernel
theorem d87_56 : decode (am_bytes 87) 56 = .ok (.iload_n 2, 1) := by decide +kernel
theorem d87_57 : decode (am_bytes 87) 57 = .ok (.iload_n 3, 1) := by decide +kernel
theorem d87_58 : decode (am_bytes 87) 58 = .ok (.invokevirtual 62, 3) := by decide +kernel
theorem d87_61 : decode (am_bytes 87) 61 = .ok (.ior, 1) := by decide +kernel
theorem d87_62 : decode (am_bytes 87) 62 = .ok (.putfield 22, 3) := by decide +kernel
theorem d87_65 : decode (am_bytes 87) 65 = .ok (.iinc 5 1, 3) := by decide +kernel
theorem d87_68 : decode (am_bytes 87) 68 = .ok (.goto (-41), 3) := by decide +kernel
theorem d87_71 : decode (am_bytes 87) 71 = .ok (.return_, 1) := by decide +kernel
theorem d88_0 : decode (am_bytes 88) 0 = .ok (.iload_n 2, 1) := by decide +kernel
theorem d88_1 : decode (am_bytes 88) 1 = .ok (.ifCond .eq 15, 3) := by decide +kernel
theorem d88_4 : decode (am_bytes 88) 4 = .ok (.aload_n 1, 1) := by decide +kernel
theorem d88_5 : decode (am_bytes 88) 5 = .ok (.aload_n 0, 1) := by decide +kernel
theorem d88_6 : decode (am_bytes 88) 6 = .ok (.getfield 22, 3) := by decide +kernel
theorem d88_9 : decode (am_bytes 88) 9 = .ok (.iload_n 3, 1) := by decide +kernel
theorem d88_10 : decode (am_bytes 88) 10 = .ok (.invokevirtual 66, 3) := by decide +kernel
theorem d88_13 : decode (am_bytes 88) 13 = .ok (.goto 12, 3) := by decide +kernel
theorem d88_16 : decode (am_bytes 88) 16 = .ok (.aload_n 1, 1) := by decide +kernel
theorem d88_17 : decode (am_bytes 88) 17 = .ok (.aload_n 0, 1) := by decide +kernel
theorem d88_18 : decode (am_bytes 88) 18 = .ok (.getfield 22, 3) := by decide +kernel
theorem d88_21 : decode (am_bytes 88) 21 = .ok (.iload_n 3, 1) := by decide +kernel
theorem d88_22 : decode (am_bytes 88) 22 = .ok (.invokevirtual 69, 3) := by decide +kernel
theorem d88_25 : decode (am_bytes 88) 25 = .ok (.ireturn, 1) := by decide +kernel
theorem d89_0 : decode (am_bytes 89) 0 = .ok (.aload_n 0, 1) := by decide +kernel
theorem d89_1 : decode (am_bytes 89) 1 = .ok (.invokevirtual 37, 3) := by decide +kernel
theorem d89_4 : decode (am_bytes 89) 4 = .ok (.istore_n 3, 1) := by decide +kernel
theorem d89_5 : decode (am_bytes 89) 5 = .ok (.iload_n 3, 1) := by decide +kernel
theorem d89_6 : decode (am_bytes 89) 6 = .ok (.bipush 60, 2) := by decide +kernel
theorem d89_8 : decode (am_bytes 89) 8 = .ok (.if_icmp .eq 17, 3) := by decide +kernel
theorem d89_11 : decode (am_bytes 89) 11 = .ok (.iload_n 3, 1) := by decide +kernel
theorem d89_12 : decode (am_bytes 89) 12 = .ok (.bipush 61, 2) := by decide +kernel
theorem d89_14 : decode (am_bytes 89) 14 = .ok (.if_icmp .eq 11, 3) := by decide +kernel
theorem d89_17 : decode (am_bytes 89) 17 = .ok (.iload_n 3, 1) := by decide +kernel
theorem d89_18 : decode (am_bytes 89) 18 = .ok (.bipush 62, 2) := by decide +kernel
theorem d89_20 : decode (am_bytes 89) 20 = .ok (.if_icmp .eq 5, 3) := by decide +kernel
theorem d89_23 : decode (am_bytes 89) 23 = .ok (.iconst 0, 1) := by decide +kernel
theorem d89_24 : decode (am_bytes 89) 24 = .ok (.ireturn, 1) := by decide +kernel
theorem d89_25 : decode (am_bytes 89) 25 = .ok (.aload_n 0, 1) := by decide +kernel
theorem d89_26 : decode (am_bytes 89) 26 = .ok (.invokevirtual 72, 3) := by decide +kernel
theorem d89_29 : decode (am_bytes 89) 29 = .ok (.istore 4, 2) := by decide +kernel
theorem d89_31 : decode (am_bytes 89) 31 = .ok (.iload 4, 2) := by decide +kernel
theorem d89_33 : decode (am_bytes 89) 33 = .ok (.sipush 10000, 3) := by decide +kernel
theorem d89_36 : decode (am_bytes 89) 36 = .ok (.if_icmp .eq 12, 3) := by decide +kernel
theorem d89_39 : decode (am_bytes 89) 39 = .ok (.aload_n 0, 1) := by decide +kernel
theorem d89_40 : decode (am_bytes 89) 40 = .ok (.bipush 93, 2) := by decide +kernel
theorem d89_42 : decode (am_bytes 89) 42 = .ok (.invokevirtual 58, 3) := by decide +kernel
theorem d89_45 : decode (am_bytes 89) 45 = .ok (.ifCond .ne 5, 3) := by decide +kernel
theorem d89_48 : decode (am_bytes 89) 48 = .ok (.iconst 0, 1) := by decide +kernel
theorem d89_49 : decode (am_bytes 89) 49 = .ok (.ireturn, 1) := by decide +kernel
theorem d89_50 : decode (am_bytes 89) 50 = .ok (.aload_n 0, 1) := by decide +kernel
theorem d89_51 : decode (am_bytes 89) 51 = .ok (.aload_n 1, 1) := by decide +kernel
theorem d89_52 : decode (am_bytes 89) 52 = .ok (.aload_n 0, 1) := by decide +kernel
theorem d89_53 : decode (am_bytes 89) 53 = .ok (.getfield 22, 3) := by decide +kernel
theorem d89_56 : decode (am_bytes 89) 56 = .ok (.iload_n 2, 1) := by decide +kernel
theorem d89_57 : decode (am_bytes 89) 57 = .ok (.iload_n 3, 1) := by decide +kernel
theorem d89_58 : decode (am_bytes 89) 58 = .ok (.iload 4, 2) := by decide +kernel
theorem d89_60 : decode (am_bytes 89) 60 = .ok (.invokevirtual 76, 3) := by decide +kernel
theorem d89_63 : decode (am_bytes 89) 63 = .ok (.putfield 22, 3) := by decide +kernel
theorem d89_66 : decode (am_bytes 89) 66 = .ok (.iconst 1, 1) := by decide +kernel
theorem d89_67 : decode (am_bytes 89) 67 = .ok (.ireturn, 1) := by decide +kernel
theorem d90_0 : decode (am_bytes 90) 0 = .ok (.aload_n 0, 1) := by decide +kernel
theorem d90_1 : decode (am_bytes 90) 1 = .ok (.bipush 45, 2) := by decide +kernel
theorem d90_3 : decode (am_bytes 90) 3 = .ok (.invokevirtual 58, 3) := by decide +kernel
theorem d90_6 : decode (am_bytes 90) 6 = .ok (.istore_n 1, 1) := by decide +kernel
theorem d90_7 : decode (am_bytes 90) 7 = .ok (.iconst 0, 1) := by decide +kernel
theorem d90_8 : decode (am_bytes 90) 8 = .ok (.istore_n 2, 1) := by decide +kernel
theorem d90_9 : decode (am_bytes 90) 9 = .ok (.iconst 0, 1) := by decide +kernel
theorem d90_10 : decode (am_bytes 90) 10 = .ok (.istore_n 3, 1) := by decide +kernel
theorem d90_11 : decode (am_bytes 90) 11 = .ok (.iload_n 3, 1) := by decide +kernel
theorem d90_12 : decode (am_bytes 90) 12 = .ok (.iconst 4, 1) := by decide +kernel
theorem d90_13 : decode (am_bytes 90) 13 = .ok (.if_icmp .ge 63, 3) := by decide +kernel
theorem d90_16 : decode (am_bytes 90) 16 = .ok (.aload_n 0, 1) := by decide +kernel
theorem d90_17 : decode (am_bytes 90) 17 = .ok (.getfield 19, 3) := by decide +kernel
theorem d90_20 : decode (am_bytes 90) 20 = .ok (.aload_n 0, 1) := by decide +kernel
theorem d90_21 : decode (am_bytes 90) 21 = .ok (.getfield 15, 3) := by decide +kernel
theorem d90_24 : decode (am_bytes 90) 24 = .ok (.if_icmp .ge 52, 3) := by decide +kernel
theorem d90_27 : decode (am_bytes 90) 27 = .ok (.aload_n 0, 1) := by decide +kernel
theorem d90_28 : decode (am_bytes 90) 28 = .ok (.getfield 9, 3) := by decide +kernel
theorem d90_31 : decode (am_bytes 90) 31 = .ok (.aload_n 0, 1) := by decide +kernel
theorem d90_32 : decode (am_bytes 90) 32 = .ok (.getfield 19, 3) := by decide +kernel
theorem d90_35 : decode (am_bytes 90) 35 = .ok (.caload, 1) := by decide +kernel
theorem d90_36 : decode (am_bytes 90) 36 = .ok (.invokestatic 80, 3) := by decide +kernel
theorem d90_39 : decode (am_bytes 90) 39 = .ok (.ifCond .eq 37, 3) := by decide +kernel
theorem d90_42 : decode (am_bytes 90) 42 = .ok (.bipush 10, 2) := by decide +kernel
theorem d90_44 : decode (am_bytes 90) 44 = .ok (.iload_n 2, 1) := by decide +kernel
theorem d90_45 : decode (am_bytes 90) 45 = .ok (.imul, 1) := by decide +kernel
theorem d90_46 : decode (am_bytes 90) 46 = .ok (.aload_n 0, 1) := by decide +kernel
theorem d90_47 : decode (am_bytes 90) 47 = .ok (.getfield 9, 3) := by decide +kernel
theorem d90_50 : decode (am_bytes 90) 50 = .ok (.aload_n 0, 1) := by decide +kernel
theorem d90_51 : decode (am_bytes 90) 51 = .ok (.getfield 19, 3) := by decide +kernel
theorem d90_54 : decode (am_bytes 90) 54 = .ok (.caload, 1) := by decide +kernel
theorem d90_55 : decode (am_bytes 90) 55 = .ok (.bipush 48, 2) := by decide +kernel
theorem d90_57 : decode (am_bytes 90) 57 = .ok (.isub, 1) := by decide +kernel
theorem d90_58 : decode (am_bytes 90) 58 = .ok (.iadd, 1) := by decide +kernel
theorem d90_59 : decode (am_bytes 90) 59 = .ok (.istore_n 2, 1) := by decide +kernel
theorem d90_60 : decode (am_bytes 90) 60 = .ok (.iinc 3 1, 3) := by decide +kernel
theorem d90_63 : decode (am_bytes 90) 63 = .ok (.aload_n 0, 1) := by decide +kernel
theorem d90_64 : decode (am_bytes 90) 64 = .ok (.dup, 1) := by decide +kernel
theorem d90_65 : decode (am_bytes 90) 65 = .ok (.getfield 19, 3) := by decide +kernel
theorem d90_68 : decode (am_bytes 90) 68 = .ok (.iconst 1, 1) := by decide +kernel
theorem d90_69 : decode (am_bytes 90) 69 = .ok (.iadd, 1) := by decide +kernel
theorem d90_70 : decode (am_bytes 90) 70 = .ok (.putfield 19, 3) := by decide +kernel
theorem d90_73 : decode (am_bytes 90) 73 = .ok (.goto (-62), 3) := by decide +kernel
theorem d90_76 : decode (am_bytes 90) 76 = .ok (.iload_n 3, 1) := by decide +kernel
theorem d90_77 : decode (am_bytes 90) 77 = .ok (.ifCond .ne 7, 3) := by decide +kernel
theorem d90_80 : decode (am_bytes 90) 80 = .ok (.sipush 10000, 3) := by decide +kernel
theorem d90_83 : decode (am_bytes 90) 83 = .ok (.ireturn, 1) := by decide +kernel
theorem d90_84 : decode (am_bytes 90) 84 = .ok (.iload_n 1, 1) := by decide +kernel
theorem d90_85 : decode (am_bytes 90) 85 = .ok (.ifCond .eq 8, 3) := by decide +kernel
theorem d90_88 : decode (am_bytes 90) 88 = .ok (.iload_n 2, 1) := by decide +kernel
theorem d90_89 : decode (am_bytes 90) 89 = .ok (.ineg, 1) := by decide +kernel
theorem d90_90 : decode (am_bytes 90) 90 = .ok (.goto 4, 3) := by decide +kernel
theorem d90_93 : decode (am_bytes 90) 93 = .ok (.iload_n 2, 1) := by decide +kernel
theorem d90_94 : decode (am_bytes 90) 94 = .ok (.ireturn, 1) := by decide +kernel
theorem d91_0 : decode (am_bytes 91) 0 = .ok (.aload_n 0, 1) := by decide +kernel
theorem d91_1 : decode (am_bytes 91) 1 = .ok (.getfield 19, 3) := by decide +kernel
theorem d91_4 : decode (am_bytes 91) 4 = .ok (.aload_n 0, 1) := by decide +kernel
theorem d91_5 : decode (am_bytes 91) 5 = .ok (.getfield 15, 3) := by decide +kernel
theorem d91_8 : decode (am_bytes 91) 8 = .ok (.if_icmp .lt 5, 3) := by decide +kernel
theorem d91_11 : decode (am_bytes 91) 11 = .ok (.iconst 0, 1) := by decide +kernel
theorem d91_12 : decode (am_bytes 91) 12 = .ok (.ireturn, 1) := by decide +kernel
theorem d91_13 : decode (am_bytes 91) 13 = .ok (.aload_n 0, 1) := by decide +kernel
theorem d91_14 : decode (am_bytes 91) 14 = .ok (.getfield 9, 3) := by decide +kernel
theorem d91_17 : decode (am_bytes 91) 17 = .ok (.aload_n 0, 1) := by decide +kernel
theorem d91_18 : decode (am_bytes 91) 18 = .ok (.getfield 19, 3) := by decide +kernel
theorem d91_21 : decode (am_bytes 91) 21 = .ok (.caload, 1) := by decide +kernel
theorem d91_22 : decode (am_bytes 91) 22 = .ok (.istore_n 1, 1) := by decide +kernel
theorem d91_23 : decode (am_bytes 91) 23 = .ok (.aload_n 0, 1) := by decide +kernel
theorem d91_24 : decode (am_bytes 91) 24 = .ok (.dup, 1) := by decide +kernel
theorem d91_25 : decode (am_bytes 91) 25 = .ok (.getfield 19, 3) := by decide +kernel
theorem d91_28 : decode (am_bytes 91) 28 = .ok (.iconst 1, 1) := by decide +kernel
theorem d91_29 : decode (am_bytes 91) 29 = .ok (.iadd, 1) := by decide +kernel
theorem d91_30 : decode (am_bytes 91) 30 = .ok (.putfield 19, 3) := by decide +kernel
theorem d91_33 : decode (am_bytes 91) 33 = .ok (.iload_n 1, 1) := by decide +kernel
theorem d91_34 : decode (am_bytes 91) 34 = .ok (.ireturn, 1) := by decide +kernel
theorem d92_0 : decode (am_bytes 92) 0 = .ok (.aload_n 0, 1) := by decide +kernel
theorem d92_1 : decode (am_bytes 92) 1 = .ok (.getfield 19, 3) := by decide +kernel
theorem d92_4 : decode (am_bytes 92) 4 = .ok (.aload_n 0, 1) := by decide +kernel
theorem d92_5 : decode (am_bytes 92) 5 = .ok (.getfield 15, 3) := by decide +kernel
theorem d92_8 : decode (am_bytes 92) 8 = .ok (.if_icmp .ge 16, 3) := by decide +kernel
theorem d92_11 : decode (am_bytes 92) 11 = .ok (.aload_n 0, 1) := by decide +kernel
theorem d92_12 : decode (am_bytes 92) 12 = .ok (.getfield 9, 3) := by decide +kernel
theorem d92_15 : decode (am_bytes 92) 15 = .ok (.aload_n 0, 1) := by decide +kernel
theorem d92_16 : decode (am_bytes 92) 16 = .ok (.getfield 19, 3) := by decide +kernel
theorem d92_19 : decode (am_bytes 92) 19 = .ok (.caload, 1) := by decide +kernel
theorem d92_20 : decode (am_bytes 92) 20 = .ok (.iload_n 1, 1) := by decide +kernel
theorem d92_21 : decode (am_bytes 92) 21 = .ok (.if_icmp .eq 5, 3) := by decide +kernel
theorem d92_24 : decode (am_bytes 92) 24 = .ok (.iconst 0, 1) := by decide +kernel
theorem d92_25 : decode (am_bytes 92) 25 = .ok (.ireturn, 1) := by decide +kernel
theorem d92_26 : decode (am_bytes 92) 26 = .ok (.aload_n 0, 1) := by decide +kernel
theorem d92_27 : decode (am_bytes 92) 27 = .ok (.dup, 1) := by decide +kernel
theorem d92_28 : decode (am_bytes 92) 28 = .ok (.getfield 19, 3) := by decide +kernel
theorem d92_31 : decode (am_bytes 92) 31 = .ok (.iconst 1, 1) := by decide +kernel
theorem d92_32 : decode (am_bytes 92) 32 = .ok (.iadd, 1) := by decide +kernel
theorem d92_33 : decode (am_bytes 92) 33 = .ok (.putfield 19, 3) := by decide +kernel
theorem d92_36 : decode (am_bytes 92) 36 = .ok (.iconst 1, 1) := by decide +kernel
theorem d92_37 : decode (am_bytes 92) 37 = .ok (.ireturn, 1) := by decide +kernel
theorem d93_0 : decode (am_bytes 93) 0 = .ok (.iload_n 0, 1) := by decide +kernel
theorem d93_1 : decode (am_bytes 93) 1 = .ok (.bipush 48, 2) := by decide +kernel
theorem d93_3 : decode (am_bytes 93) 3 = .ok (.if_icmp .lt 13, 3) := by decide +kernel
theorem d93_6 : decode (am_bytes 93) 6 = .ok (.iload_n 0, 1) := by decide +kernel
theorem d93_7 : decode (am_bytes 93) 7 = .ok (.bipush 57, 2) := by decide +kernel
theorem d93_9 : decode (am_bytes 93) 9 = .ok (.if_icmp .gt 7, 3) := by decide +kernel
theorem d93_12 : decode (am_bytes 93) 12 = .ok (.iconst 1, 1) := by decide +kernel
theorem d93_13 : decode (am_bytes 93) 13 = .ok (.goto 4, 3) := by decide +kernel
theorem d93_16 : decode (am_bytes 93) 16 = .ok (.iconst 0, 1) := by decide +kernel
theorem d93_17 : decode (am_bytes 93) 17 = .ok (.ireturn, 1) := by decide +kernel
theorem d94_0 : decode (am_bytes 94) 0 = .ok (.iload_n 0, 1) := by decide +kernel
theorem d94_1 : decode (am_bytes 94) 1 = .ok (.iload_n 1, 1) := by decide +kernel
theorem d94_2 : decode (am_bytes 94) 2 = .ok (.iushr, 1) := by decide +kernel
theorem d94_3 : decode (am_bytes 94) 3 = .ok (.sipush 255, 3) := by decide +kernel
theorem d94_6 : decode (am_bytes 94) 6 = .ok (.iand, 1) := by decide +kernel
theorem d94_7 : decode (am_bytes 94) 7 = .ok (.ireturn, 1) := by decide +kernel
theorem d95_0 : decode (am_bytes 95) 0 = .ok (.aload_n 0, 1) := by decide +kernel
theorem d95_1 : decode (am_bytes 95) 1 = .ok (.getfield 9, 3) := by decide +kernel
theorem d95_4 : decode (am_bytes 95) 4 = .ok (.iconst 0, 1) := by decide +kernel
theorem d95_5 : decode (am_bytes 95) 5 = .ok (.invokestatic 21, 3) := by decide +kernel
theorem d95_8 : decode (am_bytes 95) 8 = .ok (.aload_n 0, 1) := by decide +kernel
theorem d95_9 : decode (am_bytes 95) 9 = .ok (.getfield 15, 3) := by decide +kernel
theorem d95_12 : decode (am_bytes 95) 12 = .ok (.iconst 0, 1) := by decide +kernel
theorem d95_13 : decode (am_bytes 95) 13 = .ok (.invokestatic 21, 3) := by decide +kernel
theorem d95_16 : decode (am_bytes 95) 16 = .ok (.aload_n 0, 1) := by decide +kernel
theorem d95_17 : decode (am_bytes 95) 17 = .ok (.getfield 18, 3) := by decide +kernel
theorem d95_20 : decode (am_bytes 95) 20 = .ok (.iconst (-1), 1) := by decide +kernel
theorem d95_21 : decode (am_bytes 95) 21 = .ok (.invokestatic 21, 3) := by decide +kernel
theorem d95_24 : decode (am_bytes 95) 24 = .ok (.return_, 1) := by decide +kernel
theorem d96_0 : decode (am_bytes 96) 0 = .ok (.aload_n 0, 1) := by decide +kernel
theorem d96_1 : decode (am_bytes 96) 1 = .ok (.getfield 9, 3) := by decide +kernel
theorem d96_4 : decode (am_bytes 96) 4 = .ok (.iload_n 2, 1) := by decide +kernel
theorem d96_5 : decode (am_bytes 96) 5 = .ok (.iaload, 1) := by decide +kernel
theorem d96_6 : decode (am_bytes 96) 6 = .ok (.aload_n 1, 1) := by decide +kernel
theorem d96_7 : decode (am_bytes 96) 7 = .ok (.getfield 9, 3) := by decide +kernel
theorem d96_10 : decode (am_bytes 96) 10 = .ok (.iload_n 2, 1) := by decide +kernel
theorem d96_11 : decode (am_bytes 96) 11 = .ok (.iaload, 1) := by decide +kernel
theorem d96_12 : decode (am_bytes 96) 12 = .ok (.if_icmp .ne 22, 3) := by decide +kernel
theorem d96_15 : decode (am_bytes 96) 15 = .ok (.aload_n 0, 1) := by decide +kernel
theorem d96_16 : decode (am_bytes 96) 16 = .ok (.getfield 15, 3) := by decide +kernel
theorem d96_19 : decode (am_bytes 96) 19 = .ok (.iload_n 2, 1) := by decide +kernel
theorem d96_20 : decode (am_bytes 96) 20 = .ok (.iaload, 1) := by decide +kernel
theorem d96_21 : decode (am_bytes 96) 21 = .ok (.aload_n 1, 1) := by decide +kernel
theorem d96_22 : decode (am_bytes 96) 22 = .ok (.getfield 15, 3) := by decide +kernel
theorem d96_25 : decode (am_bytes 96) 25 = .ok (.iload_n 2, 1) := by decide +kernel
theorem d96_26 : decode (am_bytes 96) 26 = .ok (.iaload, 1) := by decide +kernel
theorem d96_27 : decode (am_bytes 96) 27 = .ok (.if_icmp .ne 7, 3) := by decide +kernel
theorem d96_30 : decode (am_bytes 96) 30 = .ok (.iconst 1, 1) := by decide +kernel
theorem d96_31 : decode (am_bytes 96) 31 = .ok (.goto 4, 3) := by decide +kernel
theorem d96_34 : decode (am_bytes 96) 34 = .ok (.iconst 0, 1) := by decide +kernel
theorem d96_35 : decode (am_bytes 96) 35 = .ok (.ireturn, 1) := by decide +kernel
theorem d97_0 : decode (am_bytes 97) 0 = .ok (.iconst 0, 1) := by decide +kernel
theorem d97_1 : decode (am_bytes 97) 1 = .ok (.istore_n 3, 1) := by decide +kernel
theorem d97_2 : decode (am_bytes 97) 2 = .ok (.iconst 0, 1) := by decide +kernel
theorem d97_3 : decode (am_bytes 97) 3 = .ok (.istore 4, 2) := by decide +kernel
theorem d97_5 : decode (am_bytes 97) 5 = .ok (.iload 4, 2) := by decide +kernel
theorem d97_7 : decode (am_bytes 97) 7 = .ok (.bipush 12, 2) := by decide +kernel
theorem d97_9 : decode (am_bytes 97) 9 = .ok (.if_icmp .ge 31, 3) := by decide +kernel
theorem d97_12 : decode (am_bytes 97) 12 = .ok (.iload 4, 2) := by decide +kernel
theorem d97_14 : decode (am_bytes 97) 14 = .ok (.iload_n 1, 1) := by decide +kernel
theorem d97_15 : decode (am_bytes 97) 15 = .ok (.invokestatic 27, 3) := by decide +kernel
theorem d97_18 : decode (am_bytes 97) 18 = .ok (.ifCond .eq 16, 3) := by decide +kernel
theorem d97_21 : decode (am_bytes 97) 21 = .ok (.iload_n 3, 1) := by decide +kernel
theorem d97_22 : decode (am_bytes 97) 22 = .ok (.aload_n 0, 1) := by decide +kernel
theorem d97_23 : decode (am_bytes 97) 23 = .ok (.iload 4, 2) := by decide +kernel
theorem d97_25 : decode (am_bytes 97) 25 = .ok (.iload_n 2, 1) := by decide +kernel
theorem d97_26 : decode (am_bytes 97) 26 = .ok (.invokestatic 31, 3) := by decide +kernel
theorem d97_29 : decode (am_bytes 97) 29 = .ok (.invokevirtual 35, 3) := by decide +kernel
theorem d97_32 : decode (am_bytes 97) 32 = .ok (.ior, 1) := by decide +kernel
theorem d97_33 : decode (am_bytes 97) 33 = .ok (.istore_n 3, 1) := by decide +kernel
theorem d97_34 : decode (am_bytes 97) 34 = .ok (.iinc 4 1, 3) := by decide +kernel
theorem d97_37 : decode (am_bytes 97) 37 = .ok (.goto (-32), 3) := by decide +kernel
theorem d97_40 : decode (am_bytes 97) 40 = .ok (.iload_n 3, 1) := by decide +kernel
theorem d97_41 : decode (am_bytes 97) 41 = .ok (.ireturn, 1) := by decide +kernel
theorem d98_0 : decode (am_bytes 98) 0 = .ok (.iconst 0, 1) := by decide +kernel
theorem d98_1 : decode (am_bytes 98) 1 = .ok (.istore_n 3, 1) := by decide +kernel
theorem d98_2 : decode (am_bytes 98) 2 = .ok (.iconst 0, 1) := by decide +kernel
theorem d98_3 : decode (am_bytes 98) 3 = .ok (.istore 4, 2) := by decide +kernel
theorem d98_5 : decode (am_bytes 98) 5 = .ok (.iload 4, 2) := by decide +kernel
theorem d98_7 : decode (am_bytes 98) 7 = .ok (.bipush 12, 2) := by decide +kernel
theorem d98_9 : decode (am_bytes 98) 9 = .ok (.if_icmp .ge 31, 3) := by decide +kernel
theorem d98_12 : decode (am_bytes 98) 12 = .ok (.aload_n 0, 1) := by decide +kernel
theorem d98_13 : decode (am_bytes 98) 13 = .ok (.iload 4, 2) := by decide +kernel
theorem d98_15 : decode (am_bytes 98) 15 = .ok (.iload_n 2, 1) := by decide +kernel
theorem d98_16 : decode (am_bytes 98) 16 = .ok (.invokestatic 31, 3) := by decide +kernel
theorem d98_19 : decode (am_bytes 98) 19 = .ok (.invokevirtual 35, 3) := by decide +kernel
theorem d98_22 : decode (am_bytes 98) 22 = .ok (.iload_n 1, 1) := by decide +kernel
theorem d98_23 : decode (am_bytes 98) 23 = .ok (.iand, 1) := by decide +kernel
theorem d98_24 : decode (am_bytes 98) 24 = .ok (.ifCond .eq 10, 3) := by decide +kernel
theorem d98_27 : decode (am_bytes 98) 27 = .ok (.iload_n 3, 1) := by decide +kernel
theorem d98_28 : decode (am_bytes 98) 28 = .ok (.iconst 1, 1) := by decide +kernel
theorem d98_29 : decode (am_bytes 98) 29 = .ok (.iload 4, 2) := by decide +kernel
theorem d98_31 : decode (am_bytes 98) 31 = .ok (.ishl, 1) := by decide +kernel
theorem d98_32 : decode (am_bytes 98) 32 = .ok (.ior, 1) := by decide +kernel
theorem d98_33 : decode (am_bytes 98) 33 = .ok (.istore_n 3, 1) := by decide +kernel
theorem d98_34 : decode (am_bytes 98) 34 = .ok (.iinc 4 1, 3) := by decide +kernel
theorem d98_37 : decode (am_bytes 98) 37 = .ok (.goto (-32), 3) := by decide +kernel
theorem d98_40 : decode (am_bytes 98) 40 = .ok (.iload_n 3, 1) := by decide +kernel
theorem d98_41 : decode (am_bytes 98) 41 = .ok (.ireturn, 1) := by decide +kernel
theorem d99_0 : decode (am_bytes 99) 0 = .ok (.iload_n 1, 1) := by decide +kernel
theorem d99_1 : decode (am_bytes 99) 1 = .ok (.istore_n 2, 1) := by decide +kernel
theorem d99_2 : decode (am_bytes 99) 2 = .ok (.iconst 0, 1) := by decide +kernel
theorem d99_3 : decode (am_bytes 99) 3 = .ok (.istore_n 3, 1) := by decide +kernel
theorem d99_4 : decode (am_bytes 99) 4 = .ok (.iconst 0, 1) := by decide +kernel
theorem d99_5 : decode (am_bytes 99) 5 = .ok (.istore 4, 2) := by decide +kernel
theorem d99_7 : decode (am_bytes 99) 7 = .ok (.iload 4, 2) := by decide +kernel
theorem d99_9 : decode (am_bytes 99) 9 = .ok (.bipush 12, 2) := by decide +kernel
theorem d99_11 : decode (am_bytes 99) 11 = .ok (.if_icmp .ge 41, 3) := by decide +kernel
theorem d99_14 : decode (am_bytes 99) 14 = .ok (.iload_n 2, 1) := by decide +kernel
theorem d99_15 : decode (am_bytes 99) 15 = .ok (.iload_n 3, 1) := by decide +kernel
theorem d99_16 : decode (am_bytes 99) 16 = .ok (.if_icmp .eq 36, 3) := by decide +kernel
theorem d99_19 : decode (am_bytes 99) 19 = .ok (.iload_n 2, 1) := by decide +kernel
theorem d99_20 : decode (am_bytes 99) 20 = .ok (.istore_n 3, 1) := by decide +kernel
theorem d99_21 : decode (am_bytes 99) 21 = .ok (.iconst 0, 1) := by decide +kernel
theorem d99_22 : decode (am_bytes 99) 22 = .ok (.istore 5, 2) := by decide +kernel
theorem d99_24 : decode (am_bytes 99) 24 = .ok (.iload 5, 2) := by decide +kernel
theorem d99_26 : decode (am_bytes 99) 26 = .ok (.iconst 4, 1) := by decide +kernel
theorem d99_27 : decode (am_bytes 99) 27 = .ok (.if_icmp .ge 19, 3) := by decide +kernel
theorem d99_30 : decode (am_bytes 99) 30 = .ok (.iload_n 2, 1) := by decide +kernel
theorem d99_31 : decode (am_bytes 99) 31 = .ok (.aload_n 0, 1) := by decide +kernel
theorem d99_32 : decode (am_bytes 99) 32 = .ok (.iload_n 2, 1) := by decide +kernel
theorem d99_33 : decode (am_bytes 99) 33 = .ok (.iload 5, 2) := by decide +kernel
theorem d99_35 : decode (am_bytes 99) 35 = .ok (.invokevirtual 39, 3) := by decide +kernel
theorem d99_38 : decode (am_bytes 99) 38 = .ok (.ior, 1) := by decide +kernel
theorem d99_39 : decode (am_bytes 99) 39 = .ok (.istore_n 2, 1) := by decide +kernel
theorem d99_40 : decode (am_bytes 99) 40 = .ok (.iinc 5 1, 3) := by decide +kernel
theorem d99_43 : decode (am_bytes 99) 43 = .ok (.goto (-19), 3) := by decide +kernel
theorem d99_46 : decode (am_bytes 99) 46 = .ok (.iinc 4 1, 3) := by decide +kernel
theorem d99_49 : decode (am_bytes 99) 49 = .ok (.goto (-42), 3) := by decide +kernel
theorem d99_52 : decode (am_bytes 99) 52 = .ok (.iload_n 2, 1) := by decide +kernel
theorem d99_53 : decode (am_bytes 99) 53 = .ok (.ireturn, 1) := by decide +kernel
theorem d100_0 : decode (am_bytes 100) 0 = .ok (.iconst 0, 1) := by decide +kernel
theorem d100_1 : decode (am_bytes 100) 1 = .ok (.istore 5, 2) := by decide +kernel
theorem d100_3 : decode (am_bytes 100) 3 = .ok (.iconst 0, 1) := by decide +kernel
theorem d100_4 : decode (am_bytes 100) 4 = .ok (.istore 6, 2) := by decide +kernel
theorem d100_6 : decode (am_bytes 100) 6 = .ok (.iload 6, 2) := by decide +kernel
theorem d100_8 : decode (am_bytes 100) 8 = .ok (.bipush 12, 2) := by decide +kernel
theorem d100_10 : decode (am_bytes 100) 10 = .ok (.if_icmp .ge 62, 3) := by decide +kernel
theorem d100_13 : decode (am_bytes 100) 13 = .ok (.iload 6, 2) := by decide +kernel
theorem d100_15 : decode (am_bytes 100) 15 = .ok (.iload_n 2, 1) := by decide +kernel
theorem d100_16 : decode (am_bytes 100) 16 = .ok (.invokestatic 31, 3) := by decide +kernel
theorem d100_19 : decode (am_bytes 100) 19 = .ok (.istore 7, 2) := by decide +kernel
theorem d100_21 : decode (am_bytes 100) 21 = .ok (.iload 6, 2) := by decide +kernel
theorem d100_23 : decode (am_bytes 100) 23 = .ok (.iload_n 1, 1) := by decide +kernel
theorem d100_24 : decode (am_bytes 100) 24 = .ok (.invokestatic 27, 3) := by decide +kernel
theorem d100_27 : decode (am_bytes 100) 27 = .ok (.ifCond .eq 39, 3) := by decide +kernel
theorem d100_30 : decode (am_bytes 100) 30 = .ok (.aload_n 0, 1) := by decide +kernel
theorem d100_31 : decode (am_bytes 100) 31 = .ok (.getfield 9, 3) := by decide +kernel
theorem d100_34 : decode (am_bytes 100) 34 = .ok (.iload 7, 2) := by decide +kernel
theorem d100_36 : decode (am_bytes 100) 36 = .ok (.iaload, 1) := by decide +kernel
theorem d100_37 : decode (am_bytes 100) 37 = .ok (.iconst 1, 1) := by decide +kernel
theorem d100_38 : decode (am_bytes 100) 38 = .ok (.if_icmp .ne 28, 3) := by decide +kernel
theorem d100_41 : decode (am_bytes 100) 41 = .ok (.aload_n 0, 1) := by decide +kernel
theorem d100_42 : decode (am_bytes 100) 42 = .ok (.getfield 15, 3) := by decide +kernel
theorem d100_45 : decode (am_bytes 100) 45 = .ok (.iload 7, 2) := by decide +kernel
theorem d100_47 : decode (am_bytes 100) 47 = .ok (.iaload, 1) := by decide +kernel
theorem d100_48 : decode (am_bytes 100) 48 = .ok (.iload_n 3, 1) := by decide +kernel
theorem d100_49 : decode (am_bytes 100) 49 = .ok (.iload 4, 2) := by decide +kernel
theorem d100_51 : decode (am_bytes 100) 51 = .ok (.invokestatic 42, 3) := by decide +kernel
theorem d100_54 : decode (am_bytes 100) 54 = .ok (.ifCond .eq 12, 3) := by decide +kernel
theorem d100_57 : decode (am_bytes 100) 57 = .ok (.iload 5, 2) := by decide +kernel
theorem d100_59 : decode (am_bytes 100) 59 = .ok (.iconst 1, 1) := by decide +kernel
theorem d100_60 : decode (am_bytes 100) 60 = .ok (.iload 6, 2) := by decide +kernel
theorem d100_62 : decode (am_bytes 100) 62 = .ok (.ishl, 1) := by decide +kernel
theorem d100_63 : decode (am_bytes 100) 63 = .ok (.ior, 1) := by decide +kernel
theorem d100_64 : decode (am_bytes 100) 64 = .ok (.istore 5, 2) := by decide +kernel
theorem d100_66 : decode (am_bytes 100) 66 = .ok (.iinc 6 1, 3) := by decide +kernel
theorem d100_69 : decode (am_bytes 100) 69 = .ok (.goto (-63), 3) := by decide +kernel
theorem d100_72 : decode (am_bytes 100) 72 = .ok (.iload 5, 2) := by decide +kernel
theorem d100_74 : decode (am_bytes 100) 74 = .ok (.ireturn, 1) := by decide +kernel
theorem d101_0 : decode (am_bytes 101) 0 = .ok (.iconst 0, 1) := by decide +kernel
theorem d101_1 : decode (am_bytes 101) 1 = .ok (.istore_n 3, 1) := by decide +kernel
theorem d101_2 : decode (am_bytes 101) 2 = .ok (.iconst 0, 1) := by decide +kernel
theorem d101_3 : decode (am_bytes 101) 3 = .ok (.istore 4, 2) := by decide +kernel
theorem d101_5 : decode (am_bytes 101) 5 = .ok (.iload 4, 2) := by decide +kernel
theorem d101_7 : decode (am_bytes 101) 7 = .ok (.bipush 12, 2) := by decide +kernel
theorem d101_9 : decode (am_bytes 101) 9 = .ok (.if_icmp .ge 39, 3) := by decide +kernel
theorem d101_12 : decode (am_bytes 101) 12 = .ok (.iload 4, 2) := by decide +kernel
theorem d101_14 : decode (am_bytes 101) 14 = .ok (.iload_n 1, 1) := by decide +kernel
theorem d101_15 : decode (am_bytes 101) 15 = .ok (.invokestatic 27, 3) := by decide +kernel
theorem d101_18 : decode (am_bytes 101) 18 = .ok (.ifCond .eq 24, 3) := by decide +kernel
theorem d101_21 : decode (am_bytes 101) 21 = .ok (.aload_n 0, 1) := by decide +kernel
theorem d101_22 : decode (am_bytes 101) 22 = .ok (.getfield 9, 3) := by decide +kernel
theorem d101_25 : decode (am_bytes 101) 25 = .ok (.iload 4, 2) := by decide +kernel
theorem d101_27 : decode (am_bytes 101) 27 = .ok (.iload_n 2, 1) := by decide +kernel
theorem d101_28 : decode (am_bytes 101) 28 = .ok (.invokestatic 31, 3) := by decide +kernel
theorem d101_31 : decode (am_bytes 101) 31 = .ok (.iaload, 1) := by decide +kernel
theorem d101_32 : decode (am_bytes 101) 32 = .ok (.ifCond .ne 10, 3) := by decide +kernel
theorem d101_35 : decode (am_bytes 101) 35 = .ok (.iload_n 3, 1) := by decide +kernel
theorem d101_36 : decode (am_bytes 101) 36 = .ok (.iconst 1, 1) := by decide +kernel
theorem d101_37 : decode (am_bytes 101) 37 = .ok (.iload 4, 2) := by decide +kernel
theorem d101_39 : decode (am_bytes 101) 39 = .ok (.ishl, 1) := by decide +kernel
theorem d101_40 : decode (am_bytes 101) 40 = .ok (.ior, 1) := by decide +kernel
theorem d101_41 : decode (am_bytes 101) 41 = .ok (.istore_n 3, 1) := by decide +kernel
theorem d101_42 : decode (am_bytes 101) 42 = .ok (.iinc 4 1, 3) := by decide +kernel
theorem d101_45 : decode (am_bytes 101) 45 = .ok (.goto (-40), 3) := by decide +kernel
theorem d101_48 : decode (am_bytes 101) 48 = .ok (.iload_n 3, 1) := by decide +kernel
theorem d101_49 : decode (am_bytes 101) 49 = .ok (.ireturn, 1) := by decide +kernel
theorem d102_0 : decode (am_bytes 102) 0 = .ok (.aload_n 0, 1) := by decide +kernel
theorem d102_1 : decode (am_bytes 102) 1 = .ok (.getfield 9, 3) := by decide +kernel
theorem d102_4 : decode (am_bytes 102) 4 = .ok (.iload_n 1, 1) := by decide +kernel
theorem d102_5 : decode (am_bytes 102) 5 = .ok (.iaload, 1) := by decide +kernel
theorem d102_6 : decode (am_bytes 102) 6 = .ok (.iconst 2, 1) := by decide +kernel
theorem d102_7 : decode (am_bytes 102) 7 = .ok (.if_icmp .ne 14, 3) := by decide +kernel
theorem d102_10 : decode (am_bytes 102) 10 = .ok (.iconst 1, 1) := by decide +kernel
theorem d102_11 : decode (am_bytes 102) 11 = .ok (.aload_n 0, 1) := by decide +kernel
theorem d102_12 : decode (am_bytes 102) 12 = .ok (.getfield 15, 3) := by decide +kernel
theorem d102_15 : decode (am_bytes 102) 15 = .ok (.iload_n 1, 1) := by decide +kernel
theorem d102_16 : decode (am_bytes 102) 16 = .ok (.iaload, 1) := by decide +kernel
theorem d102_17 : decode (am_bytes 102) 17 = .ok (.ishl, 1) := by decide +kernel
theorem d102_18 : decode (am_bytes 102) 18 = .ok (.goto 4, 3) := by decide +kernel
theorem d102_21 : decode (am_bytes 102) 21 = .ok (.iconst 0, 1) := by decide +kernel
theorem d102_22 : decode (am_bytes 102) 22 = .ok (.ireturn, 1) := by decide +kernel
theorem d103_0 : decode (am_bytes 103) 0 = .ok (.iload_n 1, 1) := by decide +kernel
theorem d103_1 : decode (am_bytes 103) 1 = .ok (.bipush 60, 2) := by decide +kernel
theorem d103_3 : decode (am_bytes 103) 3 = .ok (.if_icmp .ne 14, 3) := by decide +kernel
theorem d103_6 : decode (am_bytes 103) 6 = .ok (.iload_n 0, 1) := by decide +kernel
theorem d103_7 : decode (am_bytes 103) 7 = .ok (.iload_n 2, 1) := by decide +kernel
theorem d103_8 : decode (am_bytes 103) 8 = .ok (.if_icmp .ge 7, 3) := by decide +kernel
theorem d103_11 : decode (am_bytes 103) 11 = .ok (.iconst 1, 1) := by decide +kernel
theorem d103_12 : decode (am_bytes 103) 12 = .ok (.goto 4, 3) := by decide +kernel
theorem d103_15 : decode (am_bytes 103) 15 = .ok (.iconst 0, 1) := by decide +kernel
theorem d103_16 : decode (am_bytes 103) 16 = .ok (.ireturn, 1) := by decide +kernel
theorem d103_17 : decode (am_bytes 103) 17 = .ok (.iload_n 1, 1) := by decide +kernel
theorem d103_18 : decode (am_bytes 103) 18 = .ok (.bipush 62, 2) := by decide +kernel
theorem d103_20 : decode (am_bytes 103) 20 = .ok (.if_icmp .ne 16, 3) := by decide +kernel
theorem d103_23 : decode (am_bytes 103) 23 = .ok (.iload_n 0, 1) := by decide +kernel
theorem d103_24 : decode (am_bytes 103) 24 = .ok (.iload_n 2, 1) := by decide +kernel
theorem d103_25 : decode (am_bytes 103) 25 = .ok (.if_icmp .le 7, 3) := by decide +kernel
theorem d103_28 : decode (am_bytes 103) 28 = .ok (.iconst 1, 1) := by decide +kernel
theorem d103_29 : decode (am_bytes 103) 29 = .ok (.goto 17, 3) := by decide +kernel
theorem d103_32 : decode (am_bytes 103) 32 = .ok (.iconst 0, 1) := by decide +kernel
theorem d103_33 : decode (am_bytes 103) 33 = .ok (.goto 13, 3) := by decide +kernel
theorem d103_36 : decode (am_bytes 103) 36 = .ok (.iload_n 0, 1) := by decide +kernel
theorem d103_37 : decode (am_bytes 103) 37 = .ok (.iload_n 2, 1) := by decide +kernel
theorem d103_38 : decode (am_bytes 103) 38 = .ok (.if_icmp .ne 7, 3) := by decide +kernel
theorem d103_41 : decode (am_bytes 103) 41 = .ok (.iconst 1, 1) := by decide +kernel
theorem d103_42 : decode (am_bytes 103) 42 = .ok (.goto 4, 3) := by decide +kernel
theorem d103_45 : decode (am_bytes 103) 45 = .ok (.iconst 0, 1) := by decide +kernel
theorem d103_46 : decode (am_bytes 103) 46 = .ok (.ireturn, 1) := by decide +kernel
theorem d104_0 : decode (am_bytes 104) 0 = .ok (.iload_n 1, 1) := by decide +kernel
theorem d104_1 : decode (am_bytes 104) 1 = .ok (.iload_n 0, 1) := by decide +kernel
theorem d104_2 : decode (am_bytes 104) 2 = .ok (.ishr, 1) := by decide +kernel
theorem d104_3 : decode (am_bytes 104) 3 = .ok (.iconst 1, 1) := by decide +kernel
theorem d104_4 : decode (am_bytes 104) 4 = .ok (.iand, 1) := by decide +kernel
theorem d104_5 : decode (am_bytes 104) 5 = .ok (.iconst 1, 1) := by decide +kernel
theorem d104_6 : decode (am_bytes 104) 6 = .ok (.if_icmp .ne 7, 3) := by decide +kernel
theorem d104_9 : decode (am_bytes 104) 9 = .ok (.iconst 1, 1) := by decide +kernel
theorem d104_10 : decode (am_bytes 104) 10 = .ok (.goto 4, 3) := by decide +kernel
theorem d104_13 : decode (am_bytes 104) 13 = .ok (.iconst 0, 1) := by decide +kernel
theorem d104_14 : decode (am_bytes 104) 14 = .ok (.ireturn, 1) := by decide +kernel
theorem d105_0 : decode (am_bytes 105) 0 = .ok (.aload_n 0, 1) := by decide +kernel
theorem d105_1 : decode (am_bytes 105) 1 = .ok (.getfield 9, 3) := by decide +kernel
theorem d105_4 : decode (am_bytes 105) 4 = .ok (.aload_n 0, 1) := by decide +kernel
theorem d105_5 : decode (am_bytes 105) 5 = .ok (.getfield 31, 3) := by decide +kernel
theorem d105_8 : decode (am_bytes 105) 8 = .ok (.iload_n 1, 1) := by decide +kernel
theorem d105_9 : decode (am_bytes 105) 9 = .ok (.iastore, 1) := by decide +kernel
theorem d105_10 : decode (am_bytes 105) 10 = .ok (.aload_n 0, 1) := by decide +kernel
theorem d105_11 : decode (am_bytes 105) 11 = .ok (.getfield 15, 3) := by decide +kernel
theorem d105_14 : decode (am_bytes 105) 14 = .ok (.aload_n 0, 1) := by decide +kernel
theorem d105_15 : decode (am_bytes 105) 15 = .ok (.getfield 31, 3) := by decide +kernel
theorem d105_18 : decode (am_bytes 105) 18 = .ok (.iload_n 2, 1) := by decide +kernel
theorem d105_19 : decode (am_bytes 105) 19 = .ok (.iastore, 1) := by decide +kernel
theorem d105_20 : decode (am_bytes 105) 20 = .ok (.aload_n 0, 1) := by decide +kernel
theorem d105_21 : decode (am_bytes 105) 21 = .ok (.getfield 18, 3) := by decide +kernel
theorem d105_24 : decode (am_bytes 105) 24 = .ok (.aload_n 0, 1) := by decide +kernel
theorem d105_25 : decode (am_bytes 105) 25 = .ok (.getfield 31, 3) := by decide +kernel
theorem d105_28 : decode (am_bytes 105) 28 = .ok (.iload_n 3, 1) := by decide +kernel
theorem d105_29 : decode (am_bytes 105) 29 = .ok (.iastore, 1) := by decide +kernel
theorem d105_30 : decode (am_bytes 105) 30 = .ok (.aload_n 0, 1) := by decide +kernel
theorem d105_31 : decode (am_bytes 105) 31 = .ok (.getfield 21, 3) := by decide +kernel
theorem d105_34 : decode (am_bytes 105) 34 = .ok (.aload_n 0, 1) := by decide +kernel
theorem d105_35 : decode (am_bytes 105) 35 = .ok (.getfield 31, 3) := by decide +kernel
theorem d105_38 : decode (am_bytes 105) 38 = .ok (.iload 4, 2) := by decide +kernel
theorem d105_40 : decode (am_bytes 105) 40 = .ok (.iastore, 1) := by decide +kernel
theorem d105_41 : decode (am_bytes 105) 41 = .ok (.aload_n 0, 1) := by decide +kernel
theorem d105_42 : decode (am_bytes 105) 42 = .ok (.getfield 24, 3) := by decide +kernel
theorem d105_45 : decode (am_bytes 105) 45 = .ok (.aload_n 0, 1) := by decide +kernel
theorem d105_46 : decode (am_bytes 105) 46 = .ok (.getfield 31, 3) := by decide +kernel
theorem d105_49 : decode (am_bytes 105) 49 = .ok (.iload 5, 2) := by decide +kernel
theorem d105_51 : decode (am_bytes 105) 51 = .ok (.iastore, 1) := by decide +kernel
theorem d105_52 : decode (am_bytes 105) 52 = .ok (.aload_n 0, 1) := by decide +kernel
theorem d105_53 : decode (am_bytes 105) 53 = .ok (.dup, 1) := by decide +kernel
theorem d105_54 : decode (am_bytes 105) 54 = .ok (.getfield 31, 3) := by decide +kernel
theorem d105_57 : decode (am_bytes 105) 57 = .ok (.iconst 1, 1) := by decide +kernel
theorem d105_58 : decode (am_bytes 105) 58 = .ok (.iadd, 1) := by decide +kernel
theorem d105_59 : decode (am_bytes 105) 59 = .ok (.putfield 31, 3) := by decide +kernel
theorem d105_62 : decode (am_bytes 105) 62 = .ok (.return_, 1) := by decide +kernel
theorem d106_0 : decode (am_bytes 106) 0 = .ok (.iconst 0, 1) := by decide +kernel
theorem d106_1 : decode (am_bytes 106) 1 = .ok (.istore_n 2, 1) := by decide +kernel
theorem d106_2 : decode (am_bytes 106) 2 = .ok (.iconst 0, 1) := by decide +kernel
theorem d106_3 : decode (am_bytes 106) 3 = .ok (.istore_n 3, 1) := by decide +kernel
theorem d106_4 : decode (am_bytes 106) 4 = .ok (.iload_n 3, 1) := by decide +kernel
theorem d106_5 : decode (am_bytes 106) 5 = .ok (.aload_n 0, 1) := by decide +kernel
theorem d106_6 : decode (am_bytes 106) 6 = .ok (.getfield 31, 3) := by decide +kernel
theorem d106_9 : decode (am_bytes 106) 9 = .ok (.if_icmp .ge 22, 3) := by decide +kernel
theorem d106_12 : decode (am_bytes 106) 12 = .ok (.aload_n 0, 1) := by decide +kernel
theorem d106_13 : decode (am_bytes 106) 13 = .ok (.getfield 9, 3) := by decide +kernel
theorem d106_16 : decode (am_bytes 106) 16 = .ok (.iload_n 3, 1) := by decide +kernel
theorem d106_17 : decode (am_bytes 106) 17 = .ok (.iaload, 1) := by decide +kernel
theorem d106_18 : decode (am_bytes 106) 18 = .ok (.iload_n 1, 1) := by decide +kernel
theorem d106_19 : decode (am_bytes 106) 19 = .ok (.if_icmp .ne 6, 3) := by decide +kernel
theorem d106_22 : decode (am_bytes 106) 22 = .ok (.iinc 2 1, 3) := by decide +kernel
theorem d106_25 : decode (am_bytes 106) 25 = .ok (.iinc 3 1, 3) := by decide +kernel
theorem d106_28 : decode (am_bytes 106) 28 = .ok (.goto (-24), 3) := by decide +kernel
theorem d106_31 : decode (am_bytes 106) 31 = .ok (.iload_n 2, 1) := by decide +kernel
theorem d106_32 : decode (am_bytes 106) 32 = .ok (.ireturn, 1) := by decide +kernel
theorem d107_0 : decode (am_bytes 107) 0 = .ok (.aload_n 2, 1) := by decide +kernel
theorem d107_1 : decode (am_bytes 107) 1 = .ok (.invokevirtual 35, 3) := by decide +kernel
theorem d107_4 : decode (am_bytes 107) 4 = .ok (.iconst 0, 1) := by decide +kernel
theorem d107_5 : decode (am_bytes 107) 5 = .ok (.istore_n 3, 1) := by decide +kernel
theorem d107_6 : decode (am_bytes 107) 6 = .ok (.iload_n 3, 1) := by decide +kernel
theorem d107_7 : decode (am_bytes 107) 7 = .ok (.aload_n 0, 1) := by decide +kernel
theorem d107_8 : decode (am_bytes 107) 8 = .ok (.getfield 31, 3) := by decide +kernel
theorem d107_11 : decode (am_bytes 107) 11 = .ok (.if_icmp .ge 77, 3) := by decide +kernel
theorem d107_14 : decode (am_bytes 107) 14 = .ok (.aload_n 0, 1) := by decide +kernel
theorem d107_15 : decode (am_bytes 107) 15 = .ok (.getfield 15, 3) := by decide +kernel
theorem d107_18 : decode (am_bytes 107) 18 = .ok (.iload_n 3, 1) := by decide +kernel
theorem d107_19 : decode (am_bytes 107) 19 = .ok (.iaload, 1) := by decide +kernel
theorem d107_20 : decode (am_bytes 107) 20 = .ok (.aload_n 1, 1) := by decide +kernel
theorem d107_21 : decode (am_bytes 107) 21 = .ok (.aload_n 0, 1) := by decide +kernel
theorem d107_22 : decode (am_bytes 107) 22 = .ok (.getfield 9, 3) := by decide +kernel
theorem d107_25 : decode (am_bytes 107) 25 = .ok (.iload_n 3, 1) := by decide +kernel
theorem d107_26 : decode (am_bytes 107) 26 = .ok (.iaload, 1) := by decide +kernel
theorem d107_27 : decode (am_bytes 107) 27 = .ok (.iaload, 1) := by decide +kernel
theorem d107_28 : decode (am_bytes 107) 28 = .ok (.if_icmp .gt 54, 3) := by decide +kernel
theorem d107_31 : decode (am_bytes 107) 31 = .ok (.aload_n 2, 1) := by decide +kernel
theorem d107_32 : decode (am_bytes 107) 32 = .ok (.getfield 40, 3) := by decide +kernel
theorem d107_35 : decode (am_bytes 107) 35 = .ok (.aload_n 0, 1) := by decide +kernel
theorem d107_36 : decode (am_bytes 107) 36 = .ok (.getfield 18, 3) := by decide +kernel
theorem d107_39 : decode (am_bytes 107) 39 = .ok (.iload_n 3, 1) := by decide +kernel
theorem d107_40 : decode (am_bytes 107) 40 = .ok (.iaload, 1) := by decide +kernel
theorem d107_41 : decode (am_bytes 107) 41 = .ok (.aload_n 0, 1) := by decide +kernel
theorem d107_42 : decode (am_bytes 107) 42 = .ok (.getfield 21, 3) := by decide +kernel
theorem d107_45 : decode (am_bytes 107) 45 = .ok (.iload_n 3, 1) := by decide +kernel
theorem d107_46 : decode (am_bytes 107) 46 = .ok (.iaload, 1) := by decide +kernel
theorem d107_47 : decode (am_bytes 107) 47 = .ok (.iastore, 1) := by decide +kernel
theorem d107_48 : decode (am_bytes 107) 48 = .ok (.aload_n 2, 1) := by decide +kernel
theorem d107_49 : decode (am_bytes 107) 49 = .ok (.getfield 41, 3) := by decide +kernel
theorem d107_52 : decode (am_bytes 107) 52 = .ok (.aload_n 0, 1) := by decide +kernel
theorem d107_53 : decode (am_bytes 107) 53 = .ok (.getfield 18, 3) := by decide +kernel
theorem d107_56 : decode (am_bytes 107) 56 = .ok (.iload_n 3, 1) := by decide +kernel
theorem d107_57 : decode (am_bytes 107) 57 = .ok (.iaload, 1) := by decide +kernel
theorem d107_58 : decode (am_bytes 107) 58 = .ok (.aload_n 0, 1) := by decide +kernel
theorem d107_59 : decode (am_bytes 107) 59 = .ok (.getfield 24, 3) := by decide +kernel
theorem d107_62 : decode (am_bytes 107) 62 = .ok (.iload_n 3, 1) := by decide +kernel
theorem d107_63 : decode (am_bytes 107) 63 = .ok (.iaload, 1) := by decide +kernel
theorem d107_64 : decode (am_bytes 107) 64 = .ok (.iastore, 1) := by decide +kernel
theorem d107_65 : decode (am_bytes 107) 65 = .ok (.aload_n 2, 1) := by decide +kernel
theorem d107_66 : decode (am_bytes 107) 66 = .ok (.getfield 42, 3) := by decide +kernel
theorem d107_69 : decode (am_bytes 107) 69 = .ok (.aload_n 0, 1) := by decide +kernel
theorem d107_70 : decode (am_bytes 107) 70 = .ok (.getfield 18, 3) := by decide +kernel
theorem d107_73 : decode (am_bytes 107) 73 = .ok (.iload_n 3, 1) := by decide +kernel
theorem d107_74 : decode (am_bytes 107) 74 = .ok (.iaload, 1) := by decide +kernel
theorem d107_75 : decode (am_bytes 107) 75 = .ok (.aload_n 0, 1) := by decide +kernel
theorem d107_76 : decode (am_bytes 107) 76 = .ok (.getfield 15, 3) := by decide +kernel
theorem d107_79 : decode (am_bytes 107) 79 = .ok (.iload_n 3, 1) := by decide +kernel
theorem d107_80 : decode (am_bytes 107) 80 = .ok (.iaload, 1) := by decide +kernel
theorem d107_81 : decode (am_bytes 107) 81 = .ok (.iastore, 1) := by decide +kernel
theorem d107_82 : decode (am_bytes 107) 82 = .ok (.iinc 3 1, 3) := by decide +kernel
theorem d107_85 : decode (am_bytes 107) 85 = .ok (.goto (-79), 3) := by decide +kernel
theorem d107_88 : decode (am_bytes 107) 88 = .ok (.return_, 1) := by decide +kernel
theorem d108_0 : decode (am_bytes 108) 0 = .ok (.iconst 0, 1) := by decide +kernel
theorem d108_1 : decode (am_bytes 108) 1 = .ok (.istore_n 1, 1) := by decide +kernel
theorem d108_2 : decode (am_bytes 108) 2 = .ok (.iload_n 1, 1) := by decide +kernel
theorem d108_3 : decode (am_bytes 108) 3 = .ok (.aload_n 0, 1) := by decide +kernel
theorem d108_4 : decode (am_bytes 108) 4 = .ok (.getfield 31, 3) := by decide +kernel
theorem d108_7 : decode (am_bytes 108) 7 = .ok (.if_icmp .ge 16, 3) := by decide +kernel
theorem d108_10 : decode (am_bytes 108) 10 = .ok (.aload_n 0, 1) := by decide +kernel
theorem d108_11 : decode (am_bytes 108) 11 = .ok (.getfield 27, 3) := by decide +kernel
theorem d108_14 : decode (am_bytes 108) 14 = .ok (.iload_n 1, 1) := by decide +kernel
theorem d108_15 : decode (am_bytes 108) 15 = .ok (.iconst 0, 1) := by decide +kernel
theorem d108_16 : decode (am_bytes 108) 16 = .ok (.bastore, 1) := by decide +kernel
theorem d108_17 : decode (am_bytes 108) 17 = .ok (.iinc 1 1, 3) := by decide +kernel
theorem d108_20 : decode (am_bytes 108) 20 = .ok (.goto (-18), 3) := by decide +kernel
theorem d108_23 : decode (am_bytes 108) 23 = .ok (.return_, 1) := by decide +kernel
theorem d109_0 : decode (am_bytes 109) 0 = .ok (.iconst 0, 1) := by decide +kernel
theorem d109_1 : decode (am_bytes 109) 1 = .ok (.istore_n 2, 1) := by decide +kernel
theorem d109_2 : decode (am_bytes 109) 2 = .ok (.iload_n 2, 1) := by decide +kernel
theorem d109_3 : decode (am_bytes 109) 3 = .ok (.aload_n 0, 1) := by decide +kernel
theorem d109_4 : decode (am_bytes 109) 4 = .ok (.getfield 31, 3) := by decide +kernel
theorem d109_7 : decode (am_bytes 109) 7 = .ok (.if_icmp .ge 36, 3) := by decide +kernel
theorem d109_10 : decode (am_bytes 109) 10 = .ok (.aload_n 0, 1) := by decide +kernel
theorem d109_11 : decode (am_bytes 109) 11 = .ok (.getfield 15, 3) := by decide +kernel
theorem d109_14 : decode (am_bytes 109) 14 = .ok (.iload_n 2, 1) := by decide +kernel
theorem d109_15 : decode (am_bytes 109) 15 = .ok (.iaload, 1) := by decide +kernel
theorem d109_16 : decode (am_bytes 109) 16 = .ok (.aload_n 1, 1) := by decide +kernel
theorem d109_17 : decode (am_bytes 109) 17 = .ok (.getfield 42, 3) := by decide +kernel
theorem d109_20 : decode (am_bytes 109) 20 = .ok (.aload_n 0, 1) := by decide +kernel
theorem d109_21 : decode (am_bytes 109) 21 = .ok (.getfield 18, 3) := by decide +kernel
theorem d109_24 : decode (am_bytes 109) 24 = .ok (.iload_n 2, 1) := by decide +kernel
theorem d109_25 : decode (am_bytes 109) 25 = .ok (.iaload, 1) := by decide +kernel
theorem d109_26 : decode (am_bytes 109) 26 = .ok (.iaload, 1) := by decide +kernel
theorem d109_27 : decode (am_bytes 109) 27 = .ok (.if_icmp .ne 10, 3) := by decide +kernel
theorem d109_30 : decode (am_bytes 109) 30 = .ok (.aload_n 0, 1) := by decide +kernel
theorem d109_31 : decode (am_bytes 109) 31 = .ok (.getfield 27, 3) := by decide +kernel
theorem d109_34 : decode (am_bytes 109) 34 = .ok (.iload_n 2, 1) := by decide +kernel
theorem d109_35 : decode (am_bytes 109) 35 = .ok (.iconst 1, 1) := by decide +kernel
theorem d109_36 : decode (am_bytes 109) 36 = .ok (.bastore, 1) := by decide +kernel
theorem d109_37 : decode (am_bytes 109) 37 = .ok (.iinc 2 1, 3) := by decide +kernel
theorem d109_40 : decode (am_bytes 109) 40 = .ok (.goto (-38), 3) := by decide +kernel
theorem d109_43 : decode (am_bytes 109) 43 = .ok (.return_, 1) := by decide +kernel
theorem d110_0 : decode (am_bytes 110) 0 = .ok (.iconst 0, 1) := by decide +kernel
theorem d110_1 : decode (am_bytes 110) 1 = .ok (.istore_n 3, 1) := by decide +kernel
theorem d110_2 : decode (am_bytes 110) 2 = .ok (.iload_n 3, 1) := by decide +kernel
theorem d110_3 : decode (am_bytes 110) 3 = .ok (.aload_n 0, 1) := by decide +kernel
theorem d110_4 : decode (am_bytes 110) 4 = .ok (.getfield 31, 3) := by decide +kernel
theorem d110_7 : decode (am_bytes 110) 7 = .ok (.if_icmp .ge 36, 3) := by decide +kernel
theorem d110_10 : decode (am_bytes 110) 10 = .ok (.aload_n 0, 1) := by decide +kernel
theorem d110_11 : decode (am_bytes 110) 11 = .ok (.getfield 9, 3) := by decide +kernel
theorem d110_14 : decode (am_bytes 110) 14 = .ok (.iload_n 3, 1) := by decide +kernel
theorem d110_15 : decode (am_bytes 110) 15 = .ok (.iaload, 1) := by decide +kernel
theorem d110_16 : decode (am_bytes 110) 16 = .ok (.iload_n 1, 1) := by decide +kernel
theorem d110_17 : decode (am_bytes 110) 17 = .ok (.if_icmp .ne 20, 3) := by decide +kernel
theorem d110_20 : decode (am_bytes 110) 20 = .ok (.aload_n 0, 1) := by decide +kernel
theorem d110_21 : decode (am_bytes 110) 21 = .ok (.getfield 15, 3) := by decide +kernel
theorem d110_24 : decode (am_bytes 110) 24 = .ok (.iload_n 3, 1) := by decide +kernel
theorem d110_25 : decode (am_bytes 110) 25 = .ok (.iaload, 1) := by decide +kernel
theorem d110_26 : decode (am_bytes 110) 26 = .ok (.iload_n 2, 1) := by decide +kernel
theorem d110_27 : decode (am_bytes 110) 27 = .ok (.if_icmp .le 10, 3) := by decide +kernel
theorem d110_30 : decode (am_bytes 110) 30 = .ok (.aload_n 0, 1) := by decide +kernel
theorem d110_31 : decode (am_bytes 110) 31 = .ok (.getfield 27, 3) := by decide +kernel
theorem d110_34 : decode (am_bytes 110) 34 = .ok (.iload_n 3, 1) := by decide +kernel
theorem d110_35 : decode (am_bytes 110) 35 = .ok (.iconst 1, 1) := by decide +kernel
theorem d110_36 : decode (am_bytes 110) 36 = .ok (.bastore, 1) := by decide +kernel
theorem d110_37 : decode (am_bytes 110) 37 = .ok (.iinc 3 1, 3) := by decide +kernel
theorem d110_40 : decode (am_bytes 110) 40 = .ok (.goto (-38), 3) := by decide +kernel
theorem d110_43 : decode (am_bytes 110) 43 = .ok (.return_, 1) := by decide +kernel
theorem d111_0 : decode (am_bytes 111) 0 = .ok (.iconst 0, 1) := by decide +kernel
theorem d111_1 : decode (am_bytes 111) 1 = .ok (.istore_n 3, 1) := by decide +kernel
theorem d111_2 : decode (am_bytes 111) 2 = .ok (.iconst 0, 1) := by decide +kernel
theorem d111_3 : decode (am_bytes 111) 3 = .ok (.istore 4, 2) := by decide +kernel
theorem d111_5 : decode (am_bytes 111) 5 = .ok (.iload 4, 2) := by decide +kernel
theorem d111_7 : decode (am_bytes 111) 7 = .ok (.aload_n 0, 1) := by decide +kernel
theorem d111_8 : decode (am_bytes 111) 8 = .ok (.getfield 31, 3) := by decide +kernel
theorem d111_11 : decode (am_bytes 111) 11 = .ok (.if_icmp .ge 46, 3) := by decide +kernel
theorem d111_14 : decode (am_bytes 111) 14 = .ok (.aload_n 0, 1) := by decide +kernel
theorem d111_15 : decode (am_bytes 111) 15 = .ok (.getfield 27, 3) := by decide +kernel
theorem d111_18 : decode (am_bytes 111) 18 = .ok (.iload 4, 2) := by decide +kernel
theorem d111_20 : decode (am_bytes 111) 20 = .ok (.baload, 1) := by decide +kernel
theorem d111_21 : decode (am_bytes 111) 21 = .ok (.ifCond .eq 30, 3) := by decide +kernel
theorem d111_24 : decode (am_bytes 111) 24 = .ok (.aload_n 0, 1) := by decide +kernel
theorem d111_25 : decode (am_bytes 111) 25 = .ok (.getfield 18, 3) := by decide +kernel
theorem d111_28 : decode (am_bytes 111) 28 = .ok (.iload 4, 2) := by decide +kernel
theorem d111_30 : decode (am_bytes 111) 30 = .ok (.iaload, 1) := by decide +kernel
theorem d111_31 : decode (am_bytes 111) 31 = .ok (.iload_n 1, 1) := by decide +kernel
theorem d111_32 : decode (am_bytes 111) 32 = .ok (.if_icmp .ne 19, 3) := by decide +kernel
theorem d111_35 : decode (am_bytes 111) 35 = .ok (.iload_n 3, 1) := by decide +kernel
theorem d111_36 : decode (am_bytes 111) 36 = .ok (.iload_n 2, 1) := by decide +kernel
theorem d111_37 : decode (am_bytes 111) 37 = .ok (.if_icmp .ne 11, 3) := by decide +kernel
theorem d111_40 : decode (am_bytes 111) 40 = .ok (.aload_n 0, 1) := by decide +kernel
theorem d111_41 : decode (am_bytes 111) 41 = .ok (.getfield 15, 3) := by decide +kernel
theorem d111_44 : decode (am_bytes 111) 44 = .ok (.iload 4, 2) := by decide +kernel
theorem d111_46 : decode (am_bytes 111) 46 = .ok (.iaload, 1) := by decide +kernel
theorem d111_47 : decode (am_bytes 111) 47 = .ok (.ireturn, 1) := by decide +kernel
theorem d111_48 : decode (am_bytes 111) 48 = .ok (.iinc 3 1, 3) := by decide +kernel
theorem d111_51 : decode (am_bytes 111) 51 = .ok (.iinc 4 1, 3) := by decide +kernel
theorem d111_54 : decode (am_bytes 111) 54 = .ok (.goto (-49), 3) := by decide +kernel
theorem d111_57 : decode (am_bytes 111) 57 = .ok (.iconst (-1), 1) := by decide +kernel
theorem d111_58 : decode (am_bytes 111) 58 = .ok (.ireturn, 1) := by decide +kernel
theorem d112_0 : decode (am_bytes 112) 0 = .ok (.iconst 0, 1) := by decide +kernel
theorem d112_1 : decode (am_bytes 112) 1 = .ok (.istore_n 1, 1) := by decide +kernel
theorem d112_2 : decode (am_bytes 112) 2 = .ok (.iconst 0, 1) := by decide +kernel
theorem d112_3 : decode (am_bytes 112) 3 = .ok (.istore_n 2, 1) := by decide +kernel
theorem d112_4 : decode (am_bytes 112) 4 = .ok (.iload_n 2, 1) := by decide +kernel
theorem d112_5 : decode (am_bytes 112) 5 = .ok (.aload_n 0, 1) := by decide +kernel
theorem d112_6 : decode (am_bytes 112) 6 = .ok (.getfield 31, 3) := by decide +kernel
theorem d112_9 : decode (am_bytes 112) 9 = .ok (.if_icmp .ge 27, 3) := by decide +kernel
theorem d112_12 : decode (am_bytes 112) 12 = .ok (.aload_n 0, 1) := by decide +kernel
theorem d112_13 : decode (am_bytes 112) 13 = .ok (.getfield 27, 3) := by decide +kernel
theorem d112_16 : decode (am_bytes 112) 16 = .ok (.iload_n 2, 1) := by decide +kernel
theorem d112_17 : decode (am_bytes 112) 17 = .ok (.baload, 1) := by decide +kernel
theorem d112_18 : decode (am_bytes 112) 18 = .ok (.ifCond .eq 12, 3) := by decide +kernel
theorem d112_21 : decode (am_bytes 112) 21 = .ok (.aload_n 0, 1) := by decide +kernel
theorem d112_22 : decode (am_bytes 112) 22 = .ok (.iload_n 2, 1) := by decide +kernel
theorem d112_23 : decode (am_bytes 112) 23 = .ok (.iload_n 1, 1) := by decide +kernel
theorem d112_24 : decode (am_bytes 112) 24 = .ok (.invokevirtual 43, 3) := by decide +kernel
theorem d112_27 : decode (am_bytes 112) 27 = .ok (.iinc 1 1, 3) := by decide +kernel
theorem d112_30 : decode (am_bytes 112) 30 = .ok (.iinc 2 1, 3) := by decide +kernel
theorem d112_33 : decode (am_bytes 112) 33 = .ok (.goto (-29), 3) := by decide +kernel
theorem d112_36 : decode (am_bytes 112) 36 = .ok (.aload_n 0, 1) := by decide +kernel
theorem d112_37 : decode (am_bytes 112) 37 = .ok (.getfield 31, 3) := by decide +kernel
theorem d112_40 : decode (am_bytes 112) 40 = .ok (.iload_n 1, 1) := by decide +kernel
theorem d112_41 : decode (am_bytes 112) 41 = .ok (.isub, 1) := by decide +kernel
theorem d112_42 : decode (am_bytes 112) 42 = .ok (.istore_n 2, 1) := by decide +kernel
theorem d112_43 : decode (am_bytes 112) 43 = .ok (.aload_n 0, 1) := by decide +kernel
theorem d112_44 : decode (am_bytes 112) 44 = .ok (.iload_n 1, 1) := by decide +kernel
theorem d112_45 : decode (am_bytes 112) 45 = .ok (.putfield 31, 3) := by decide +kernel
theorem d112_48 : decode (am_bytes 112) 48 = .ok (.iload_n 2, 1) := by decide +kernel
theorem d112_49 : decode (am_bytes 112) 49 = .ok (.ireturn, 1) := by decide +kernel
theorem d113_0 : decode (am_bytes 113) 0 = .ok (.aload_n 0, 1) := by decide +kernel
theorem d113_1 : decode (am_bytes 113) 1 = .ok (.getfield 9, 3) := by decide +kernel
theorem d113_4 : decode (am_bytes 113) 4 = .ok (.iload_n 2, 1) := by decide +kernel
theorem d113_5 : decode (am_bytes 113) 5 = .ok (.aload_n 0, 1) := by decide +kernel
theorem d113_6 : decode (am_bytes 113) 6 = .ok (.getfield 9, 3) := by decide +kernel
theorem d113_9 : decode (am_bytes 113) 9 = .ok (.iload_n 1, 1) := by decide +kernel
theorem d113_10 : decode (am_bytes 113) 10 = .ok (.iaload, 1) := by decide +kernel
theorem d113_11 : decode (am_bytes 113) 11 = .ok (.iastore, 1) := by decide +kernel
theorem d113_12 : decode (am_bytes 113) 12 = .ok (.aload_n 0, 1) := by decide +kernel
theorem d113_13 : decode (am_bytes 113) 13 = .ok (.getfield 15, 3) := by decide +kernel
theorem d113_16 : decode (am_bytes 113) 16 = .ok (.iload_n 2, 1) := by decide +kernel
theorem d113_17 : decode (am_bytes 113) 17 = .ok (.aload_n 0, 1) := by decide +kernel
theorem d113_18 : decode (am_bytes 113) 18 = .ok (.getfield 15, 3) := by decide +kernel
theorem d113_21 : decode (am_bytes 113) 21 = .ok (.iload_n 1, 1) := by decide +kernel
theorem d113_22 : decode (am_bytes 113) 22 = .ok (.iaload, 1) := by decide +kernel
theorem d113_23 : decode (am_bytes 113) 23 = .ok (.iastore, 1) := by decide +kernel
theorem d113_24 : decode (am_bytes 113) 24 = .ok (.aload_n 0, 1) := by decide +kernel
theorem d113_25 : decode (am_bytes 113) 25 = .ok (.getfield 18, 3) := by decide +kernel
theorem d113_28 : decode (am_bytes 113) 28 = .ok (.iload_n 2, 1) := by decide +kernel
theorem d113_29 : decode (am_bytes 113) 29 = .ok (.aload_n 0, 1) := by decide +kernel
theorem d113_30 : decode (am_bytes 113) 30 = .ok (.getfield 18, 3) := by decide +kernel
theorem d113_33 : decode (am_bytes 113) 33 = .ok (.iload_n 1, 1) := by decide +kernel
theorem d113_34 : decode (am_bytes 113) 34 = .ok (.iaload, 1) := by decide +kernel
theorem d113_35 : decode (am_bytes 113) 35 = .ok (.iastore, 1) := by decide +kernel
theorem d113_36 : decode (am_bytes 113) 36 = .ok (.aload_n 0, 1) := by decide +kernel
theorem d113_37 : decode (am_bytes 113) 37 = .ok (.getfield 21, 3) := by decide +kernel
theorem d113_40 : decode (am_bytes 113) 40 = .ok (.iload_n 2, 1) := by decide +kernel
theorem d113_41 : decode (am_bytes 113) 41 = .ok (.aload_n 0, 1) := by decide +kernel
theorem d113_42 : decode (am_bytes 113) 42 = .ok (.getfield 21, 3) := by decide +kernel
theorem d113_45 : decode (am_bytes 113) 45 = .ok (.iload_n 1, 1) := by decide +kernel
theorem d113_46 : decode (am_bytes 113) 46 = .ok (.iaload, 1) := by decide +kernel
theorem d113_47 : decode (am_bytes 113) 47 = .ok (.iastore, 1) := by decide +kernel
theorem d113_48 : decode (am_bytes 113) 48 = .ok (.aload_n 0, 1) := by decide +kernel
theorem d113_49 : decode (am_bytes 113) 49 = .ok (.getfield 24, 3) := by decide +kernel
theorem d113_52 : decode (am_bytes 113) 52 = .ok (.iload_n 2, 1) := by decide +kernel
theorem d113_53 : decode (am_bytes 113) 53 = .ok (.aload_n 0, 1) := by decide +kernel
theorem d113_54 : decode (am_bytes 113) 54 = .ok (.getfield 24, 3) := by decide +kernel
theorem d113_57 : decode (am_bytes 113) 57 = .ok (.iload_n 1, 1) := by decide +kernel
theorem d113_58 : decode (am_bytes 113) 58 = .ok (.iaload, 1) := by decide +kernel
theorem d113_59 : decode (am_bytes 113) 59 = .ok (.iastore, 1) := by decide +kernel
theorem d113_60 : decode (am_bytes 113) 60 = .ok (.return_, 1) := by decide +kernel
theorem d114_0 : decode (am_bytes 114) 0 = .ok (.aload_n 3, 1) := by decide +kernel
theorem d114_1 : decode (am_bytes 114) 1 = .ok (.iconst 0, 1) := by decide +kernel
theorem d114_2 : decode (am_bytes 114) 2 = .ok (.aload_n 0, 1) := by decide +kernel
theorem d114_3 : decode (am_bytes 114) 3 = .ok (.iload_n 1, 1) := by decide +kernel
theorem d114_4 : decode (am_bytes 114) 4 = .ok (.iload_n 2, 1) := by decide +kernel
theorem d114_5 : decode (am_bytes 114) 5 = .ok (.invokevirtual 7, 3) := by decide +kernel
theorem d114_8 : decode (am_bytes 114) 8 = .ok (.i2l, 1) := by decide +kernel
theorem d114_9 : decode (am_bytes 114) 9 = .ok (.lastore, 1) := by decide +kernel
theorem d114_10 : decode (am_bytes 114) 10 = .ok (.goto 15, 3) := by decide +kernel
theorem d114_15 : decode (am_bytes 114) 15 = .ok (.iconst 1, 1) := by decide +kernel
theorem d114_16 : decode (am_bytes 114) 16 = .ok (.ireturn, 1) := by decide +kernel
theorem d114_19 : decode (am_bytes 114) 19 = .ok (.iconst 2, 1) := by decide +kernel
theorem d114_20 : decode (am_bytes 114) 20 = .ok (.ireturn, 1) := by decide +kernel
theorem d114_23 : decode (am_bytes 114) 23 = .ok (.iconst 3, 1) := by decide +kernel
theorem d114_24 : decode (am_bytes 114) 24 = .ok (.ireturn, 1) := by decide +kernel
theorem d114_25 : decode (am_bytes 114) 25 = .ok (.iconst 0, 1) := by decide +kernel
theorem d114_26 : decode (am_bytes 114) 26 = .ok (.ireturn, 1) := by decide +kernel
theorem d115_0 : decode (am_bytes 115) 0 = .ok (.aload_n 0, 1) := by decide +kernel
theorem d115_1 : decode (am_bytes 115) 1 = .ok (.iload_n 1, 1) := by decide +kernel
theorem d115_2 : decode (am_bytes 115) 2 = .ok (.invokevirtual 19, 3) := by decide +kernel
theorem d115_5 : decode (am_bytes 115) 5 = .ok (.goto 9, 3) := by decide +kernel
theorem d115_8 : decode (am_bytes 115) 8 = .ok (.astore_n 2, 1) := by decide +kernel
theorem d115_9 : decode (am_bytes 115) 9 = .ok (.iconst 1, 1) := by decide +kernel
theorem d115_10 : decode (am_bytes 115) 10 = .ok (.ireturn, 1) := by decide +kernel
theorem d115_11 : decode (am_bytes 115) 11 = .ok (.astore_n 2, 1) := by decide +kernel
theorem d115_12 : decode (am_bytes 115) 12 = .ok (.iconst 2, 1) := by decide +kernel
theorem d115_13 : decode (am_bytes 115) 13 = .ok (.ireturn, 1) := by decide +kernel
theorem d115_14 : decode (am_bytes 115) 14 = .ok (.iconst 0, 1) := by decide +kernel
theorem d115_15 : decode (am_bytes 115) 15 = .ok (.ireturn, 1) := by decide +kernel
theorem d116_0 : decode (am_bytes 116) 0 = .ok (.aload 6, 2) := by decide +kernel
theorem d116_2 : decode (am_bytes 116) 2 = .ok (.iconst 0, 1) := by decide +kernel
theorem d116_3 : decode (am_bytes 116) 3 = .ok (.aload_n 0, 1) := by decide +kernel
theorem d116_4 : decode (am_bytes 116) 4 = .ok (.iload_n 1, 1) := by decide +kernel
theorem d116_5 : decode (am_bytes 116) 5 = .ok (.iload_n 2, 1) := by decide +kernel
theorem d116_6 : decode (am_bytes 116) 6 = .ok (.iload_n 3, 1) := by decide +kernel
theorem d116_7 : decode (am_bytes 116) 7 = .ok (.iload 4, 2) := by decide +kernel
theorem d116_9 : decode (am_bytes 116) 9 = .ok (.iload 5, 2) := by decide +kernel
theorem d116_11 : decode (am_bytes 116) 11 = .ok (.invokevirtual 23, 3) := by decide +kernel
theorem d116_14 : decode (am_bytes 116) 14 = .ok (.i2l, 1) := by decide +kernel
theorem d116_15 : decode (am_bytes 116) 15 = .ok (.lastore, 1) := by decide +kernel
theorem d116_16 : decode (am_bytes 116) 16 = .ok (.goto 19, 3) := by decide +kernel
theorem d116_21 : decode (am_bytes 116) 21 = .ok (.iconst 1, 1) := by decide +kernel
theorem d116_22 : decode (am_bytes 116) 22 = .ok (.ireturn, 1) := by decide +kernel
theorem d116_25 : decode (am_bytes 116) 25 = .ok (.iconst 2, 1) := by decide +kernel
theorem d116_26 : decode (am_bytes 116) 26 = .ok (.ireturn, 1) := by decide +kernel
theorem d116_29 : decode (am_bytes 116) 29 = .ok (.iconst 3, 1) := by decide +kernel
theorem d116_30 : decode (am_bytes 116) 30 = .ok (.ireturn, 1) := by decide +kernel
theorem d116_33 : decode (am_bytes 116) 33 = .ok (.iconst 4, 1) := by decide +kernel
theorem d116_34 : decode (am_bytes 116) 34 = .ok (.ireturn, 1) := by decide +kernel
theorem d116_35 : decode (am_bytes 116) 35 = .ok (.iconst 0, 1) := by decide +kernel
theorem d116_36 : decode (am_bytes 116) 36 = .ok (.ireturn, 1) := by decide +kernel
theorem d117_0 : decode (am_bytes 117) 0 = .ok (.aload 6, 2) := by decide +kernel
theorem d117_2 : decode (am_bytes 117) 2 = .ok (.iconst 0, 1) := by decide +kernel
theorem d117_3 : decode (am_bytes 117) 3 = .ok (.aload_n 0, 1) := by decide +kernel
theorem d117_4 : decode (am_bytes 117) 4 = .ok (.iload_n 1, 1) := by decide +kernel
theorem d117_5 : decode (am_bytes 117) 5 = .ok (.iload_n 2, 1) := by decide +kernel
theorem d117_6 : decode (am_bytes 117) 6 = .ok (.iload_n 3, 1) := by decide +kernel
theorem d117_7 : decode (am_bytes 117) 7 = .ok (.iload 4, 2) := by decide +kernel
theorem d117_9 : decode (am_bytes 117) 9 = .ok (.iload 5, 2) := by decide +kernel
theorem d117_11 : decode (am_bytes 117) 11 = .ok (.invokevirtual 29, 3) := by decide +kernel
theorem d117_14 : decode (am_bytes 117) 14 = .ok (.i2l, 1) := by decide +kernel
theorem d117_15 : decode (am_bytes 117) 15 = .ok (.lastore, 1) := by decide +kernel
theorem d117_16 : decode (am_bytes 117) 16 = .ok (.goto 11, 3) := by decide +kernel
theorem d117_21 : decode (am_bytes 117) 21 = .ok (.iconst 1, 1) := by decide +kernel
