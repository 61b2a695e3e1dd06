/-! printed: each instruction -/
theorem d44_39 : decode (am_bytes 44) 39 = .ok (.iconst 0, 1) := by decide +kernel
theorem d44_40 : decode (am_bytes 44) 40 = .ok (.putfield 45, 3) := by decide +kernel
theorem d44_43 : decode (am_bytes 44) 43 = .ok (.aload_n 0, 1) := by decide +kernel
theorem d44_44 : decode (am_bytes 44) 44 = .ok (.getfield 45, 3) := by decide +kernel
theorem d44_47 : decode (am_bytes 44) 47 = .ok (.ifCond .le 5, 3) := by decide +kernel
theorem d44_50 : decode (am_bytes 44) 50 = .ok (.iconst 0, 1) := by decide +kernel
theorem d44_51 : decode (am_bytes 44) 51 = .ok (.ireturn, 1) := by decide +kernel
theorem d44_52 : decode (am_bytes 44) 52 = .ok (.aload_n 0, 1) := by decide +kernel
theorem d44_53 : decode (am_bytes 44) 53 = .ok (.getfield 13, 3) := by decide +kernel
theorem d44_56 : decode (am_bytes 44) 56 = .ok (.aload_n 0, 1) := by decide +kernel
theorem d44_57 : decode (am_bytes 44) 57 = .ok (.getfield 7, 3) := by decide +kernel
theorem d44_60 : decode (am_bytes 44) 60 = .ok (.iload_n 1, 1) := by decide +kernel
theorem d44_61 : decode (am_bytes 44) 61 = .ok (.iastore, 1) := by decide +kernel
theorem d44_62 : decode (am_bytes 44) 62 = .ok (.aload_n 0, 1) := by decide +kernel
theorem d44_63 : decode (am_bytes 44) 63 = .ok (.getfield 17, 3) := by decide +kernel
theorem d44_66 : decode (am_bytes 44) 66 = .ok (.aload_n 0, 1) := by decide +kernel
theorem d44_67 : decode (am_bytes 44) 67 = .ok (.getfield 7, 3) := by decide +kernel
theorem d44_70 : decode (am_bytes 44) 70 = .ok (.iload_n 2, 1) := by decide +kernel
theorem d44_71 : decode (am_bytes 44) 71 = .ok (.iastore, 1) := by decide +kernel
theorem d44_72 : decode (am_bytes 44) 72 = .ok (.aload_n 0, 1) := by decide +kernel
theorem d44_73 : decode (am_bytes 44) 73 = .ok (.getfield 20, 3) := by decide +kernel
theorem d44_76 : decode (am_bytes 44) 76 = .ok (.aload_n 0, 1) := by decide +kernel
theorem d44_77 : decode (am_bytes 44) 77 = .ok (.getfield 7, 3) := by decide +kernel
theorem d44_80 : decode (am_bytes 44) 80 = .ok (.iconst 0, 1) := by decide +kernel
theorem d44_81 : decode (am_bytes 44) 81 = .ok (.bastore, 1) := by decide +kernel
theorem d44_82 : decode (am_bytes 44) 82 = .ok (.aload_n 0, 1) := by decide +kernel
theorem d44_83 : decode (am_bytes 44) 83 = .ok (.dup, 1) := by decide +kernel
theorem d44_84 : decode (am_bytes 44) 84 = .ok (.getfield 7, 3) := by decide +kernel
theorem d44_87 : decode (am_bytes 44) 87 = .ok (.iconst 1, 1) := by decide +kernel
theorem d44_88 : decode (am_bytes 44) 88 = .ok (.iadd, 1) := by decide +kernel
theorem d44_89 : decode (am_bytes 44) 89 = .ok (.putfield 7, 3) := by decide +kernel
theorem d44_92 : decode (am_bytes 44) 92 = .ok (.aload_n 0, 1) := by decide +kernel
theorem d44_93 : decode (am_bytes 44) 93 = .ok (.getfield 7, 3) := by decide +kernel
theorem d44_96 : decode (am_bytes 44) 96 = .ok (.iconst 1, 1) := by decide +kernel
theorem d44_97 : decode (am_bytes 44) 97 = .ok (.isub, 1) := by decide +kernel
theorem d44_98 : decode (am_bytes 44) 98 = .ok (.ireturn, 1) := by decide +kernel
theorem d45_0 : decode (am_bytes 45) 0 = .ok (.iconst 0, 1) := by decide +kernel
theorem d45_1 : decode (am_bytes 45) 1 = .ok (.istore_n 2, 1) := by decide +kernel
theorem d45_2 : decode (am_bytes 45) 2 = .ok (.iconst 0, 1) := by decide +kernel
theorem d45_3 : decode (am_bytes 45) 3 = .ok (.istore_n 3, 1) := by decide +kernel
theorem d45_4 : decode (am_bytes 45) 4 = .ok (.iload_n 3, 1) := by decide +kernel
theorem d45_5 : decode (am_bytes 45) 5 = .ok (.aload_n 0, 1) := by decide +kernel
theorem d45_6 : decode (am_bytes 45) 6 = .ok (.getfield 7, 3) := by decide +kernel
theorem d45_9 : decode (am_bytes 45) 9 = .ok (.if_icmp .ge 31, 3) := by decide +kernel
theorem d45_12 : decode (am_bytes 45) 12 = .ok (.iload_n 3, 1) := by decide +kernel
theorem d45_13 : decode (am_bytes 45) 13 = .ok (.iload_n 1, 1) := by decide +kernel
theorem d45_14 : decode (am_bytes 45) 14 = .ok (.if_icmp .eq 18, 3) := by decide +kernel
theorem d45_17 : decode (am_bytes 45) 17 = .ok (.aload_n 0, 1) := by decide +kernel
theorem d45_18 : decode (am_bytes 45) 18 = .ok (.getfield 20, 3) := by decide +kernel
theorem d45_21 : decode (am_bytes 45) 21 = .ok (.iload_n 3, 1) := by decide +kernel
theorem d45_22 : decode (am_bytes 45) 22 = .ok (.baload, 1) := by decide +kernel
theorem d45_23 : decode (am_bytes 45) 23 = .ok (.ifCond .ne 9, 3) := by decide +kernel
theorem d45_26 : decode (am_bytes 45) 26 = .ok (.iload_n 2, 1) := by decide +kernel
theorem d45_27 : decode (am_bytes 45) 27 = .ok (.iconst 1, 1) := by decide +kernel
theorem d45_28 : decode (am_bytes 45) 28 = .ok (.iadd, 1) := by decide +kernel
theorem d45_29 : decode (am_bytes 45) 29 = .ok (.goto 4, 3) := by decide +kernel
theorem d45_32 : decode (am_bytes 45) 32 = .ok (.iload_n 2, 1) := by decide +kernel
theorem d45_33 : decode (am_bytes 45) 33 = .ok (.istore_n 2, 1) := by decide +kernel
theorem d45_34 : decode (am_bytes 45) 34 = .ok (.iinc 3 1, 3) := by decide +kernel
theorem d45_37 : decode (am_bytes 45) 37 = .ok (.goto (-33), 3) := by decide +kernel
theorem d45_40 : decode (am_bytes 45) 40 = .ok (.iload_n 2, 1) := by decide +kernel
theorem d45_41 : decode (am_bytes 45) 41 = .ok (.ireturn, 1) := by decide +kernel
theorem d46_0 : decode (am_bytes 46) 0 = .ok (.aload_n 0, 1) := by decide +kernel
theorem d46_1 : decode (am_bytes 46) 1 = .ok (.aload_n 0, 1) := by decide +kernel
theorem d46_2 : decode (am_bytes 46) 2 = .ok (.iload_n 1, 1) := by decide +kernel
theorem d46_3 : decode (am_bytes 46) 3 = .ok (.invokevirtual 79, 3) := by decide +kernel
theorem d46_6 : decode (am_bytes 46) 6 = .ok (.ifCond .eq 7, 3) := by decide +kernel
theorem d46_9 : decode (am_bytes 46) 9 = .ok (.iconst 1, 1) := by decide +kernel
theorem d46_10 : decode (am_bytes 46) 10 = .ok (.goto 25, 3) := by decide +kernel
theorem d46_13 : decode (am_bytes 46) 13 = .ok (.aload_n 0, 1) := by decide +kernel
theorem d46_14 : decode (am_bytes 46) 14 = .ok (.getfield 20, 3) := by decide +kernel
theorem d46_17 : decode (am_bytes 46) 17 = .ok (.iload_n 1, 1) := by decide +kernel
theorem d46_18 : decode (am_bytes 46) 18 = .ok (.baload, 1) := by decide +kernel
theorem d46_19 : decode (am_bytes 46) 19 = .ok (.ifCond .ne 11, 3) := by decide +kernel
theorem d46_22 : decode (am_bytes 46) 22 = .ok (.aload_n 0, 1) := by decide +kernel
theorem d46_23 : decode (am_bytes 46) 23 = .ok (.iload_n 1, 1) := by decide +kernel
theorem d46_24 : decode (am_bytes 46) 24 = .ok (.invokevirtual 83, 3) := by decide +kernel
theorem d46_27 : decode (am_bytes 46) 27 = .ok (.ifCond .ne 7, 3) := by decide +kernel
theorem d46_30 : decode (am_bytes 46) 30 = .ok (.iconst 2, 1) := by decide +kernel
theorem d46_31 : decode (am_bytes 46) 31 = .ok (.goto 4, 3) := by decide +kernel
theorem d46_34 : decode (am_bytes 46) 34 = .ok (.iconst 0, 1) := by decide +kernel
theorem d46_35 : decode (am_bytes 46) 35 = .ok (.putfield 45, 3) := by decide +kernel
theorem d46_38 : decode (am_bytes 46) 38 = .ok (.aload_n 0, 1) := by decide +kernel
theorem d46_39 : decode (am_bytes 46) 39 = .ok (.getfield 45, 3) := by decide +kernel
theorem d46_42 : decode (am_bytes 46) 42 = .ok (.ifCond .ne 10, 3) := by decide +kernel
theorem d46_45 : decode (am_bytes 46) 45 = .ok (.aload_n 0, 1) := by decide +kernel
theorem d46_46 : decode (am_bytes 46) 46 = .ok (.getfield 20, 3) := by decide +kernel
theorem d46_49 : decode (am_bytes 46) 49 = .ok (.iload_n 1, 1) := by decide +kernel
theorem d46_50 : decode (am_bytes 46) 50 = .ok (.iconst 1, 1) := by decide +kernel
theorem d46_51 : decode (am_bytes 46) 51 = .ok (.bastore, 1) := by decide +kernel
theorem d46_52 : decode (am_bytes 46) 52 = .ok (.return_, 1) := by decide +kernel
theorem d47_0 : decode (am_bytes 47) 0 = .ok (.aload_n 0, 1) := by decide +kernel
theorem d47_1 : decode (am_bytes 47) 1 = .ok (.dup, 1) := by decide +kernel
theorem d47_2 : decode (am_bytes 47) 2 = .ok (.getfield 55, 3) := by decide +kernel
theorem d47_5 : decode (am_bytes 47) 5 = .ok (.iconst 1, 1) := by decide +kernel
theorem d47_6 : decode (am_bytes 47) 6 = .ok (.iadd, 1) := by decide +kernel
theorem d47_7 : decode (am_bytes 47) 7 = .ok (.putfield 55, 3) := by decide +kernel
theorem d47_10 : decode (am_bytes 47) 10 = .ok (.aload_n 0, 1) := by decide +kernel
theorem d47_11 : decode (am_bytes 47) 11 = .ok (.getfield 24, 3) := by decide +kernel
theorem d47_14 : decode (am_bytes 47) 14 = .ok (.aload_n 0, 1) := by decide +kernel
theorem d47_15 : decode (am_bytes 47) 15 = .ok (.getfield 58, 3) := by decide +kernel
theorem d47_18 : decode (am_bytes 47) 18 = .ok (.iload_n 1, 1) := by decide +kernel
theorem d47_19 : decode (am_bytes 47) 19 = .ok (.iastore, 1) := by decide +kernel
theorem d47_20 : decode (am_bytes 47) 20 = .ok (.aload_n 0, 1) := by decide +kernel
theorem d47_21 : decode (am_bytes 47) 21 = .ok (.getfield 27, 3) := by decide +kernel
theorem d47_24 : decode (am_bytes 47) 24 = .ok (.aload_n 0, 1) := by decide +kernel
theorem d47_25 : decode (am_bytes 47) 25 = .ok (.getfield 58, 3) := by decide +kernel
theorem d47_28 : decode (am_bytes 47) 28 = .ok (.aload_n 0, 1) := by decide +kernel
theorem d47_29 : decode (am_bytes 47) 29 = .ok (.getfield 55, 3) := by decide +kernel
theorem d47_32 : decode (am_bytes 47) 32 = .ok (.iastore, 1) := by decide +kernel
theorem d47_33 : decode (am_bytes 47) 33 = .ok (.aload_n 0, 1) := by decide +kernel
theorem d47_34 : decode (am_bytes 47) 34 = .ok (.getfield 30, 3) := by decide +kernel
theorem d47_37 : decode (am_bytes 47) 37 = .ok (.aload_n 0, 1) := by decide +kernel
theorem d47_38 : decode (am_bytes 47) 38 = .ok (.getfield 58, 3) := by decide +kernel
theorem d47_41 : decode (am_bytes 47) 41 = .ok (.iload_n 2, 1) := by decide +kernel
theorem d47_42 : decode (am_bytes 47) 42 = .ok (.iastore, 1) := by decide +kernel
theorem d47_43 : decode (am_bytes 47) 43 = .ok (.aload_n 0, 1) := by decide +kernel
theorem d47_44 : decode (am_bytes 47) 44 = .ok (.getfield 33, 3) := by decide +kernel
theorem d47_47 : decode (am_bytes 47) 47 = .ok (.aload_n 0, 1) := by decide +kernel
theorem d47_48 : decode (am_bytes 47) 48 = .ok (.getfield 58, 3) := by decide +kernel
theorem d47_51 : decode (am_bytes 47) 51 = .ok (.iload_n 3, 1) := by decide +kernel
theorem d47_52 : decode (am_bytes 47) 52 = .ok (.iastore, 1) := by decide +kernel
theorem d47_53 : decode (am_bytes 47) 53 = .ok (.aload_n 0, 1) := by decide +kernel
theorem d47_54 : decode (am_bytes 47) 54 = .ok (.getfield 36, 3) := by decide +kernel
theorem d47_57 : decode (am_bytes 47) 57 = .ok (.aload_n 0, 1) := by decide +kernel
theorem d47_58 : decode (am_bytes 47) 58 = .ok (.getfield 58, 3) := by decide +kernel
theorem d47_61 : decode (am_bytes 47) 61 = .ok (.iload_n 3, 1) := by decide +kernel
theorem d47_62 : decode (am_bytes 47) 62 = .ok (.ifCond .ne 7, 3) := by decide +kernel
theorem d47_65 : decode (am_bytes 47) 65 = .ok (.iconst 0, 1) := by decide +kernel
theorem d47_66 : decode (am_bytes 47) 66 = .ok (.goto 5, 3) := by decide +kernel
theorem d47_69 : decode (am_bytes 47) 69 = .ok (.iload 4, 2) := by decide +kernel
theorem d47_71 : decode (am_bytes 47) 71 = .ok (.iastore, 1) := by decide +kernel
theorem d47_72 : decode (am_bytes 47) 72 = .ok (.aload_n 0, 1) := by decide +kernel
theorem d47_73 : decode (am_bytes 47) 73 = .ok (.dup, 1) := by decide +kernel
theorem d47_74 : decode (am_bytes 47) 74 = .ok (.getfield 58, 3) := by decide +kernel
theorem d47_77 : decode (am_bytes 47) 77 = .ok (.iconst 1, 1) := by decide +kernel
theorem d47_78 : decode (am_bytes 47) 78 = .ok (.iadd, 1) := by decide +kernel
theorem d47_79 : decode (am_bytes 47) 79 = .ok (.putfield 58, 3) := by decide +kernel
theorem d47_82 : decode (am_bytes 47) 82 = .ok (.return_, 1) := by decide +kernel
theorem d48_0 : decode (am_bytes 48) 0 = .ok (.iload 4, 2) := by decide +kernel
theorem d48_2 : decode (am_bytes 48) 2 = .ok (.ifCond .lt 27, 3) := by decide +kernel
theorem d48_5 : decode (am_bytes 48) 5 = .ok (.iload 4, 2) := by decide +kernel
theorem d48_7 : decode (am_bytes 48) 7 = .ok (.iconst 2, 1) := by decide +kernel
theorem d48_8 : decode (am_bytes 48) 8 = .ok (.if_icmp .gt 21, 3) := by decide +kernel
theorem d48_11 : decode (am_bytes 48) 11 = .ok (.iload 4, 2) := by decide +kernel
theorem d48_13 : decode (am_bytes 48) 13 = .ok (.iconst 2, 1) := by decide +kernel
theorem d48_14 : decode (am_bytes 48) 14 = .ok (.if_icmp .ne 19, 3) := by decide +kernel
theorem d48_17 : decode (am_bytes 48) 17 = .ok (.iload 5, 2) := by decide +kernel
theorem d48_19 : decode (am_bytes 48) 19 = .ok (.ifCond .lt 10, 3) := by decide +kernel
theorem d48_22 : decode (am_bytes 48) 22 = .ok (.iload 5, 2) := by decide +kernel
theorem d48_24 : decode (am_bytes 48) 24 = .ok (.bipush 11, 2) := by decide +kernel
theorem d48_26 : decode (am_bytes 48) 26 = .ok (.if_icmp .le 7, 3) := by decide +kernel
theorem d48_29 : decode (am_bytes 48) 29 = .ok (.iconst 1, 1) := by decide +kernel
theorem d48_30 : decode (am_bytes 48) 30 = .ok (.goto 4, 3) := by decide +kernel
theorem d48_33 : decode (am_bytes 48) 33 = .ok (.iconst 0, 1) := by decide +kernel
theorem d48_34 : decode (am_bytes 48) 34 = .ok (.istore 6, 2) := by decide +kernel
theorem d48_36 : decode (am_bytes 48) 36 = .ok (.aload_n 0, 1) := by decide +kernel
theorem d48_37 : decode (am_bytes 48) 37 = .ok (.aload_n 0, 1) := by decide +kernel
theorem d48_38 : decode (am_bytes 48) 38 = .ok (.iload_n 1, 1) := by decide +kernel
theorem d48_39 : decode (am_bytes 48) 39 = .ok (.invokevirtual 79, 3) := by decide +kernel
theorem d48_42 : decode (am_bytes 48) 42 = .ok (.ifCond .ne 11, 3) := by decide +kernel
theorem d48_45 : decode (am_bytes 48) 45 = .ok (.iload_n 2, 1) := by decide +kernel
theorem d48_46 : decode (am_bytes 48) 46 = .ok (.iload_n 3, 1) := by decide +kernel
theorem d48_47 : decode (am_bytes 48) 47 = .ok (.invokestatic 86, 3) := by decide +kernel
theorem d48_50 : decode (am_bytes 48) 50 = .ok (.ifCond .eq 7, 3) := by decide +kernel
theorem d48_53 : decode (am_bytes 48) 53 = .ok (.iconst 1, 1) := by decide +kernel
theorem d48_54 : decode (am_bytes 48) 54 = .ok (.goto 39, 3) := by decide +kernel
theorem d48_57 : decode (am_bytes 48) 57 = .ok (.iload 6, 2) := by decide +kernel
theorem d48_59 : decode (am_bytes 48) 59 = .ok (.ifCond .eq 7, 3) := by decide +kernel
theorem d48_62 : decode (am_bytes 48) 62 = .ok (.iconst 2, 1) := by decide +kernel
theorem d48_63 : decode (am_bytes 48) 63 = .ok (.goto 30, 3) := by decide +kernel
theorem d48_66 : decode (am_bytes 48) 66 = .ok (.aload_n 0, 1) := by decide +kernel
theorem d48_67 : decode (am_bytes 48) 67 = .ok (.getfield 20, 3) := by decide +kernel
theorem d48_70 : decode (am_bytes 48) 70 = .ok (.iload_n 1, 1) := by decide +kernel
theorem d48_71 : decode (am_bytes 48) 71 = .ok (.baload, 1) := by decide +kernel
theorem d48_72 : decode (am_bytes 48) 72 = .ok (.ifCond .eq 7, 3) := by decide +kernel
theorem d48_75 : decode (am_bytes 48) 75 = .ok (.iconst 3, 1) := by decide +kernel
theorem d48_76 : decode (am_bytes 48) 76 = .ok (.goto 17, 3) := by decide +kernel
theorem d48_79 : decode (am_bytes 48) 79 = .ok (.aload_n 0, 1) := by decide +kernel
theorem d48_80 : decode (am_bytes 48) 80 = .ok (.getfield 58, 3) := by decide +kernel
theorem d48_83 : decode (am_bytes 48) 83 = .ok (.bipush 120, 2) := by decide +kernel
theorem d48_85 : decode (am_bytes 48) 85 = .ok (.if_icmp .ne 7, 3) := by decide +kernel
theorem d48_88 : decode (am_bytes 48) 88 = .ok (.iconst 4, 1) := by decide +kernel
theorem d48_89 : decode (am_bytes 48) 89 = .ok (.goto 4, 3) := by decide +kernel
theorem d48_92 : decode (am_bytes 48) 92 = .ok (.iconst 0, 1) := by decide +kernel
theorem d48_93 : decode (am_bytes 48) 93 = .ok (.putfield 45, 3) := by decide +kernel
theorem d48_96 : decode (am_bytes 48) 96 = .ok (.aload_n 0, 1) := by decide +kernel
theorem d48_97 : decode (am_bytes 48) 97 = .ok (.getfield 45, 3) := by decide +kernel
theorem d48_100 : decode (am_bytes 48) 100 = .ok (.ifCond .le 5, 3) := by decide +kernel
theorem d48_103 : decode (am_bytes 48) 103 = .ok (.iconst 0, 1) := by decide +kernel
theorem d48_104 : decode (am_bytes 48) 104 = .ok (.ireturn, 1) := by decide +kernel
theorem d48_105 : decode (am_bytes 48) 105 = .ok (.aload_n 0, 1) := by decide +kernel
theorem d48_106 : decode (am_bytes 48) 106 = .ok (.iload_n 1, 1) := by decide +kernel
theorem d48_107 : decode (am_bytes 48) 107 = .ok (.iconst 4, 1) := by decide +kernel
theorem d48_108 : decode (am_bytes 48) 108 = .ok (.iload_n 2, 1) := by decide +kernel
theorem d48_109 : decode (am_bytes 48) 109 = .ok (.imul, 1) := by decide +kernel
theorem d48_110 : decode (am_bytes 48) 110 = .ok (.iload_n 3, 1) := by decide +kernel
theorem d48_111 : decode (am_bytes 48) 111 = .ok (.iadd, 1) := by decide +kernel
theorem d48_112 : decode (am_bytes 48) 112 = .ok (.iload 4, 2) := by decide +kernel
theorem d48_114 : decode (am_bytes 48) 114 = .ok (.iload 5, 2) := by decide +kernel
theorem d48_116 : decode (am_bytes 48) 116 = .ok (.invokevirtual 89, 3) := by decide +kernel
theorem d48_119 : decode (am_bytes 48) 119 = .ok (.aload_n 0, 1) := by decide +kernel
theorem d48_120 : decode (am_bytes 48) 120 = .ok (.getfield 55, 3) := by decide +kernel
theorem d48_123 : decode (am_bytes 48) 123 = .ok (.ireturn, 1) := by decide +kernel
theorem d49_0 : decode (am_bytes 49) 0 = .ok (.aload_n 0, 1) := by decide +kernel
theorem d49_1 : decode (am_bytes 49) 1 = .ok (.aload_n 0, 1) := by decide +kernel
theorem d49_2 : decode (am_bytes 49) 2 = .ok (.iload_n 1, 1) := by decide +kernel
theorem d49_3 : decode (am_bytes 49) 3 = .ok (.invokevirtual 79, 3) := by decide +kernel
theorem d49_6 : decode (am_bytes 49) 6 = .ok (.ifCond .ne 12, 3) := by decide +kernel
theorem d49_9 : decode (am_bytes 49) 9 = .ok (.iload_n 3, 1) := by decide +kernel
theorem d49_10 : decode (am_bytes 49) 10 = .ok (.iload 4, 2) := by decide +kernel
theorem d49_12 : decode (am_bytes 49) 12 = .ok (.invokestatic 86, 3) := by decide +kernel
theorem d49_15 : decode (am_bytes 49) 15 = .ok (.ifCond .eq 7, 3) := by decide +kernel
theorem d49_18 : decode (am_bytes 49) 18 = .ok (.iconst 1, 1) := by decide +kernel
theorem d49_19 : decode (am_bytes 49) 19 = .ok (.goto 28, 3) := by decide +kernel
theorem d49_22 : decode (am_bytes 49) 22 = .ok (.aload_n 0, 1) := by decide +kernel
theorem d49_23 : decode (am_bytes 49) 23 = .ok (.iload_n 1, 1) := by decide +kernel
theorem d49_24 : decode (am_bytes 49) 24 = .ok (.iload_n 2, 1) := by decide +kernel
theorem d49_25 : decode (am_bytes 49) 25 = .ok (.invokevirtual 71, 3) := by decide +kernel
theorem d49_28 : decode (am_bytes 49) 28 = .ok (.ifCond .ne 14, 3) := by decide +kernel
theorem d49_31 : decode (am_bytes 49) 31 = .ok (.iload 5, 2) := by decide +kernel
theorem d49_33 : decode (am_bytes 49) 33 = .ok (.ifCond .lt 9, 3) := by decide +kernel
theorem d49_36 : decode (am_bytes 49) 36 = .ok (.iload 5, 2) := by decide +kernel
theorem d49_38 : decode (am_bytes 49) 38 = .ok (.iconst 2, 1) := by decide +kernel
theorem d49_39 : decode (am_bytes 49) 39 = .ok (.if_icmp .le 7, 3) := by decide +kernel
theorem d49_42 : decode (am_bytes 49) 42 = .ok (.iconst 2, 1) := by decide +kernel
theorem d49_43 : decode (am_bytes 49) 43 = .ok (.goto 4, 3) := by decide +kernel
theorem d49_46 : decode (am_bytes 49) 46 = .ok (.iconst 0, 1) := by decide +kernel
theorem d49_47 : decode (am_bytes 49) 47 = .ok (.putfield 45, 3) := by decide +kernel
theorem d49_50 : decode (am_bytes 49) 50 = .ok (.aload_n 0, 1) := by decide +kernel
theorem d49_51 : decode (am_bytes 49) 51 = .ok (.getfield 45, 3) := by decide +kernel
theorem d49_54 : decode (am_bytes 49) 54 = .ok (.ifCond .le 5, 3) := by decide +kernel
theorem d49_57 : decode (am_bytes 49) 57 = .ok (.iconst 0, 1) := by decide +kernel
theorem d49_58 : decode (am_bytes 49) 58 = .ok (.ireturn, 1) := by decide +kernel
theorem d49_59 : decode (am_bytes 49) 59 = .ok (.aload_n 0, 1) := by decide +kernel
theorem d49_60 : decode (am_bytes 49) 60 = .ok (.iload_n 1, 1) := by decide +kernel
theorem d49_61 : decode (am_bytes 49) 61 = .ok (.iload_n 2, 1) := by decide +kernel
theorem d49_62 : decode (am_bytes 49) 62 = .ok (.iconst 4, 1) := by decide +kernel
theorem d49_63 : decode (am_bytes 49) 63 = .ok (.iload_n 3, 1) := by decide +kernel
theorem d49_64 : decode (am_bytes 49) 64 = .ok (.imul, 1) := by decide +kernel
theorem d49_65 : decode (am_bytes 49) 65 = .ok (.iload 4, 2) := by decide +kernel
theorem d49_67 : decode (am_bytes 49) 67 = .ok (.iadd, 1) := by decide +kernel
theorem d49_68 : decode (am_bytes 49) 68 = .ok (.invokevirtual 75, 3) := by decide +kernel
theorem d49_71 : decode (am_bytes 49) 71 = .ok (.istore 6, 2) := by decide +kernel
theorem d49_73 : decode (am_bytes 49) 73 = .ok (.iload 5, 2) := by decide +kernel
theorem d49_75 : decode (am_bytes 49) 75 = .ok (.ifCond .ne 12, 3) := by decide +kernel
theorem d49_78 : decode (am_bytes 49) 78 = .ok (.aload_n 0, 1) := by decide +kernel
theorem d49_79 : decode (am_bytes 49) 79 = .ok (.iload 6, 2) := by decide +kernel
theorem d49_81 : decode (am_bytes 49) 81 = .ok (.invokevirtual 65, 3) := by decide +kernel
theorem d49_84 : decode (am_bytes 49) 84 = .ok (.goto 34, 3) := by decide +kernel
theorem d49_87 : decode (am_bytes 49) 87 = .ok (.iload 5, 2) := by decide +kernel
theorem d49_89 : decode (am_bytes 49) 89 = .ok (.iconst 1, 1) := by decide +kernel
theorem d49_90 : decode (am_bytes 49) 90 = .ok (.if_icmp .ne 12, 3) := by decide +kernel
theorem d49_93 : decode (am_bytes 49) 93 = .ok (.aload_n 0, 1) := by decide +kernel
theorem d49_94 : decode (am_bytes 49) 94 = .ok (.iload 6, 2) := by decide +kernel
theorem d49_96 : decode (am_bytes 49) 96 = .ok (.invokevirtual 68, 3) := by decide +kernel
theorem d49_99 : decode (am_bytes 49) 99 = .ok (.goto 19, 3) := by decide +kernel
theorem d49_102 : decode (am_bytes 49) 102 = .ok (.iload 6, 2) := by decide +kernel
theorem d49_104 : decode (am_bytes 49) 104 = .ok (.ifCond .ge 7, 3) := by decide +kernel
theorem d49_107 : decode (am_bytes 49) 107 = .ok (.iconst (-1), 1) := by decide +kernel
theorem d49_108 : decode (am_bytes 49) 108 = .ok (.goto 10, 3) := by decide +kernel
theorem d49_111 : decode (am_bytes 49) 111 = .ok (.aload_n 0, 1) := by decide +kernel
theorem d49_112 : decode (am_bytes 49) 112 = .ok (.getfield 27, 3) := by decide +kernel
theorem d49_115 : decode (am_bytes 49) 115 = .ok (.iload 6, 2) := by decide +kernel
theorem d49_117 : decode (am_bytes 49) 117 = .ok (.iaload, 1) := by decide +kernel
theorem d49_118 : decode (am_bytes 49) 118 = .ok (.ireturn, 1) := by decide +kernel
theorem d50_0 : decode (am_bytes 50) 0 = .ok (.aload_n 0, 1) := by decide +kernel
theorem d50_1 : decode (am_bytes 50) 1 = .ok (.aload_n 0, 1) := by decide +kernel
theorem d50_2 : decode (am_bytes 50) 2 = .ok (.iload_n 1, 1) := by decide +kernel
theorem d50_3 : decode (am_bytes 50) 3 = .ok (.invokevirtual 79, 3) := by decide +kernel
theorem d50_6 : decode (am_bytes 50) 6 = .ok (.ifCond .ne 11, 3) := by decide +kernel
theorem d50_9 : decode (am_bytes 50) 9 = .ok (.iload_n 2, 1) := by decide +kernel
theorem d50_10 : decode (am_bytes 50) 10 = .ok (.iload_n 3, 1) := by decide +kernel
theorem d50_11 : decode (am_bytes 50) 11 = .ok (.invokestatic 86, 3) := by decide +kernel
theorem d50_14 : decode (am_bytes 50) 14 = .ok (.ifCond .eq 7, 3) := by decide +kernel
theorem d50_17 : decode (am_bytes 50) 17 = .ok (.iconst 1, 1) := by decide +kernel
theorem d50_18 : decode (am_bytes 50) 18 = .ok (.goto 4, 3) := by decide +kernel
theorem d50_21 : decode (am_bytes 50) 21 = .ok (.iconst 0, 1) := by decide +kernel
theorem d50_22 : decode (am_bytes 50) 22 = .ok (.putfield 45, 3) := by decide +kernel
theorem d50_25 : decode (am_bytes 50) 25 = .ok (.aload_n 0, 1) := by decide +kernel
theorem d50_26 : decode (am_bytes 50) 26 = .ok (.getfield 45, 3) := by decide +kernel
theorem d50_29 : decode (am_bytes 50) 29 = .ok (.ifCond .le 5, 3) := by decide +kernel
theorem d50_32 : decode (am_bytes 50) 32 = .ok (.iconst 0, 1) := by decide +kernel
theorem d50_33 : decode (am_bytes 50) 33 = .ok (.ireturn, 1) := by decide +kernel
theorem d50_34 : decode (am_bytes 50) 34 = .ok (.iconst 0, 1) := by decide +kernel
theorem d50_35 : decode (am_bytes 50) 35 = .ok (.istore 5, 2) := by decide +kernel
theorem d50_37 : decode (am_bytes 50) 37 = .ok (.iconst 0, 1) := by decide +kernel
theorem d50_38 : decode (am_bytes 50) 38 = .ok (.istore 6, 2) := by decide +kernel
theorem d50_40 : decode (am_bytes 50) 40 = .ok (.iload 6, 2) := by decide +kernel
theorem d50_42 : decode (am_bytes 50) 42 = .ok (.aload_n 0, 1) := by decide +kernel
theorem d50_43 : decode (am_bytes 50) 43 = .ok (.getfield 58, 3) := by decide +kernel
theorem d50_46 : decode (am_bytes 50) 46 = .ok (.if_icmp .ge 52, 3) := by decide +kernel
theorem d50_49 : decode (am_bytes 50) 49 = .ok (.aload_n 0, 1) := by decide +kernel
theorem d50_50 : decode (am_bytes 50) 50 = .ok (.getfield 30, 3) := by decide +kernel
theorem d50_53 : decode (am_bytes 50) 53 = .ok (.iload 6, 2) := by decide +kernel
theorem d50_55 : decode (am_bytes 50) 55 = .ok (.iaload, 1) := by decide +kernel
theorem d50_56 : decode (am_bytes 50) 56 = .ok (.iconst 4, 1) := by decide +kernel
theorem d50_57 : decode (am_bytes 50) 57 = .ok (.iload_n 2, 1) := by decide +kernel
theorem d50_58 : decode (am_bytes 50) 58 = .ok (.imul, 1) := by decide +kernel
theorem d50_59 : decode (am_bytes 50) 59 = .ok (.iload_n 3, 1) := by decide +kernel
theorem d50_60 : decode (am_bytes 50) 60 = .ok (.iadd, 1) := by decide +kernel
theorem d50_61 : decode (am_bytes 50) 61 = .ok (.if_icmp .ne 31, 3) := by decide +kernel
theorem d50_64 : decode (am_bytes 50) 64 = .ok (.aload_n 0, 1) := by decide +kernel
theorem d50_65 : decode (am_bytes 50) 65 = .ok (.iload_n 1, 1) := by decide +kernel
theorem d50_66 : decode (am_bytes 50) 66 = .ok (.iload 6, 2) := by decide +kernel
theorem d50_68 : decode (am_bytes 50) 68 = .ok (.invokevirtual 93, 3) := by decide +kernel
theorem d50_71 : decode (am_bytes 50) 71 = .ok (.ifCond .eq 21, 3) := by decide +kernel
theorem d50_74 : decode (am_bytes 50) 74 = .ok (.iload 5, 2) := by decide +kernel
theorem d50_76 : decode (am_bytes 50) 76 = .ok (.iload 4, 2) := by decide +kernel
theorem d50_78 : decode (am_bytes 50) 78 = .ok (.if_icmp .ne 11, 3) := by decide +kernel
theorem d50_81 : decode (am_bytes 50) 81 = .ok (.aload_n 0, 1) := by decide +kernel
theorem d50_82 : decode (am_bytes 50) 82 = .ok (.getfield 27, 3) := by decide +kernel
theorem d50_85 : decode (am_bytes 50) 85 = .ok (.iload 6, 2) := by decide +kernel
theorem d50_87 : decode (am_bytes 50) 87 = .ok (.iaload, 1) := by decide +kernel
theorem d50_88 : decode (am_bytes 50) 88 = .ok (.ireturn, 1) := by decide +kernel
theorem d50_89 : decode (am_bytes 50) 89 = .ok (.iinc 5 1, 3) := by decide +kernel
theorem d50_92 : decode (am_bytes 50) 92 = .ok (.iinc 6 1, 3) := by decide +kernel
theorem d50_95 : decode (am_bytes 50) 95 = .ok (.goto (-55), 3) := by decide +kernel
theorem d50_98 : decode (am_bytes 50) 98 = .ok (.iconst (-1), 1) := by decide +kernel
theorem d50_99 : decode (am_bytes 50) 99 = .ok (.ireturn, 1) := by decide +kernel
theorem d51_0 : decode (am_bytes 51) 0 = .ok (.aload_n 0, 1) := by decide +kernel
theorem d51_1 : decode (am_bytes 51) 1 = .ok (.aload_n 0, 1) := by decide +kernel
theorem d51_2 : decode (am_bytes 51) 2 = .ok (.iload_n 1, 1) := by decide +kernel
theorem d51_3 : decode (am_bytes 51) 3 = .ok (.invokevirtual 79, 3) := by decide +kernel
theorem d51_6 : decode (am_bytes 51) 6 = .ok (.ifCond .ne 11, 3) := by decide +kernel
theorem d51_9 : decode (am_bytes 51) 9 = .ok (.aload_n 0, 1) := by decide +kernel
theorem d51_10 : decode (am_bytes 51) 10 = .ok (.iload_n 2, 1) := by decide +kernel
theorem d51_11 : decode (am_bytes 51) 11 = .ok (.invokevirtual 79, 3) := by decide +kernel
theorem d51_14 : decode (am_bytes 51) 14 = .ok (.ifCond .eq 7, 3) := by decide +kernel
theorem d51_17 : decode (am_bytes 51) 17 = .ok (.iconst 1, 1) := by decide +kernel
theorem d51_18 : decode (am_bytes 51) 18 = .ok (.goto 26, 3) := by decide +kernel
theorem d51_21 : decode (am_bytes 51) 21 = .ok (.aload_n 0, 1) := by decide +kernel
theorem d51_22 : decode (am_bytes 51) 22 = .ok (.getfield 20, 3) := by decide +kernel
theorem d51_25 : decode (am_bytes 51) 25 = .ok (.iload_n 1, 1) := by decide +kernel
theorem d51_26 : decode (am_bytes 51) 26 = .ok (.baload, 1) := by decide +kernel
theorem d51_27 : decode (am_bytes 51) 27 = .ok (.ifCond .ne 12, 3) := by decide +kernel
theorem d51_30 : decode (am_bytes 51) 30 = .ok (.aload_n 0, 1) := by decide +kernel
theorem d51_31 : decode (am_bytes 51) 31 = .ok (.getfield 20, 3) := by decide +kernel
theorem d51_34 : decode (am_bytes 51) 34 = .ok (.iload_n 2, 1) := by decide +kernel
theorem d51_35 : decode (am_bytes 51) 35 = .ok (.baload, 1) := by decide +kernel
theorem d51_36 : decode (am_bytes 51) 36 = .ok (.ifCond .eq 7, 3) := by decide +kernel
theorem d51_39 : decode (am_bytes 51) 39 = .ok (.iconst 2, 1) := by decide +kernel
theorem d51_40 : decode (am_bytes 51) 40 = .ok (.goto 4, 3) := by decide +kernel
theorem d51_43 : decode (am_bytes 51) 43 = .ok (.iconst 0, 1) := by decide +kernel
theorem d51_44 : decode (am_bytes 51) 44 = .ok (.putfield 45, 3) := by decide +kernel
theorem d51_47 : decode (am_bytes 51) 47 = .ok (.aload_n 0, 1) := by decide +kernel
theorem d51_48 : decode (am_bytes 51) 48 = .ok (.getfield 45, 3) := by decide +kernel
theorem d51_51 : decode (am_bytes 51) 51 = .ok (.ifCond .le 5, 3) := by decide +kernel
theorem d51_54 : decode (am_bytes 51) 54 = .ok (.iconst 0, 1) := by decide +kernel
theorem d51_55 : decode (am_bytes 51) 55 = .ok (.ireturn, 1) := by decide +kernel
theorem d51_56 : decode (am_bytes 51) 56 = .ok (.iconst 0, 1) := by decide +kernel
theorem d51_57 : decode (am_bytes 51) 57 = .ok (.istore 4, 2) := by decide +kernel
theorem d51_59 : decode (am_bytes 51) 59 = .ok (.iconst 0, 1) := by decide +kernel
theorem d51_60 : decode (am_bytes 51) 60 = .ok (.istore 5, 2) := by decide +kernel
theorem d51_62 : decode (am_bytes 51) 62 = .ok (.iload 5, 2) := by decide +kernel
theorem d51_64 : decode (am_bytes 51) 64 = .ok (.bipush 48, 2) := by decide +kernel
theorem d51_66 : decode (am_bytes 51) 66 = .ok (.if_icmp .ge 50, 3) := by decide +kernel
theorem d51_69 : decode (am_bytes 51) 69 = .ok (.aload_n 0, 1) := by decide +kernel
theorem d51_70 : decode (am_bytes 51) 70 = .ok (.aload_n 0, 1) := by decide +kernel
theorem d51_71 : decode (am_bytes 51) 71 = .ok (.iload_n 1, 1) := by decide +kernel
theorem d51_72 : decode (am_bytes 51) 72 = .ok (.aload_n 0, 1) := by decide +kernel
theorem d51_73 : decode (am_bytes 51) 73 = .ok (.getfield 55, 3) := by decide +kernel
theorem d51_76 : decode (am_bytes 51) 76 = .ok (.iload 5, 2) := by decide +kernel
theorem d51_78 : decode (am_bytes 51) 78 = .ok (.invokevirtual 75, 3) := by decide +kernel
theorem d51_81 : decode (am_bytes 51) 81 = .ok (.aload_n 0, 1) := by decide +kernel
theorem d51_82 : decode (am_bytes 51) 82 = .ok (.iload_n 2, 1) := by decide +kernel
theorem d51_83 : decode (am_bytes 51) 83 = .ok (.aload_n 0, 1) := by decide +kernel
theorem d51_84 : decode (am_bytes 51) 84 = .ok (.getfield 55, 3) := by decide +kernel
theorem d51_87 : decode (am_bytes 51) 87 = .ok (.iload 5, 2) := by decide +kernel
theorem d51_89 : decode (am_bytes 51) 89 = .ok (.invokevirtual 75, 3) := by decide +kernel
theorem d51_92 : decode (am_bytes 51) 92 = .ok (.invokevirtual 96, 3) := by decide +kernel
theorem d51_95 : decode (am_bytes 51) 95 = .ok (.ifCond .ne 15, 3) := by decide +kernel
theorem d51_98 : decode (am_bytes 51) 98 = .ok (.iload 4, 2) := by decide +kernel
theorem d51_100 : decode (am_bytes 51) 100 = .ok (.iload_n 3, 1) := by decide +kernel
theorem d51_101 : decode (am_bytes 51) 101 = .ok (.if_icmp .ne 6, 3) := by decide +kernel
theorem d51_104 : decode (am_bytes 51) 104 = .ok (.iload 5, 2) := by decide +kernel
theorem d51_106 : decode (am_bytes 51) 106 = .ok (.ireturn, 1) := by decide +kernel
theorem d51_107 : decode (am_bytes 51) 107 = .ok (.iinc 4 1, 3) := by decide +kernel
theorem d51_110 : decode (am_bytes 51) 110 = .ok (.iinc 5 1, 3) := by decide +kernel
theorem d51_113 : decode (am_bytes 51) 113 = .ok (.goto (-51), 3) := by decide +kernel
theorem d51_116 : decode (am_bytes 51) 116 = .ok (.iconst (-1), 1) := by decide +kernel
theorem d51_117 : decode (am_bytes 51) 117 = .ok (.ireturn, 1) := by decide +kernel
theorem d52_0 : decode (am_bytes 52) 0 = .ok (.iload_n 1, 1) := by decide +kernel
theorem d52_1 : decode (am_bytes 52) 1 = .ok (.istore_n 3, 1) := by decide +kernel
theorem d52_2 : decode (am_bytes 52) 2 = .ok (.iload_n 3, 1) := by decide +kernel
theorem d52_3 : decode (am_bytes 52) 3 = .ok (.ifCond .lt 18, 3) := by decide +kernel
theorem d52_6 : decode (am_bytes 52) 6 = .ok (.iload_n 3, 1) := by decide +kernel
theorem d52_7 : decode (am_bytes 52) 7 = .ok (.iload_n 2, 1) := by decide +kernel
theorem d52_8 : decode (am_bytes 52) 8 = .ok (.if_icmp .eq 13, 3) := by decide +kernel
theorem d52_11 : decode (am_bytes 52) 11 = .ok (.aload_n 0, 1) := by decide +kernel
theorem d52_12 : decode (am_bytes 52) 12 = .ok (.getfield 13, 3) := by decide +kernel
theorem d52_15 : decode (am_bytes 52) 15 = .ok (.iload_n 3, 1) := by decide +kernel
theorem d52_16 : decode (am_bytes 52) 16 = .ok (.iaload, 1) := by decide +kernel
theorem d52_17 : decode (am_bytes 52) 17 = .ok (.istore_n 3, 1) := by decide +kernel
theorem d52_18 : decode (am_bytes 52) 18 = .ok (.goto (-16), 3) := by decide +kernel
theorem d52_21 : decode (am_bytes 52) 21 = .ok (.iload_n 3, 1) := by decide +kernel
theorem d52_22 : decode (am_bytes 52) 22 = .ok (.iload_n 2, 1) := by decide +kernel
theorem d52_23 : decode (am_bytes 52) 23 = .ok (.if_icmp .ne 7, 3) := by decide +kernel
theorem d52_26 : decode (am_bytes 52) 26 = .ok (.iconst 1, 1) := by decide +kernel
theorem d52_27 : decode (am_bytes 52) 27 = .ok (.goto 4, 3) := by decide +kernel
theorem d52_30 : decode (am_bytes 52) 30 = .ok (.iconst 0, 1) := by decide +kernel
theorem d52_31 : decode (am_bytes 52) 31 = .ok (.ireturn, 1) := by decide +kernel
theorem d53_0 : decode (am_bytes 53) 0 = .ok (.aload_n 0, 1) := by decide +kernel
theorem d53_1 : decode (am_bytes 53) 1 = .ok (.getfield 55, 3) := by decide +kernel
theorem d53_4 : decode (am_bytes 53) 4 = .ok (.istore_n 3, 1) := by decide +kernel
theorem d53_5 : decode (am_bytes 53) 5 = .ok (.iload_n 1, 1) := by decide +kernel
theorem d53_6 : decode (am_bytes 53) 6 = .ok (.istore 4, 2) := by decide +kernel
theorem d53_8 : decode (am_bytes 53) 8 = .ok (.iload 4, 2) := by decide +kernel
theorem d53_10 : decode (am_bytes 53) 10 = .ok (.iload_n 2, 1) := by decide +kernel
theorem d53_11 : decode (am_bytes 53) 11 = .ok (.if_icmp .eq 23, 3) := by decide +kernel
theorem d53_14 : decode (am_bytes 53) 14 = .ok (.aload_n 0, 1) := by decide +kernel
theorem d53_15 : decode (am_bytes 53) 15 = .ok (.getfield 17, 3) := by decide +kernel
theorem d53_18 : decode (am_bytes 53) 18 = .ok (.iload 4, 2) := by decide +kernel
theorem d53_20 : decode (am_bytes 53) 20 = .ok (.iaload, 1) := by decide +kernel
theorem d53_21 : decode (am_bytes 53) 21 = .ok (.istore_n 3, 1) := by decide +kernel
theorem d53_22 : decode (am_bytes 53) 22 = .ok (.aload_n 0, 1) := by decide +kernel
theorem d53_23 : decode (am_bytes 53) 23 = .ok (.getfield 13, 3) := by decide +kernel
theorem d53_26 : decode (am_bytes 53) 26 = .ok (.iload 4, 2) := by decide +kernel
theorem d53_28 : decode (am_bytes 53) 28 = .ok (.iaload, 1) := by decide +kernel
theorem d53_29 : decode (am_bytes 53) 29 = .ok (.istore 4, 2) := by decide +kernel
theorem d53_31 : decode (am_bytes 53) 31 = .ok (.goto (-23), 3) := by decide +kernel
theorem d53_34 : decode (am_bytes 53) 34 = .ok (.iload_n 3, 1) := by decide +kernel
theorem d53_35 : decode (am_bytes 53) 35 = .ok (.ireturn, 1) := by decide +kernel
theorem d54_0 : decode (am_bytes 54) 0 = .ok (.iload_n 1, 1) := by decide +kernel
theorem d54_1 : decode (am_bytes 54) 1 = .ok (.istore_n 3, 1) := by decide +kernel
theorem d54_2 : decode (am_bytes 54) 2 = .ok (.aload_n 0, 1) := by decide +kernel
theorem d54_3 : decode (am_bytes 54) 3 = .ok (.iload_n 2, 1) := by decide +kernel
theorem d54_4 : decode (am_bytes 54) 4 = .ok (.iload_n 3, 1) := by decide +kernel
theorem d54_5 : decode (am_bytes 54) 5 = .ok (.invokevirtual 99, 3) := by decide +kernel
theorem d54_8 : decode (am_bytes 54) 8 = .ok (.ifCond .ne 13, 3) := by decide +kernel
theorem d54_11 : decode (am_bytes 54) 11 = .ok (.aload_n 0, 1) := by decide +kernel
theorem d54_12 : decode (am_bytes 54) 12 = .ok (.getfield 13, 3) := by decide +kernel
theorem d54_15 : decode (am_bytes 54) 15 = .ok (.iload_n 3, 1) := by decide +kernel
theorem d54_16 : decode (am_bytes 54) 16 = .ok (.iaload, 1) := by decide +kernel
theorem d54_17 : decode (am_bytes 54) 17 = .ok (.istore_n 3, 1) := by decide +kernel
theorem d54_18 : decode (am_bytes 54) 18 = .ok (.goto (-16), 3) := by decide +kernel
theorem d54_21 : decode (am_bytes 54) 21 = .ok (.aload_n 0, 1) := by decide +kernel
theorem d54_22 : decode (am_bytes 54) 22 = .ok (.iload_n 1, 1) := by decide +kernel
theorem d54_23 : decode (am_bytes 54) 23 = .ok (.iload_n 3, 1) := by decide +kernel
theorem d54_24 : decode (am_bytes 54) 24 = .ok (.invokevirtual 102, 3) := by decide +kernel
theorem d54_27 : decode (am_bytes 54) 27 = .ok (.istore 4, 2) := by decide +kernel
theorem d54_29 : decode (am_bytes 54) 29 = .ok (.aload_n 0, 1) := by decide +kernel
theorem d54_30 : decode (am_bytes 54) 30 = .ok (.iload_n 2, 1) := by decide +kernel
theorem d54_31 : decode (am_bytes 54) 31 = .ok (.iload_n 3, 1) := by decide +kernel
theorem d54_32 : decode (am_bytes 54) 32 = .ok (.invokevirtual 102, 3) := by decide +kernel
theorem d54_35 : decode (am_bytes 54) 35 = .ok (.istore 5, 2) := by decide +kernel
theorem d54_37 : decode (am_bytes 54) 37 = .ok (.iload 4, 2) := by decide +kernel
theorem d54_39 : decode (am_bytes 54) 39 = .ok (.iload 5, 2) := by decide +kernel
theorem d54_41 : decode (am_bytes 54) 41 = .ok (.if_icmp .ge 8, 3) := by decide +kernel
theorem d54_44 : decode (am_bytes 54) 44 = .ok (.iload 4, 2) := by decide +kernel
theorem d54_46 : decode (am_bytes 54) 46 = .ok (.goto 5, 3) := by decide +kernel
theorem d54_49 : decode (am_bytes 54) 49 = .ok (.iload 5, 2) := by decide +kernel
theorem d54_51 : decode (am_bytes 54) 51 = .ok (.ireturn, 1) := by decide +kernel
theorem d55_0 : decode (am_bytes 55) 0 = .ok (.aload_n 0, 1) := by decide +kernel
theorem d55_1 : decode (am_bytes 55) 1 = .ok (.aload_n 0, 1) := by decide +kernel
theorem d55_2 : decode (am_bytes 55) 2 = .ok (.iload_n 1, 1) := by decide +kernel
theorem d55_3 : decode (am_bytes 55) 3 = .ok (.invokevirtual 79, 3) := by decide +kernel
theorem d55_6 : decode (am_bytes 55) 6 = .ok (.ifCond .ne 11, 3) := by decide +kernel
theorem d55_9 : decode (am_bytes 55) 9 = .ok (.aload_n 0, 1) := by decide +kernel
theorem d55_10 : decode (am_bytes 55) 10 = .ok (.iload_n 2, 1) := by decide +kernel
theorem d55_11 : decode (am_bytes 55) 11 = .ok (.invokevirtual 79, 3) := by decide +kernel
theorem d55_14 : decode (am_bytes 55) 14 = .ok (.ifCond .eq 7, 3) := by decide +kernel
theorem d55_17 : decode (am_bytes 55) 17 = .ok (.iconst 1, 1) := by decide +kernel
theorem d55_18 : decode (am_bytes 55) 18 = .ok (.goto 4, 3) := by decide +kernel
theorem d55_21 : decode (am_bytes 55) 21 = .ok (.iconst 0, 1) := by decide +kernel
theorem d55_22 : decode (am_bytes 55) 22 = .ok (.putfield 45, 3) := by decide +kernel
theorem d55_25 : decode (am_bytes 55) 25 = .ok (.aload_n 0, 1) := by decide +kernel
theorem d55_26 : decode (am_bytes 55) 26 = .ok (.getfield 45, 3) := by decide +kernel
theorem d55_29 : decode (am_bytes 55) 29 = .ok (.ifCond .le 7, 3) := by decide +kernel
theorem d55_32 : decode (am_bytes 55) 32 = .ok (.iconst 0, 1) := by decide +kernel
theorem d55_33 : decode (am_bytes 55) 33 = .ok (.goto 9, 3) := by decide +kernel
theorem d55_36 : decode (am_bytes 55) 36 = .ok (.aload_n 0, 1) := by decide +kernel
theorem d55_37 : decode (am_bytes 55) 37 = .ok (.iload_n 1, 1) := by decide +kernel
theorem d55_38 : decode (am_bytes 55) 38 = .ok (.iload_n 2, 1) := by decide +kernel
theorem d55_39 : decode (am_bytes 55) 39 = .ok (.invokevirtual 106, 3) := by decide +kernel
theorem d55_42 : decode (am_bytes 55) 42 = .ok (.ireturn, 1) := by decide +kernel
theorem d56_0 : decode (am_bytes 56) 0 = .ok (.aload_n 0, 1) := by decide +kernel
theorem d56_1 : decode (am_bytes 56) 1 = .ok (.aload_n 0, 1) := by decide +kernel
theorem d56_2 : decode (am_bytes 56) 2 = .ok (.iload_n 1, 1) := by decide +kernel
theorem d56_3 : decode (am_bytes 56) 3 = .ok (.aload_n 0, 1) := by decide +kernel
theorem d56_4 : decode (am_bytes 56) 4 = .ok (.getfield 55, 3) := by decide +kernel
theorem d56_7 : decode (am_bytes 56) 7 = .ok (.iload_n 2, 1) := by decide +kernel
theorem d56_8 : decode (am_bytes 56) 8 = .ok (.invokevirtual 75, 3) := by decide +kernel
theorem d56_11 : decode (am_bytes 56) 11 = .ok (.aload_n 0, 1) := by decide +kernel
theorem d56_12 : decode (am_bytes 56) 12 = .ok (.iload_n 1, 1) := by decide +kernel
theorem d56_13 : decode (am_bytes 56) 13 = .ok (.iload_n 3, 1) := by decide +kernel
theorem d56_14 : decode (am_bytes 56) 14 = .ok (.iload_n 2, 1) := by decide +kernel
theorem d56_15 : decode (am_bytes 56) 15 = .ok (.invokevirtual 75, 3) := by decide +kernel
theorem d56_18 : decode (am_bytes 56) 18 = .ok (.invokevirtual 96, 3) := by decide +kernel
theorem d56_21 : decode (am_bytes 56) 21 = .ok (.ifCond .ne 7, 3) := by decide +kernel
theorem d56_24 : decode (am_bytes 56) 24 = .ok (.iconst 1, 1) := by decide +kernel
theorem d56_25 : decode (am_bytes 56) 25 = .ok (.goto 4, 3) := by decide +kernel
theorem d56_28 : decode (am_bytes 56) 28 = .ok (.iconst 0, 1) := by decide +kernel
theorem d56_29 : decode (am_bytes 56) 29 = .ok (.ireturn, 1) := by decide +kernel
theorem d57_0 : decode (am_bytes 57) 0 = .ok (.aload_n 0, 1) := by decide +kernel
theorem d57_1 : decode (am_bytes 57) 1 = .ok (.aload_n 0, 1) := by decide +kernel
theorem d57_2 : decode (am_bytes 57) 2 = .ok (.iload_n 1, 1) := by decide +kernel
theorem d57_3 : decode (am_bytes 57) 3 = .ok (.invokevirtual 79, 3) := by decide +kernel
theorem d57_6 : decode (am_bytes 57) 6 = .ok (.ifCond .ne 11, 3) := by decide +kernel
theorem d57_9 : decode (am_bytes 57) 9 = .ok (.aload_n 0, 1) := by decide +kernel
theorem d57_10 : decode (am_bytes 57) 10 = .ok (.iload_n 2, 1) := by decide +kernel
theorem d57_11 : decode (am_bytes 57) 11 = .ok (.invokevirtual 79, 3) := by decide +kernel
theorem d57_14 : decode (am_bytes 57) 14 = .ok (.ifCond .eq 7, 3) := by decide +kernel
theorem d57_17 : decode (am_bytes 57) 17 = .ok (.iconst 1, 1) := by decide +kernel
theorem d57_18 : decode (am_bytes 57) 18 = .ok (.goto 13, 3) := by decide +kernel
theorem d57_21 : decode (am_bytes 57) 21 = .ok (.iload_n 1, 1) := by decide +kernel
theorem d57_22 : decode (am_bytes 57) 22 = .ok (.iload_n 2, 1) := by decide +kernel
theorem d57_23 : decode (am_bytes 57) 23 = .ok (.if_icmp .ne 7, 3) := by decide +kernel
theorem d57_26 : decode (am_bytes 57) 26 = .ok (.iconst 2, 1) := by decide +kernel
theorem d57_27 : decode (am_bytes 57) 27 = .ok (.goto 4, 3) := by decide +kernel
theorem d57_30 : decode (am_bytes 57) 30 = .ok (.iconst 0, 1) := by decide +kernel
theorem d57_31 : decode (am_bytes 57) 31 = .ok (.putfield 45, 3) := by decide +kernel
theorem d57_34 : decode (am_bytes 57) 34 = .ok (.aload_n 0, 1) := by decide +kernel
theorem d57_35 : decode (am_bytes 57) 35 = .ok (.getfield 45, 3) := by decide +kernel
theorem d57_38 : decode (am_bytes 57) 38 = .ok (.ifCond .le 5, 3) := by decide +kernel
theorem d57_41 : decode (am_bytes 57) 41 = .ok (.iconst 0, 1) := by decide +kernel
theorem d57_42 : decode (am_bytes 57) 42 = .ok (.ireturn, 1) := by decide +kernel
theorem d57_43 : decode (am_bytes 57) 43 = .ok (.aload_n 0, 1) := by decide +kernel
theorem d57_44 : decode (am_bytes 57) 44 = .ok (.iload_n 1, 1) := by decide +kernel
theorem d57_45 : decode (am_bytes 57) 45 = .ok (.iload_n 2, 1) := by decide +kernel
theorem d57_46 : decode (am_bytes 57) 46 = .ok (.invokevirtual 106, 3) := by decide +kernel
theorem d57_49 : decode (am_bytes 57) 49 = .ok (.istore_n 3, 1) := by decide +kernel
theorem d57_50 : decode (am_bytes 57) 50 = .ok (.aload_n 0, 1) := by decide +kernel
theorem d57_51 : decode (am_bytes 57) 51 = .ok (.aload_n 0, 1) := by decide +kernel
theorem d57_52 : decode (am_bytes 57) 52 = .ok (.getfield 20, 3) := by decide +kernel
theorem d57_55 : decode (am_bytes 57) 55 = .ok (.iload_n 1, 1) := by decide +kernel
theorem d57_56 : decode (am_bytes 57) 56 = .ok (.baload, 1) := by decide +kernel
theorem d57_57 : decode (am_bytes 57) 57 = .ok (.ifCond .ne 20, 3) := by decide +kernel
theorem d57_60 : decode (am_bytes 57) 60 = .ok (.aload_n 0, 1) := by decide +kernel
theorem d57_61 : decode (am_bytes 57) 61 = .ok (.getfield 20, 3) := by decide +kernel
theorem d57_64 : decode (am_bytes 57) 64 = .ok (.iload_n 2, 1) := by decide +kernel
theorem d57_65 : decode (am_bytes 57) 65 = .ok (.baload, 1) := by decide +kernel
theorem d57_66 : decode (am_bytes 57) 66 = .ok (.ifCond .ne 11, 3) := by decide +kernel
theorem d57_69 : decode (am_bytes 57) 69 = .ok (.iload_n 3, 1) := by decide +kernel
theorem d57_70 : decode (am_bytes 57) 70 = .ok (.aload_n 0, 1) := by decide +kernel
theorem d57_71 : decode (am_bytes 57) 71 = .ok (.getfield 48, 3) := by decide +kernel
theorem d57_74 : decode (am_bytes 57) 74 = .ok (.if_icmp .ge 7, 3) := by decide +kernel
theorem d57_77 : decode (am_bytes 57) 77 = .ok (.iconst 3, 1) := by decide +kernel
theorem d57_78 : decode (am_bytes 57) 78 = .ok (.goto 4, 3) := by decide +kernel
theorem d57_81 : decode (am_bytes 57) 81 = .ok (.iconst 0, 1) := by decide +kernel
theorem d57_82 : decode (am_bytes 57) 82 = .ok (.putfield 45, 3) := by decide +kernel
theorem d57_85 : decode (am_bytes 57) 85 = .ok (.aload_n 0, 1) := by decide +kernel
theorem d57_86 : decode (am_bytes 57) 86 = .ok (.getfield 45, 3) := by decide +kernel
theorem d57_89 : decode (am_bytes 57) 89 = .ok (.ifCond .le 5, 3) := by decide +kernel
theorem d57_92 : decode (am_bytes 57) 92 = .ok (.iconst 0, 1) := by decide +kernel
theorem d57_93 : decode (am_bytes 57) 93 = .ok (.ireturn, 1) := by decide +kernel
theorem d57_94 : decode (am_bytes 57) 94 = .ok (.iconst 0, 1) := by decide +kernel
theorem d57_95 : decode (am_bytes 57) 95 = .ok (.istore 4, 2) := by decide +kernel
theorem d57_97 : decode (am_bytes 57) 97 = .ok (.iconst 0, 1) := by decide +kernel
theorem d57_98 : decode (am_bytes 57) 98 = .ok (.istore 5, 2) := by decide +kernel
theorem d57_100 : decode (am_bytes 57) 100 = .ok (.iconst 0, 1) := by decide +kernel
theorem d57_101 : decode (am_bytes 57) 101 = .ok (.istore 6, 2) := by decide +kernel
theorem d57_103 : decode (am_bytes 57) 103 = .ok (.iload 6, 2) := by decide +kernel
theorem d57_105 : decode (am_bytes 57) 105 = .ok (.bipush 48, 2) := by decide +kernel
theorem d57_107 : decode (am_bytes 57) 107 = .ok (.if_icmp .ge 99, 3) := by decide +kernel
theorem d57_110 : decode (am_bytes 57) 110 = .ok (.aload_n 0, 1) := by decide +kernel
theorem d57_111 : decode (am_bytes 57) 111 = .ok (.iload_n 1, 1) := by decide +kernel
theorem d57_112 : decode (am_bytes 57) 112 = .ok (.iload 6, 2) := by decide +kernel
theorem d57_114 : decode (am_bytes 57) 114 = .ok (.iload_n 3, 1) := by decide +kernel
theorem d57_115 : decode (am_bytes 57) 115 = .ok (.invokevirtual 109, 3) := by decide +kernel
theorem d57_118 : decode (am_bytes 57) 118 = .ok (.ifCond .eq 36, 3) := by decide +kernel
theorem d57_121 : decode (am_bytes 57) 121 = .ok (.aload_n 0, 1) := by decide +kernel
theorem d57_122 : decode (am_bytes 57) 122 = .ok (.aload_n 0, 1) := by decide +kernel
theorem d57_123 : decode (am_bytes 57) 123 = .ok (.iload_n 1, 1) := by decide +kernel
theorem d57_124 : decode (am_bytes 57) 124 = .ok (.aload_n 0, 1) := by decide +kernel
theorem d57_125 : decode (am_bytes 57) 125 = .ok (.getfield 55, 3) := by decide +kernel
theorem d57_128 : decode (am_bytes 57) 128 = .ok (.iload 6, 2) := by decide +kernel
theorem d57_130 : decode (am_bytes 57) 130 = .ok (.invokevirtual 75, 3) := by decide +kernel
theorem d57_133 : decode (am_bytes 57) 133 = .ok (.aload_n 0, 1) := by decide +kernel
theorem d57_134 : decode (am_bytes 57) 134 = .ok (.iload_n 2, 1) := by decide +kernel
theorem d57_135 : decode (am_bytes 57) 135 = .ok (.aload_n 0, 1) := by decide +kernel
theorem d57_136 : decode (am_bytes 57) 136 = .ok (.getfield 55, 3) := by decide +kernel
theorem d57_139 : decode (am_bytes 57) 139 = .ok (.iload 6, 2) := by decide +kernel
theorem d57_141 : decode (am_bytes 57) 141 = .ok (.invokevirtual 75, 3) := by decide +kernel
theorem d57_144 : decode (am_bytes 57) 144 = .ok (.invokevirtual 96, 3) := by decide +kernel
theorem d57_147 : decode (am_bytes 57) 147 = .ok (.ifCond .ne 7, 3) := by decide +kernel
theorem d57_150 : decode (am_bytes 57) 150 = .ok (.iconst 1, 1) := by decide +kernel
theorem d57_151 : decode (am_bytes 57) 151 = .ok (.goto 4, 3) := by decide +kernel
theorem d57_154 : decode (am_bytes 57) 154 = .ok (.iconst 0, 1) := by decide +kernel
theorem d57_155 : decode (am_bytes 57) 155 = .ok (.istore 7, 2) := by decide +kernel
theorem d57_157 : decode (am_bytes 57) 157 = .ok (.iload 7, 2) := by decide +kernel
theorem d57_159 : decode (am_bytes 57) 159 = .ok (.ifCond .eq 10, 3) := by decide +kernel
theorem d57_162 : decode (am_bytes 57) 162 = .ok (.iload 5, 2) := by decide +kernel
theorem d57_164 : decode (am_bytes 57) 164 = .ok (.iconst 1, 1) := by decide +kernel
theorem d57_165 : decode (am_bytes 57) 165 = .ok (.iadd, 1) := by decide +kernel
theorem d57_166 : decode (am_bytes 57) 166 = .ok (.goto 5, 3) := by decide +kernel
theorem d57_169 : decode (am_bytes 57) 169 = .ok (.iload 5, 2) := by decide +kernel
theorem d57_171 : decode (am_bytes 57) 171 = .ok (.istore 5, 2) := by decide +kernel
theorem d57_173 : decode (am_bytes 57) 173 = .ok (.iload 7, 2) := by decide +kernel
theorem d57_175 : decode (am_bytes 57) 175 = .ok (.ifCond .eq 21, 3) := by decide +kernel
theorem d57_178 : decode (am_bytes 57) 178 = .ok (.aload_n 0, 1) := by decide +kernel
theorem d57_179 : decode (am_bytes 57) 179 = .ok (.iload_n 2, 1) := by decide +kernel
theorem d57_180 : decode (am_bytes 57) 180 = .ok (.iload 6, 2) := by decide +kernel
theorem d57_182 : decode (am_bytes 57) 182 = .ok (.iload_n 3, 1) := by decide +kernel
theorem d57_183 : decode (am_bytes 57) 183 = .ok (.invokevirtual 109, 3) := by decide +kernel
theorem d57_186 : decode (am_bytes 57) 186 = .ok (.ifCond .eq 10, 3) := by decide +kernel
theorem d57_189 : decode (am_bytes 57) 189 = .ok (.iload 4, 2) := by decide +kernel
theorem d57_191 : decode (am_bytes 57) 191 = .ok (.iconst 1, 1) := by decide +kernel
theorem d57_192 : decode (am_bytes 57) 192 = .ok (.iadd, 1) := by decide +kernel
theorem d57_193 : decode (am_bytes 57) 193 = .ok (.goto 5, 3) := by decide +kernel
theorem d57_196 : decode (am_bytes 57) 196 = .ok (.iload 4, 2) := by decide +kernel
theorem d57_198 : decode (am_bytes 57) 198 = .ok (.istore 4, 2) := by decide +kernel
theorem d57_200 : decode (am_bytes 57) 200 = .ok (.iinc 6 1, 3) := by decide +kernel
theorem d57_203 : decode (am_bytes 57) 203 = .ok (.goto (-100), 3) := by decide +kernel
theorem d57_206 : decode (am_bytes 57) 206 = .ok (.aload_n 0, 1) := by decide +kernel
theorem d57_207 : decode (am_bytes 57) 207 = .ok (.iload 4, 2) := by decide +kernel
theorem d57_209 : decode (am_bytes 57) 209 = .ok (.ifCond .ne 19, 3) := by decide +kernel
theorem d57_212 : decode (am_bytes 57) 212 = .ok (.aload_n 0, 1) := by decide +kernel
theorem d57_213 : decode (am_bytes 57) 213 = .ok (.getfield 58, 3) := by decide +kernel
theorem d57_216 : decode (am_bytes 57) 216 = .ok (.iload 5, 2) := by decide +kernel
theorem d57_218 : decode (am_bytes 57) 218 = .ok (.iadd, 1) := by decide +kernel
theorem d57_219 : decode (am_bytes 57) 219 = .ok (.bipush 120, 2) := by decide +kernel
theorem d57_221 : decode (am_bytes 57) 221 = .ok (.if_icmp .le 7, 3) := by decide +kernel
theorem d57_224 : decode (am_bytes 57) 224 = .ok (.iconst 4, 1) := by decide +kernel
theorem d57_225 : decode (am_bytes 57) 225 = .ok (.goto 4, 3) := by decide +kernel
theorem d57_228 : decode (am_bytes 57) 228 = .ok (.iconst 0, 1) := by decide +kernel
theorem d57_229 : decode (am_bytes 57) 229 = .ok (.putfield 45, 3) := by decide +kernel
theorem d57_232 : decode (am_bytes 57) 232 = .ok (.aload_n 0, 1) := by decide +kernel
theorem d57_233 : decode (am_bytes 57) 233 = .ok (.getfield 45, 3) := by decide +kernel
theorem d57_236 : decode (am_bytes 57) 236 = .ok (.ifCond .le 5, 3) := by decide +kernel
theorem d57_239 : decode (am_bytes 57) 239 = .ok (.iconst 0, 1) := by decide +kernel
theorem d57_240 : decode (am_bytes 57) 240 = .ok (.ireturn, 1) := by decide +kernel
theorem d57_241 : decode (am_bytes 57) 241 = .ok (.aload_n 0, 1) := by decide +kernel
theorem d57_242 : decode (am_bytes 57) 242 = .ok (.getfield 55, 3) := by decide +kernel
theorem d57_245 : decode (am_bytes 57) 245 = .ok (.istore 6, 2) := by decide +kernel
theorem d57_247 : decode (am_bytes 57) 247 = .ok (.iconst 0, 1) := by decide +kernel
theorem d57_248 : decode (am_bytes 57) 248 = .ok (.istore 7, 2) := by decide +kernel
theorem d57_250 : decode (am_bytes 57) 250 = .ok (.iload 7, 2) := by decide +kernel
theorem d57_252 : decode (am_bytes 57) 252 = .ok (.bipush 48, 2) := by decide +kernel
theorem d57_254 : decode (am_bytes 57) 254 = .ok (.if_icmp .ge 79, 3) := by decide +kernel
theorem d57_257 : decode (am_bytes 57) 257 = .ok (.iload 4, 2) := by decide +kernel
theorem d57_259 : decode (am_bytes 57) 259 = .ok (.ifCond .ne 74, 3) := by decide +kernel
theorem d57_262 : decode (am_bytes 57) 262 = .ok (.aload_n 0, 1) := by decide +kernel
theorem d57_263 : decode (am_bytes 57) 263 = .ok (.iload_n 1, 1) := by decide +kernel
theorem d57_264 : decode (am_bytes 57) 264 = .ok (.iload 6, 2) := by decide +kernel
theorem d57_266 : decode (am_bytes 57) 266 = .ok (.iload 7, 2) := by decide +kernel
theorem d57_268 : decode (am_bytes 57) 268 = .ok (.invokevirtual 75, 3) := by decide +kernel
theorem d57_271 : decode (am_bytes 57) 271 = .ok (.istore 8, 2) := by decide +kernel
theorem d57_273 : decode (am_bytes 57) 273 = .ok (.aload_n 0, 1) := by decide +kernel
theorem d57_274 : decode (am_bytes 57) 274 = .ok (.iload 8, 2) := by decide +kernel
theorem d57_276 : decode (am_bytes 57) 276 = .ok (.aload_n 0, 1) := by decide +kernel
theorem d57_277 : decode (am_bytes 57) 277 = .ok (.iload_n 1, 1) := by decide +kernel
theorem d57_278 : decode (am_bytes 57) 278 = .ok (.iload_n 3, 1) := by decide +kernel
theorem d57_279 : decode (am_bytes 57) 279 = .ok (.iload 7, 2) := by decide +kernel
theorem d57_281 : decode (am_bytes 57) 281 = .ok (.invokevirtual 75, 3) := by decide +kernel
theorem d57_284 : decode (am_bytes 57) 284 = .ok (.invokevirtual 96, 3) := by decide +kernel
theorem d57_287 : decode (am_bytes 57) 287 = .ok (.ifCond .ne 40, 3) := by decide +kernel
theorem d57_290 : decode (am_bytes 57) 290 = .ok (.aload_n 0, 1) := by decide +kernel
theorem d57_291 : decode (am_bytes 57) 291 = .ok (.iload 8, 2) := by decide +kernel
theorem d57_293 : decode (am_bytes 57) 293 = .ok (.aload_n 0, 1) := by decide +kernel
theorem d57_294 : decode (am_bytes 57) 294 = .ok (.iload_n 2, 1) := by decide +kernel
theorem d57_295 : decode (am_bytes 57) 295 = .ok (.iload 6, 2) := by decide +kernel
theorem d57_297 : decode (am_bytes 57) 297 = .ok (.iload 7, 2) := by decide +kernel
theorem d57_299 : decode (am_bytes 57) 299 = .ok (.invokevirtual 75, 3) := by decide +kernel
theorem d57_302 : decode (am_bytes 57) 302 = .ok (.invokevirtual 96, 3) := by decide +kernel
theorem d57_305 : decode (am_bytes 57) 305 = .ok (.ifCond .ne 22, 3) := by decide +kernel
theorem d57_308 : decode (am_bytes 57) 308 = .ok (.aload_n 0, 1) := by decide +kernel
theorem d57_309 : decode (am_bytes 57) 309 = .ok (.iload_n 2, 1) := by decide +kernel
theorem d57_310 : decode (am_bytes 57) 310 = .ok (.iload 7, 2) := by decide +kernel
theorem d57_312 : decode (am_bytes 57) 312 = .ok (.aload_n 0, 1) := by decide +kernel
theorem d57_313 : decode (am_bytes 57) 313 = .ok (.iload 8, 2) := by decide +kernel
theorem d57_315 : decode (am_bytes 57) 315 = .ok (.invokevirtual 65, 3) := by decide +kernel
theorem d57_318 : decode (am_bytes 57) 318 = .ok (.aload_n 0, 1) := by decide +kernel
theorem d57_319 : decode (am_bytes 57) 319 = .ok (.iload 8, 2) := by decide +kernel
theorem d57_321 : decode (am_bytes 57) 321 = .ok (.invokevirtual 68, 3) := by decide +kernel
theorem d57_324 : decode (am_bytes 57) 324 = .ok (.invokevirtual 89, 3) := by decide +kernel
theorem d57_327 : decode (am_bytes 57) 327 = .ok (.iinc 7 1, 3) := by decide +kernel
theorem d57_330 : decode (am_bytes 57) 330 = .ok (.goto (-80), 3) := by decide +kernel
theorem d57_333 : decode (am_bytes 57) 333 = .ok (.iload 4, 2) := by decide +kernel
theorem d57_335 : decode (am_bytes 57) 335 = .ok (.ireturn, 1) := by decide +kernel
theorem d58_0 : decode (am_bytes 58) 0 = .ok (.aload_n 0, 1) := by decide +kernel
theorem d58_1 : decode (am_bytes 58) 1 = .ok (.iload_n 1, 1) := by decide +kernel
theorem d58_2 : decode (am_bytes 58) 2 = .ok (.aload_n 0, 1) := by decide +kernel
theorem d58_3 : decode (am_bytes 58) 3 = .ok (.getfield 48, 3) := by decide +kernel
theorem d58_6 : decode (am_bytes 58) 6 = .ok (.if_icmp .lt 11, 3) := by decide +kernel
theorem d58_9 : decode (am_bytes 58) 9 = .ok (.iload_n 1, 1) := by decide +kernel
theorem d58_10 : decode (am_bytes 58) 10 = .ok (.aload_n 0, 1) := by decide +kernel
theorem d58_11 : decode (am_bytes 58) 11 = .ok (.getfield 55, 3) := by decide +kernel
theorem d58_14 : decode (am_bytes 58) 14 = .ok (.if_icmp .le 7, 3) := by decide +kernel
theorem d58_17 : decode (am_bytes 58) 17 = .ok (.iconst 1, 1) := by decide +kernel
theorem d58_18 : decode (am_bytes 58) 18 = .ok (.goto 4, 3) := by decide +kernel
theorem d58_21 : decode (am_bytes 58) 21 = .ok (.iconst 0, 1) := by decide +kernel
theorem d58_22 : decode (am_bytes 58) 22 = .ok (.putfield 45, 3) := by decide +kernel
theorem d58_25 : decode (am_bytes 58) 25 = .ok (.aload_n 0, 1) := by decide +kernel
theorem d58_26 : decode (am_bytes 58) 26 = .ok (.getfield 45, 3) := by decide +kernel
theorem d58_29 : decode (am_bytes 58) 29 = .ok (.ifCond .le 5, 3) := by decide +kernel
theorem d58_32 : decode (am_bytes 58) 32 = .ok (.iconst 0, 1) := by decide +kernel
theorem d58_33 : decode (am_bytes 58) 33 = .ok (.ireturn, 1) := by decide +kernel
theorem d58_34 : decode (am_bytes 58) 34 = .ok (.aload_n 0, 1) := by decide +kernel
theorem d58_35 : decode (am_bytes 58) 35 = .ok (.iload_n 1, 1) := by decide +kernel
theorem d58_36 : decode (am_bytes 58) 36 = .ok (.putfield 48, 3) := by decide +kernel
theorem d58_39 : decode (am_bytes 58) 39 = .ok (.iconst 0, 1) := by decide +kernel
theorem d58_40 : decode (am_bytes 58) 40 = .ok (.istore_n 2, 1) := by decide +kernel
theorem d58_41 : decode (am_bytes 58) 41 = .ok (.iload_n 2, 1) := by decide +kernel
theorem d58_42 : decode (am_bytes 58) 42 = .ok (.aload_n 0, 1) := by decide +kernel
theorem d58_43 : decode (am_bytes 58) 43 = .ok (.getfield 58, 3) := by decide +kernel
theorem d58_46 : decode (am_bytes 58) 46 = .ok (.if_icmp .ge 61, 3) := by decide +kernel
theorem d58_49 : decode (am_bytes 58) 49 = .ok (.aload_n 0, 1) := by decide +kernel
theorem d58_50 : decode (am_bytes 58) 50 = .ok (.getfield 39, 3) := by decide +kernel
theorem d58_53 : decode (am_bytes 58) 53 = .ok (.iload_n 2, 1) := by decide +kernel
theorem d58_54 : decode (am_bytes 58) 54 = .ok (.iconst 0, 1) := by decide +kernel
theorem d58_55 : decode (am_bytes 58) 55 = .ok (.bastore, 1) := by decide +kernel
theorem d58_56 : decode (am_bytes 58) 56 = .ok (.iconst 0, 1) := by decide +kernel
theorem d58_57 : decode (am_bytes 58) 57 = .ok (.istore_n 3, 1) := by decide +kernel
theorem d58_58 : decode (am_bytes 58) 58 = .ok (.iload_n 3, 1) := by decide +kernel
theorem d58_59 : decode (am_bytes 58) 59 = .ok (.aload_n 0, 1) := by decide +kernel
theorem d58_60 : decode (am_bytes 58) 60 = .ok (.getfield 7, 3) := by decide +kernel
theorem d58_63 : decode (am_bytes 58) 63 = .ok (.if_icmp .ge 38, 3) := by decide +kernel
theorem d58_66 : decode (am_bytes 58) 66 = .ok (.aload_n 0, 1) := by decide +kernel
theorem d58_67 : decode (am_bytes 58) 67 = .ok (.getfield 39, 3) := by decide +kernel
theorem d58_70 : decode (am_bytes 58) 70 = .ok (.iload_n 2, 1) := by decide +kernel
theorem d58_71 : decode (am_bytes 58) 71 = .ok (.aload_n 0, 1) := by decide +kernel
theorem d58_72 : decode (am_bytes 58) 72 = .ok (.getfield 39, 3) := by decide +kernel
theorem d58_75 : decode (am_bytes 58) 75 = .ok (.iload_n 2, 1) := by decide +kernel
theorem d58_76 : decode (am_bytes 58) 76 = .ok (.baload, 1) := by decide +kernel
theorem d58_77 : decode (am_bytes 58) 77 = .ok (.ifCond .ne 12, 3) := by decide +kernel
theorem d58_80 : decode (am_bytes 58) 80 = .ok (.aload_n 0, 1) := by decide +kernel
theorem d58_81 : decode (am_bytes 58) 81 = .ok (.iload_n 3, 1) := by decide +kernel
theorem d58_82 : decode (am_bytes 58) 82 = .ok (.iload_n 2, 1) := by decide +kernel
theorem d58_83 : decode (am_bytes 58) 83 = .ok (.invokevirtual 93, 3) := by decide +kernel
theorem d58_86 : decode (am_bytes 58) 86 = .ok (.ifCond .eq 7, 3) := by decide +kernel
theorem d58_89 : decode (am_bytes 58) 89 = .ok (.iconst 1, 1) := by decide +kernel
theorem d58_90 : decode (am_bytes 58) 90 = .ok (.goto 4, 3) := by decide +kernel
theorem d58_93 : decode (am_bytes 58) 93 = .ok (.iconst 0, 1) := by decide +kernel
theorem d58_94 : decode (am_bytes 58) 94 = .ok (.bastore, 1) := by decide +kernel
theorem d58_95 : decode (am_bytes 58) 95 = .ok (.iinc 3 1, 3) := by decide +kernel
theorem d58_98 : decode (am_bytes 58) 98 = .ok (.goto (-40), 3) := by decide +kernel
theorem d58_101 : decode (am_bytes 58) 101 = .ok (.iinc 2 1, 3) := by decide +kernel
theorem d58_104 : decode (am_bytes 58) 104 = .ok (.goto (-63), 3) := by decide +kernel
theorem d58_107 : decode (am_bytes 58) 107 = .ok (.iconst 0, 1) := by decide +kernel
theorem d58_108 : decode (am_bytes 58) 108 = .ok (.istore_n 2, 1) := by decide +kernel
theorem d58_109 : decode (am_bytes 58) 109 = .ok (.iconst 0, 1) := by decide +kernel
theorem d58_110 : decode (am_bytes 58) 110 = .ok (.istore_n 3, 1) := by decide +kernel
theorem d58_111 : decode (am_bytes 58) 111 = .ok (.iload_n 3, 1) := by decide +kernel
theorem d58_112 : decode (am_bytes 58) 112 = .ok (.aload_n 0, 1) := by decide +kernel
theorem d58_113 : decode (am_bytes 58) 113 = .ok (.getfield 58, 3) := by decide +kernel
theorem d58_116 : decode (am_bytes 58) 116 = .ok (.if_icmp .ge 81, 3) := by decide +kernel
theorem d58_119 : decode (am_bytes 58) 119 = .ok (.aload_n 0, 1) := by decide +kernel
theorem d58_120 : decode (am_bytes 58) 120 = .ok (.getfield 39, 3) := by decide +kernel
theorem d58_123 : decode (am_bytes 58) 123 = .ok (.iload_n 3, 1) := by decide +kernel
theorem d58_124 : decode (am_bytes 58) 124 = .ok (.baload, 1) := by decide +kernel
theorem d58_125 : decode (am_bytes 58) 125 = .ok (.ifCond .eq 66, 3) := by decide +kernel
theorem d58_128 : decode (am_bytes 58) 128 = .ok (.aload_n 0, 1) := by decide +kernel
theorem d58_129 : decode (am_bytes 58) 129 = .ok (.getfield 24, 3) := by decide +kernel
theorem d58_132 : decode (am_bytes 58) 132 = .ok (.iload_n 2, 1) := by decide +kernel
theorem d58_133 : decode (am_bytes 58) 133 = .ok (.aload_n 0, 1) := by decide +kernel
theorem d58_134 : decode (am_bytes 58) 134 = .ok (.getfield 24, 3) := by decide +kernel
theorem d58_137 : decode (am_bytes 58) 137 = .ok (.iload_n 3, 1) := by decide +kernel
theorem d58_138 : decode (am_bytes 58) 138 = .ok (.iaload, 1) := by decide +kernel
theorem d58_139 : decode (am_bytes 58) 139 = .ok (.iastore, 1) := by decide +kernel
theorem d58_140 : decode (am_bytes 58) 140 = .ok (.aload_n 0, 1) := by decide +kernel
theorem d58_141 : decode (am_bytes 58) 141 = .ok (.getfield 27, 3) := by decide +kernel
theorem d58_144 : decode (am_bytes 58) 144 = .ok (.iload_n 2, 1) := by decide +kernel
theorem d58_145 : decode (am_bytes 58) 145 = .ok (.aload_n 0, 1) := by decide +kernel
theorem d58_146 : decode (am_bytes 58) 146 = .ok (.getfield 27, 3) := by decide +kernel
theorem d58_149 : decode (am_bytes 58) 149 = .ok (.iload_n 3, 1) := by decide +kernel
theorem d58_150 : decode (am_bytes 58) 150 = .ok (.iaload, 1) := by decide +kernel
theorem d58_151 : decode (am_bytes 58) 151 = .ok (.iastore, 1) := by decide +kernel
theorem d58_152 : decode (am_bytes 58) 152 = .ok (.aload_n 0, 1) := by decide +kernel
theorem d58_153 : decode (am_bytes 58) 153 = .ok (.getfield 30, 3) := by decide +kernel
theorem d58_156 : decode (am_bytes 58) 156 = .ok (.iload_n 2, 1) := by decide +kernel
theorem d58_157 : decode (am_bytes 58) 157 = .ok (.aload_n 0, 1) := by decide +kernel
theorem d58_158 : decode (am_bytes 58) 158 = .ok (.getfield 30, 3) := by decide +kernel
theorem d58_161 : decode (am_bytes 58) 161 = .ok (.iload_n 3, 1) := by decide +kernel
theorem d58_162 : decode (am_bytes 58) 162 = .ok (.iaload, 1) := by decide +kernel
theorem d58_163 : decode (am_bytes 58) 163 = .ok (.iastore, 1) := by decide +kernel
theorem d58_164 : decode (am_bytes 58) 164 = .ok (.aload_n 0, 1) := by decide +kernel
theorem d58_165 : decode (am_bytes 58) 165 = .ok (.getfield 33, 3) := by decide +kernel
theorem d58_168 : decode (am_bytes 58) 168 = .ok (.iload_n 2, 1) := by decide +kernel
theorem d58_169 : decode (am_bytes 58) 169 = .ok (.aload_n 0, 1) := by decide +kernel
theorem d58_170 : decode (am_bytes 58) 170 = .ok (.getfield 33, 3) := by decide +kernel
theorem d58_173 : decode (am_bytes 58) 173 = .ok (.iload_n 3, 1) := by decide +kernel
theorem d58_174 : decode (am_bytes 58) 174 = .ok (.iaload, 1) := by decide +kernel
theorem d58_175 : decode (am_bytes 58) 175 = .ok (.iastore, 1) := by decide +kernel
theorem d58_176 : decode (am_bytes 58) 176 = .ok (.aload_n 0, 1) := by decide +kernel
theorem d58_177 : decode (am_bytes 58) 177 = .ok (.getfield 36, 3) := by decide +kernel
theorem d58_180 : decode (am_bytes 58) 180 = .ok (.iload_n 2, 1) := by decide +kernel
theorem d58_181 : decode (am_bytes 58) 181 = .ok (.aload_n 0, 1) := by decide +kernel
theorem d58_182 : decode (am_bytes 58) 182 = .ok (.getfield 36, 3) := by decide +kernel
theorem d58_185 : decode (am_bytes 58) 185 = .ok (.iload_n 3, 1) := by decide +kernel
theorem d58_186 : decode (am_bytes 58) 186 = .ok (.iaload, 1) := by decide +kernel
theorem d58_187 : decode (am_bytes 58) 187 = .ok (.iastore, 1) := by decide +kernel
theorem d58_188 : decode (am_bytes 58) 188 = .ok (.iinc 2 1, 3) := by decide +kernel
theorem d58_191 : decode (am_bytes 58) 191 = .ok (.iinc 3 1, 3) := by decide +kernel
theorem d58_194 : decode (am_bytes 58) 194 = .ok (.goto (-83), 3) := by decide +kernel
theorem d58_197 : decode (am_bytes 58) 197 = .ok (.aload_n 0, 1) := by decide +kernel
theorem d58_198 : decode (am_bytes 58) 198 = .ok (.getfield 58, 3) := by decide +kernel
theorem d58_201 : decode (am_bytes 58) 201 = .ok (.iload_n 2, 1) := by decide +kernel
theorem d58_202 : decode (am_bytes 58) 202 = .ok (.isub, 1) := by decide +kernel
theorem d58_203 : decode (am_bytes 58) 203 = .ok (.istore_n 3, 1) := by decide +kernel
theorem d58_204 : decode (am_bytes 58) 204 = .ok (.aload_n 0, 1) := by decide +kernel
theorem d58_205 : decode (am_bytes 58) 205 = .ok (.iload_n 2, 1) := by decide +kernel
theorem d58_206 : decode (am_bytes 58) 206 = .ok (.putfield 58, 3) := by decide +kernel
theorem d58_209 : decode (am_bytes 58) 209 = .ok (.iload_n 3, 1) := by decide +kernel
theorem d58_210 : decode (am_bytes 58) 210 = .ok (.ireturn, 1) := by decide +kernel
theorem d59_0 : decode (am_bytes 59) 0 = .ok (.iconst 0, 1) := by decide +kernel
theorem d59_1 : decode (am_bytes 59) 1 = .ok (.istore 5, 2) := by decide +kernel
theorem d59_3 : decode (am_bytes 59) 3 = .ok (.iconst 0, 1) := by decide +kernel
theorem d59_4 : decode (am_bytes 59) 4 = .ok (.istore 6, 2) := by decide +kernel
theorem d59_6 : decode (am_bytes 59) 6 = .ok (.iload 6, 2) := by decide +kernel
theorem d59_8 : decode (am_bytes 59) 8 = .ok (.bipush 12, 2) := by decide +kernel
theorem d59_10 : decode (am_bytes 59) 10 = .ok (.if_icmp .ge 62, 3) := by decide +kernel
theorem d59_13 : decode (am_bytes 59) 13 = .ok (.aload_n 0, 1) := by decide +kernel
theorem d59_14 : decode (am_bytes 59) 14 = .ok (.iload_n 3, 1) := by decide +kernel
theorem d59_15 : decode (am_bytes 59) 15 = .ok (.iload 4, 2) := by decide +kernel
theorem d59_17 : decode (am_bytes 59) 17 = .ok (.iconst 4, 1) := by decide +kernel
theorem d59_18 : decode (am_bytes 59) 18 = .ok (.iload 6, 2) := by decide +kernel
theorem d59_20 : decode (am_bytes 59) 20 = .ok (.imul, 1) := by decide +kernel
theorem d59_21 : decode (am_bytes 59) 21 = .ok (.iload_n 2, 1) := by decide +kernel
theorem d59_22 : decode (am_bytes 59) 22 = .ok (.iadd, 1) := by decide +kernel
theorem d59_23 : decode (am_bytes 59) 23 = .ok (.invokevirtual 75, 3) := by decide +kernel
theorem d59_26 : decode (am_bytes 59) 26 = .ok (.istore 7, 2) := by decide +kernel
theorem d59_28 : decode (am_bytes 59) 28 = .ok (.iload_n 1, 1) := by decide +kernel
theorem d59_29 : decode (am_bytes 59) 29 = .ok (.iload 6, 2) := by decide +kernel
theorem d59_31 : decode (am_bytes 59) 31 = .ok (.ishr, 1) := by decide +kernel
theorem d59_32 : decode (am_bytes 59) 32 = .ok (.iconst 1, 1) := by decide +kernel
theorem d59_33 : decode (am_bytes 59) 33 = .ok (.iand, 1) := by decide +kernel
theorem d59_34 : decode (am_bytes 59) 34 = .ok (.iconst 1, 1) := by decide +kernel
theorem d59_35 : decode (am_bytes 59) 35 = .ok (.if_icmp .ne 27, 3) := by decide +kernel
theorem d59_38 : decode (am_bytes 59) 38 = .ok (.aload_n 0, 1) := by decide +kernel
theorem d59_39 : decode (am_bytes 59) 39 = .ok (.iload 7, 2) := by decide +kernel
theorem d59_41 : decode (am_bytes 59) 41 = .ok (.invokevirtual 65, 3) := by decide +kernel
theorem d59_44 : decode (am_bytes 59) 44 = .ok (.iconst 2, 1) := by decide +kernel
theorem d59_45 : decode (am_bytes 59) 45 = .ok (.if_icmp .ne 17, 3) := by decide +kernel
theorem d59_48 : decode (am_bytes 59) 48 = .ok (.iload 5, 2) := by decide +kernel
theorem d59_50 : decode (am_bytes 59) 50 = .ok (.iconst 1, 1) := by decide +kernel
theorem d59_51 : decode (am_bytes 59) 51 = .ok (.aload_n 0, 1) := by decide +kernel
theorem d59_52 : decode (am_bytes 59) 52 = .ok (.iload 7, 2) := by decide +kernel
theorem d59_54 : decode (am_bytes 59) 54 = .ok (.invokevirtual 68, 3) := by decide +kernel
theorem d59_57 : decode (am_bytes 59) 57 = .ok (.ishl, 1) := by decide +kernel
theorem d59_58 : decode (am_bytes 59) 58 = .ok (.ior, 1) := by decide +kernel
theorem d59_59 : decode (am_bytes 59) 59 = .ok (.goto 5, 3) := by decide +kernel
theorem d59_62 : decode (am_bytes 59) 62 = .ok (.iload 5, 2) := by decide +kernel
theorem d59_64 : decode (am_bytes 59) 64 = .ok (.istore 5, 2) := by decide +kernel
theorem d59_66 : decode (am_bytes 59) 66 = .ok (.iinc 6 1, 3) := by decide +kernel
theorem d59_69 : decode (am_bytes 59) 69 = .ok (.goto (-63), 3) := by decide +kernel
theorem d59_72 : decode (am_bytes 59) 72 = .ok (.iload 5, 2) := by decide +kernel
theorem d59_74 : decode (am_bytes 59) 74 = .ok (.ireturn, 1) := by decide +kernel
theorem d60_0 : decode (am_bytes 60) 0 = .ok (.iconst 0, 1) := by decide +kernel
theorem d60_1 : decode (am_bytes 60) 1 = .ok (.istore 5, 2) := by decide +kernel
theorem d60_3 : decode (am_bytes 60) 3 = .ok (.iconst 0, 1) := by decide +kernel
theorem d60_4 : decode (am_bytes 60) 4 = .ok (.istore 6, 2) := by decide +kernel
theorem d60_6 : decode (am_bytes 60) 6 = .ok (.iload 6, 2) := by decide +kernel
theorem d60_8 : decode (am_bytes 60) 8 = .ok (.bipush 12, 2) := by decide +kernel
theorem d60_10 : decode (am_bytes 60) 10 = .ok (.if_icmp .ge 62, 3) := by decide +kernel
theorem d60_13 : decode (am_bytes 60) 13 = .ok (.aload_n 0, 1) := by decide +kernel
theorem d60_14 : decode (am_bytes 60) 14 = .ok (.iload_n 3, 1) := by decide +kernel
theorem d60_15 : decode (am_bytes 60) 15 = .ok (.iload 4, 2) := by decide +kernel
theorem d60_17 : decode (am_bytes 60) 17 = .ok (.iconst 4, 1) := by decide +kernel
theorem d60_18 : decode (am_bytes 60) 18 = .ok (.iload 6, 2) := by decide +kernel
theorem d60_20 : decode (am_bytes 60) 20 = .ok (.imul, 1) := by decide +kernel
theorem d60_21 : decode (am_bytes 60) 21 = .ok (.iload_n 2, 1) := by decide +kernel
theorem d60_22 : decode (am_bytes 60) 22 = .ok (.iadd, 1) := by decide +kernel
theorem d60_23 : decode (am_bytes 60) 23 = .ok (.invokevirtual 75, 3) := by decide +kernel
theorem d60_26 : decode (am_bytes 60) 26 = .ok (.istore 7, 2) := by decide +kernel
theorem d60_28 : decode (am_bytes 60) 28 = .ok (.aload_n 0, 1) := by decide +kernel
theorem d60_29 : decode (am_bytes 60) 29 = .ok (.iload 7, 2) := by decide +kernel
theorem d60_31 : decode (am_bytes 60) 31 = .ok (.invokevirtual 65, 3) := by decide +kernel
theorem d60_34 : decode (am_bytes 60) 34 = .ok (.iconst 2, 1) := by decide +kernel
theorem d60_35 : decode (am_bytes 60) 35 = .ok (.if_icmp .ne 27, 3) := by decide +kernel
theorem d60_38 : decode (am_bytes 60) 38 = .ok (.iload_n 1, 1) := by decide +kernel
theorem d60_39 : decode (am_bytes 60) 39 = .ok (.aload_n 0, 1) := by decide +kernel
theorem d60_40 : decode (am_bytes 60) 40 = .ok (.iload 7, 2) := by decide +kernel
theorem d60_42 : decode (am_bytes 60) 42 = .ok (.invokevirtual 68, 3) := by decide +kernel
theorem d60_45 : decode (am_bytes 60) 45 = .ok (.ishr, 1) := by decide +kernel
theorem d60_46 : decode (am_bytes 60) 46 = .ok (.iconst 1, 1) := by decide +kernel
theorem d60_47 : decode (am_bytes 60) 47 = .ok (.iand, 1) := by decide +kernel
theorem d60_48 : decode (am_bytes 60) 48 = .ok (.iconst 1, 1) := by decide +kernel
theorem d60_49 : decode (am_bytes 60) 49 = .ok (.if_icmp .ne 13, 3) := by decide +kernel
theorem d60_52 : decode (am_bytes 60) 52 = .ok (.iload 5, 2) := by decide +kernel
theorem d60_54 : decode (am_bytes 60) 54 = .ok (.iconst 1, 1) := by decide +kernel
theorem d60_55 : decode (am_bytes 60) 55 = .ok (.iload 6, 2) := by decide +kernel
theorem d60_57 : decode (am_bytes 60) 57 = .ok (.ishl, 1) := by decide +kernel
theorem d60_58 : decode (am_bytes 60) 58 = .ok (.ior, 1) := by decide +kernel
theorem d60_59 : decode (am_bytes 60) 59 = .ok (.goto 5, 3) := by decide +kernel
theorem d60_62 : decode (am_bytes 60) 62 = .ok (.iload 5, 2) := by decide +kernel
theorem d60_64 : decode (am_bytes 60) 64 = .ok (.istore 5, 2) := by decide +kernel
theorem d60_66 : decode (am_bytes 60) 66 = .ok (.iinc 6 1, 3) := by decide +kernel
theorem d60_69 : decode (am_bytes 60) 69 = .ok (.goto (-63), 3) := by decide +kernel
theorem d60_72 : decode (am_bytes 60) 72 = .ok (.iload 5, 2) := by decide +kernel
theorem d60_74 : decode (am_bytes 60) 74 = .ok (.ireturn, 1) := by decide +kernel
theorem d61_0 : decode (am_bytes 61) 0 = .ok (.aload_n 0, 1) := by decide +kernel
theorem d61_1 : decode (am_bytes 61) 1 = .ok (.aload_n 0, 1) := by decide +kernel
theorem d61_2 : decode (am_bytes 61) 2 = .ok (.iload_n 1, 1) := by decide +kernel
theorem d61_3 : decode (am_bytes 61) 3 = .ok (.invokevirtual 79, 3) := by decide +kernel
theorem d61_6 : decode (am_bytes 61) 6 = .ok (.ifCond .ne 13, 3) := by decide +kernel
theorem d61_9 : decode (am_bytes 61) 9 = .ok (.iload_n 3, 1) := by decide +kernel
theorem d61_10 : decode (am_bytes 61) 10 = .ok (.ifCond .lt 9, 3) := by decide +kernel
theorem d61_13 : decode (am_bytes 61) 13 = .ok (.iload_n 3, 1) := by decide +kernel
theorem d61_14 : decode (am_bytes 61) 14 = .ok (.bipush 11, 2) := by decide +kernel
theorem d61_16 : decode (am_bytes 61) 16 = .ok (.if_icmp .le 7, 3) := by decide +kernel
theorem d61_19 : decode (am_bytes 61) 19 = .ok (.iconst 1, 1) := by decide +kernel
theorem d61_20 : decode (am_bytes 61) 20 = .ok (.goto 17, 3) := by decide +kernel
theorem d61_23 : decode (am_bytes 61) 23 = .ok (.aload_n 0, 1) := by decide +kernel
theorem d61_24 : decode (am_bytes 61) 24 = .ok (.iload_n 1, 1) := by decide +kernel
theorem d61_25 : decode (am_bytes 61) 25 = .ok (.iload_n 2, 1) := by decide +kernel
theorem d61_26 : decode (am_bytes 61) 26 = .ok (.invokevirtual 71, 3) := by decide +kernel
theorem d61_29 : decode (am_bytes 61) 29 = .ok (.ifCond .eq 7, 3) := by decide +kernel
theorem d61_32 : decode (am_bytes 61) 32 = .ok (.iconst 2, 1) := by decide +kernel
theorem d61_33 : decode (am_bytes 61) 33 = .ok (.goto 4, 3) := by decide +kernel
