/-! printed: each instruction -/
theorem d61_36 : decode (am_bytes 61) 36 = .ok (.iconst 0, 1) := by decide +kernel
theorem d61_37 : decode (am_bytes 61) 37 = .ok (.putfield 45, 3) := by decide +kernel
theorem d61_40 : decode (am_bytes 61) 40 = .ok (.aload_n 0, 1) := by decide +kernel
theorem d61_41 : decode (am_bytes 61) 41 = .ok (.getfield 45, 3) := by decide +kernel
theorem d61_44 : decode (am_bytes 61) 44 = .ok (.ifCond .le 5, 3) := by decide +kernel
theorem d61_47 : decode (am_bytes 61) 47 = .ok (.iconst 0, 1) := by decide +kernel
theorem d61_48 : decode (am_bytes 61) 48 = .ok (.ireturn, 1) := by decide +kernel
theorem d61_49 : decode (am_bytes 61) 49 = .ok (.iconst 1, 1) := by decide +kernel
theorem d61_50 : decode (am_bytes 61) 50 = .ok (.iload_n 3, 1) := by decide +kernel
theorem d61_51 : decode (am_bytes 61) 51 = .ok (.ishl, 1) := by decide +kernel
theorem d61_52 : decode (am_bytes 61) 52 = .ok (.istore 4, 2) := by decide +kernel
theorem d61_54 : decode (am_bytes 61) 54 = .ok (.iconst 0, 1) := by decide +kernel
theorem d61_55 : decode (am_bytes 61) 55 = .ok (.istore 5, 2) := by decide +kernel
theorem d61_57 : decode (am_bytes 61) 57 = .ok (.iload 5, 2) := by decide +kernel
theorem d61_59 : decode (am_bytes 61) 59 = .ok (.bipush 12, 2) := by decide +kernel
theorem d61_61 : decode (am_bytes 61) 61 = .ok (.if_icmp .ge 39, 3) := by decide +kernel
theorem d61_64 : decode (am_bytes 61) 64 = .ok (.iconst 0, 1) := by decide +kernel
theorem d61_65 : decode (am_bytes 61) 65 = .ok (.istore 6, 2) := by decide +kernel
theorem d61_67 : decode (am_bytes 61) 67 = .ok (.iload 6, 2) := by decide +kernel
theorem d61_69 : decode (am_bytes 61) 69 = .ok (.iconst 4, 1) := by decide +kernel
theorem d61_70 : decode (am_bytes 61) 70 = .ok (.if_icmp .ge 24, 3) := by decide +kernel
theorem d61_73 : decode (am_bytes 61) 73 = .ok (.iload 4, 2) := by decide +kernel
theorem d61_75 : decode (am_bytes 61) 75 = .ok (.aload_n 0, 1) := by decide +kernel
theorem d61_76 : decode (am_bytes 61) 76 = .ok (.iload 4, 2) := by decide +kernel
theorem d61_78 : decode (am_bytes 61) 78 = .ok (.iload 6, 2) := by decide +kernel
theorem d61_80 : decode (am_bytes 61) 80 = .ok (.iload_n 1, 1) := by decide +kernel
theorem d61_81 : decode (am_bytes 61) 81 = .ok (.iload_n 2, 1) := by decide +kernel
theorem d61_82 : decode (am_bytes 61) 82 = .ok (.invokevirtual 112, 3) := by decide +kernel
theorem d61_85 : decode (am_bytes 61) 85 = .ok (.ior, 1) := by decide +kernel
theorem d61_86 : decode (am_bytes 61) 86 = .ok (.istore 4, 2) := by decide +kernel
theorem d61_88 : decode (am_bytes 61) 88 = .ok (.iinc 6 1, 3) := by decide +kernel
theorem d61_91 : decode (am_bytes 61) 91 = .ok (.goto (-24), 3) := by decide +kernel
theorem d61_94 : decode (am_bytes 61) 94 = .ok (.iinc 5 1, 3) := by decide +kernel
theorem d61_97 : decode (am_bytes 61) 97 = .ok (.goto (-40), 3) := by decide +kernel
theorem d61_100 : decode (am_bytes 61) 100 = .ok (.iload 4, 2) := by decide +kernel
theorem d61_102 : decode (am_bytes 61) 102 = .ok (.ireturn, 1) := by decide +kernel
theorem d62_0 : decode (am_bytes 62) 0 = .ok (.iconst 0, 1) := by decide +kernel
theorem d62_1 : decode (am_bytes 62) 1 = .ok (.istore_n 2, 1) := by decide +kernel
theorem d62_2 : decode (am_bytes 62) 2 = .ok (.iconst 0, 1) := by decide +kernel
theorem d62_3 : decode (am_bytes 62) 3 = .ok (.istore_n 3, 1) := by decide +kernel
theorem d62_4 : decode (am_bytes 62) 4 = .ok (.iconst 0, 1) := by decide +kernel
theorem d62_5 : decode (am_bytes 62) 5 = .ok (.istore 4, 2) := by decide +kernel
theorem d62_7 : decode (am_bytes 62) 7 = .ok (.iload 4, 2) := by decide +kernel
theorem d62_9 : decode (am_bytes 62) 9 = .ok (.iconst 4, 1) := by decide +kernel
theorem d62_10 : decode (am_bytes 62) 10 = .ok (.if_icmp .ge 67, 3) := by decide +kernel
theorem d62_13 : decode (am_bytes 62) 13 = .ok (.iload_n 1, 1) := by decide +kernel
theorem d62_14 : decode (am_bytes 62) 14 = .ok (.bipush 24, 2) := by decide +kernel
theorem d62_16 : decode (am_bytes 62) 16 = .ok (.bipush 8, 2) := by decide +kernel
theorem d62_18 : decode (am_bytes 62) 18 = .ok (.iload 4, 2) := by decide +kernel
theorem d62_20 : decode (am_bytes 62) 20 = .ok (.imul, 1) := by decide +kernel
theorem d62_21 : decode (am_bytes 62) 21 = .ok (.isub, 1) := by decide +kernel
theorem d62_22 : decode (am_bytes 62) 22 = .ok (.ishr, 1) := by decide +kernel
theorem d62_23 : decode (am_bytes 62) 23 = .ok (.sipush 255, 3) := by decide +kernel
theorem d62_26 : decode (am_bytes 62) 26 = .ok (.iand, 1) := by decide +kernel
theorem d62_27 : decode (am_bytes 62) 27 = .ok (.istore 5, 2) := by decide +kernel
theorem d62_29 : decode (am_bytes 62) 29 = .ok (.iload 5, 2) := by decide +kernel
theorem d62_31 : decode (am_bytes 62) 31 = .ok (.ifCond .eq 9, 3) := by decide +kernel
theorem d62_34 : decode (am_bytes 62) 34 = .ok (.iload_n 2, 1) := by decide +kernel
theorem d62_35 : decode (am_bytes 62) 35 = .ok (.iconst 1, 1) := by decide +kernel
theorem d62_36 : decode (am_bytes 62) 36 = .ok (.iadd, 1) := by decide +kernel
theorem d62_37 : decode (am_bytes 62) 37 = .ok (.goto 4, 3) := by decide +kernel
theorem d62_40 : decode (am_bytes 62) 40 = .ok (.iload_n 2, 1) := by decide +kernel
theorem d62_41 : decode (am_bytes 62) 41 = .ok (.istore_n 2, 1) := by decide +kernel
theorem d62_42 : decode (am_bytes 62) 42 = .ok (.iload_n 3, 1) := by decide +kernel
theorem d62_43 : decode (am_bytes 62) 43 = .ok (.ifCond .ne 22, 3) := by decide +kernel
theorem d62_46 : decode (am_bytes 62) 46 = .ok (.iload 5, 2) := by decide +kernel
theorem d62_48 : decode (am_bytes 62) 48 = .ok (.ifCond .eq 21, 3) := by decide +kernel
theorem d62_51 : decode (am_bytes 62) 51 = .ok (.iload 5, 2) := by decide +kernel
theorem d62_53 : decode (am_bytes 62) 53 = .ok (.bipush 33, 2) := by decide +kernel
theorem d62_55 : decode (am_bytes 62) 55 = .ok (.if_icmp .lt 10, 3) := by decide +kernel
theorem d62_58 : decode (am_bytes 62) 58 = .ok (.iload 5, 2) := by decide +kernel
theorem d62_60 : decode (am_bytes 62) 60 = .ok (.bipush 126, 2) := by decide +kernel
theorem d62_62 : decode (am_bytes 62) 62 = .ok (.if_icmp .le 7, 3) := by decide +kernel
theorem d62_65 : decode (am_bytes 62) 65 = .ok (.iconst 1, 1) := by decide +kernel
theorem d62_66 : decode (am_bytes 62) 66 = .ok (.goto 4, 3) := by decide +kernel
theorem d62_69 : decode (am_bytes 62) 69 = .ok (.iconst 0, 1) := by decide +kernel
theorem d62_70 : decode (am_bytes 62) 70 = .ok (.istore_n 3, 1) := by decide +kernel
theorem d62_71 : decode (am_bytes 62) 71 = .ok (.iinc 4 1, 3) := by decide +kernel
theorem d62_74 : decode (am_bytes 62) 74 = .ok (.goto (-67), 3) := by decide +kernel
theorem d62_77 : decode (am_bytes 62) 77 = .ok (.aload_n 0, 1) := by decide +kernel
theorem d62_78 : decode (am_bytes 62) 78 = .ok (.iload_n 3, 1) := by decide +kernel
theorem d62_79 : decode (am_bytes 62) 79 = .ok (.ifCond .eq 7, 3) := by decide +kernel
theorem d62_82 : decode (am_bytes 62) 82 = .ok (.iconst 1, 1) := by decide +kernel
theorem d62_83 : decode (am_bytes 62) 83 = .ok (.goto 19, 3) := by decide +kernel
theorem d62_86 : decode (am_bytes 62) 86 = .ok (.aload_n 0, 1) := by decide +kernel
theorem d62_87 : decode (am_bytes 62) 87 = .ok (.getfield 116, 3) := by decide +kernel
theorem d62_90 : decode (am_bytes 62) 90 = .ok (.iload_n 2, 1) := by decide +kernel
theorem d62_91 : decode (am_bytes 62) 91 = .ok (.iadd, 1) := by decide +kernel
theorem d62_92 : decode (am_bytes 62) 92 = .ok (.bipush 32, 2) := by decide +kernel
theorem d62_94 : decode (am_bytes 62) 94 = .ok (.if_icmp .le 7, 3) := by decide +kernel
theorem d62_97 : decode (am_bytes 62) 97 = .ok (.iconst 2, 1) := by decide +kernel
theorem d62_98 : decode (am_bytes 62) 98 = .ok (.goto 4, 3) := by decide +kernel
theorem d62_101 : decode (am_bytes 62) 101 = .ok (.iconst 0, 1) := by decide +kernel
theorem d62_102 : decode (am_bytes 62) 102 = .ok (.putfield 45, 3) := by decide +kernel
theorem d62_105 : decode (am_bytes 62) 105 = .ok (.aload_n 0, 1) := by decide +kernel
theorem d62_106 : decode (am_bytes 62) 106 = .ok (.getfield 45, 3) := by decide +kernel
theorem d62_109 : decode (am_bytes 62) 109 = .ok (.ifCond .le 5, 3) := by decide +kernel
theorem d62_112 : decode (am_bytes 62) 112 = .ok (.iconst 0, 1) := by decide +kernel
theorem d62_113 : decode (am_bytes 62) 113 = .ok (.ireturn, 1) := by decide +kernel
theorem d62_114 : decode (am_bytes 62) 114 = .ok (.iconst 0, 1) := by decide +kernel
theorem d62_115 : decode (am_bytes 62) 115 = .ok (.istore 4, 2) := by decide +kernel
theorem d62_117 : decode (am_bytes 62) 117 = .ok (.iload 4, 2) := by decide +kernel
theorem d62_119 : decode (am_bytes 62) 119 = .ok (.iconst 4, 1) := by decide +kernel
theorem d62_120 : decode (am_bytes 62) 120 = .ok (.if_icmp .ge 51, 3) := by decide +kernel
theorem d62_123 : decode (am_bytes 62) 123 = .ok (.iload_n 1, 1) := by decide +kernel
theorem d62_124 : decode (am_bytes 62) 124 = .ok (.bipush 24, 2) := by decide +kernel
theorem d62_126 : decode (am_bytes 62) 126 = .ok (.bipush 8, 2) := by decide +kernel
theorem d62_128 : decode (am_bytes 62) 128 = .ok (.iload 4, 2) := by decide +kernel
theorem d62_130 : decode (am_bytes 62) 130 = .ok (.imul, 1) := by decide +kernel
theorem d62_131 : decode (am_bytes 62) 131 = .ok (.isub, 1) := by decide +kernel
theorem d62_132 : decode (am_bytes 62) 132 = .ok (.ishr, 1) := by decide +kernel
theorem d62_133 : decode (am_bytes 62) 133 = .ok (.sipush 255, 3) := by decide +kernel
theorem d62_136 : decode (am_bytes 62) 136 = .ok (.iand, 1) := by decide +kernel
theorem d62_137 : decode (am_bytes 62) 137 = .ok (.istore 5, 2) := by decide +kernel
theorem d62_139 : decode (am_bytes 62) 139 = .ok (.iload 5, 2) := by decide +kernel
theorem d62_141 : decode (am_bytes 62) 141 = .ok (.ifCond .eq 24, 3) := by decide +kernel
theorem d62_144 : decode (am_bytes 62) 144 = .ok (.aload_n 0, 1) := by decide +kernel
theorem d62_145 : decode (am_bytes 62) 145 = .ok (.getfield 42, 3) := by decide +kernel
theorem d62_148 : decode (am_bytes 62) 148 = .ok (.aload_n 0, 1) := by decide +kernel
theorem d62_149 : decode (am_bytes 62) 149 = .ok (.getfield 116, 3) := by decide +kernel
theorem d62_152 : decode (am_bytes 62) 152 = .ok (.iload 5, 2) := by decide +kernel
theorem d62_154 : decode (am_bytes 62) 154 = .ok (.iastore, 1) := by decide +kernel
theorem d62_155 : decode (am_bytes 62) 155 = .ok (.aload_n 0, 1) := by decide +kernel
theorem d62_156 : decode (am_bytes 62) 156 = .ok (.dup, 1) := by decide +kernel
theorem d62_157 : decode (am_bytes 62) 157 = .ok (.getfield 116, 3) := by decide +kernel
theorem d62_160 : decode (am_bytes 62) 160 = .ok (.iconst 1, 1) := by decide +kernel
theorem d62_161 : decode (am_bytes 62) 161 = .ok (.iadd, 1) := by decide +kernel
theorem d62_162 : decode (am_bytes 62) 162 = .ok (.putfield 116, 3) := by decide +kernel
theorem d62_165 : decode (am_bytes 62) 165 = .ok (.iinc 4 1, 3) := by decide +kernel
theorem d62_168 : decode (am_bytes 62) 168 = .ok (.goto (-51), 3) := by decide +kernel
theorem d62_171 : decode (am_bytes 62) 171 = .ok (.aload_n 0, 1) := by decide +kernel
theorem d62_172 : decode (am_bytes 62) 172 = .ok (.getfield 116, 3) := by decide +kernel
theorem d62_175 : decode (am_bytes 62) 175 = .ok (.ireturn, 1) := by decide +kernel
theorem d63_0 : decode (am_bytes 63) 0 = .ok (.aload_n 0, 1) := by decide +kernel
theorem d63_1 : decode (am_bytes 63) 1 = .ok (.iconst 0, 1) := by decide +kernel
theorem d63_2 : decode (am_bytes 63) 2 = .ok (.putfield 45, 3) := by decide +kernel
theorem d63_5 : decode (am_bytes 63) 5 = .ok (.aload_n 0, 1) := by decide +kernel
theorem d63_6 : decode (am_bytes 63) 6 = .ok (.iconst 0, 1) := by decide +kernel
theorem d63_7 : decode (am_bytes 63) 7 = .ok (.putfield 116, 3) := by decide +kernel
theorem d63_10 : decode (am_bytes 63) 10 = .ok (.return_, 1) := by decide +kernel
theorem d64_0 : decode (am_bytes 64) 0 = .ok (.aload_n 0, 1) := by decide +kernel
theorem d64_1 : decode (am_bytes 64) 1 = .ok (.getfield 119, 3) := by decide +kernel
theorem d64_4 : decode (am_bytes 64) 4 = .ok (.aload_n 0, 1) := by decide +kernel
theorem d64_5 : decode (am_bytes 64) 5 = .ok (.getfield 116, 3) := by decide +kernel
theorem d64_8 : decode (am_bytes 64) 8 = .ok (.if_icmp .ge 15, 3) := by decide +kernel
theorem d64_11 : decode (am_bytes 64) 11 = .ok (.aload_n 0, 1) := by decide +kernel
theorem d64_12 : decode (am_bytes 64) 12 = .ok (.getfield 42, 3) := by decide +kernel
theorem d64_15 : decode (am_bytes 64) 15 = .ok (.aload_n 0, 1) := by decide +kernel
theorem d64_16 : decode (am_bytes 64) 16 = .ok (.getfield 119, 3) := by decide +kernel
theorem d64_19 : decode (am_bytes 64) 19 = .ok (.iaload, 1) := by decide +kernel
theorem d64_20 : decode (am_bytes 64) 20 = .ok (.goto 4, 3) := by decide +kernel
theorem d64_23 : decode (am_bytes 64) 23 = .ok (.iconst 0, 1) := by decide +kernel
theorem d64_24 : decode (am_bytes 64) 24 = .ok (.ireturn, 1) := by decide +kernel
theorem d65_0 : decode (am_bytes 65) 0 = .ok (.aload_n 0, 1) := by decide +kernel
theorem d65_1 : decode (am_bytes 65) 1 = .ok (.invokevirtual 122, 3) := by decide +kernel
theorem d65_4 : decode (am_bytes 65) 4 = .ok (.iload_n 1, 1) := by decide +kernel
theorem d65_5 : decode (am_bytes 65) 5 = .ok (.if_icmp .ne 7, 3) := by decide +kernel
theorem d65_8 : decode (am_bytes 65) 8 = .ok (.iconst 1, 1) := by decide +kernel
theorem d65_9 : decode (am_bytes 65) 9 = .ok (.goto 4, 3) := by decide +kernel
theorem d65_12 : decode (am_bytes 65) 12 = .ok (.iconst 0, 1) := by decide +kernel
theorem d65_13 : decode (am_bytes 65) 13 = .ok (.istore_n 2, 1) := by decide +kernel
theorem d65_14 : decode (am_bytes 65) 14 = .ok (.aload_n 0, 1) := by decide +kernel
theorem d65_15 : decode (am_bytes 65) 15 = .ok (.iload_n 2, 1) := by decide +kernel
theorem d65_16 : decode (am_bytes 65) 16 = .ok (.ifCond .eq 12, 3) := by decide +kernel
theorem d65_19 : decode (am_bytes 65) 19 = .ok (.aload_n 0, 1) := by decide +kernel
theorem d65_20 : decode (am_bytes 65) 20 = .ok (.getfield 119, 3) := by decide +kernel
theorem d65_23 : decode (am_bytes 65) 23 = .ok (.iconst 1, 1) := by decide +kernel
theorem d65_24 : decode (am_bytes 65) 24 = .ok (.iadd, 1) := by decide +kernel
theorem d65_25 : decode (am_bytes 65) 25 = .ok (.goto 7, 3) := by decide +kernel
theorem d65_28 : decode (am_bytes 65) 28 = .ok (.aload_n 0, 1) := by decide +kernel
theorem d65_29 : decode (am_bytes 65) 29 = .ok (.getfield 119, 3) := by decide +kernel
theorem d65_32 : decode (am_bytes 65) 32 = .ok (.putfield 119, 3) := by decide +kernel
theorem d65_35 : decode (am_bytes 65) 35 = .ok (.iload_n 2, 1) := by decide +kernel
theorem d65_36 : decode (am_bytes 65) 36 = .ok (.ireturn, 1) := by decide +kernel
theorem d66_0 : decode (am_bytes 66) 0 = .ok (.aload_n 0, 1) := by decide +kernel
theorem d66_1 : decode (am_bytes 66) 1 = .ok (.invokevirtual 122, 3) := by decide +kernel
theorem d66_4 : decode (am_bytes 66) 4 = .ok (.bipush 48, 2) := by decide +kernel
theorem d66_6 : decode (am_bytes 66) 6 = .ok (.isub, 1) := by decide +kernel
theorem d66_7 : decode (am_bytes 66) 7 = .ok (.istore_n 2, 1) := by decide +kernel
theorem d66_8 : decode (am_bytes 66) 8 = .ok (.aload_n 0, 1) := by decide +kernel
theorem d66_9 : decode (am_bytes 66) 9 = .ok (.aload_n 0, 1) := by decide +kernel
theorem d66_10 : decode (am_bytes 66) 10 = .ok (.getfield 126, 3) := by decide +kernel
theorem d66_13 : decode (am_bytes 66) 13 = .ok (.ifCond .eq 16, 3) := by decide +kernel
theorem d66_16 : decode (am_bytes 66) 16 = .ok (.iload_n 2, 1) := by decide +kernel
theorem d66_17 : decode (am_bytes 66) 17 = .ok (.ifCond .lt 12, 3) := by decide +kernel
theorem d66_20 : decode (am_bytes 66) 20 = .ok (.iload_n 2, 1) := by decide +kernel
theorem d66_21 : decode (am_bytes 66) 21 = .ok (.iload_n 1, 1) := by decide +kernel
theorem d66_22 : decode (am_bytes 66) 22 = .ok (.if_icmp .gt 7, 3) := by decide +kernel
theorem d66_25 : decode (am_bytes 66) 25 = .ok (.iconst 1, 1) := by decide +kernel
theorem d66_26 : decode (am_bytes 66) 26 = .ok (.goto 4, 3) := by decide +kernel
theorem d66_29 : decode (am_bytes 66) 29 = .ok (.iconst 0, 1) := by decide +kernel
theorem d66_30 : decode (am_bytes 66) 30 = .ok (.putfield 126, 3) := by decide +kernel
theorem d66_33 : decode (am_bytes 66) 33 = .ok (.aload_n 0, 1) := by decide +kernel
theorem d66_34 : decode (am_bytes 66) 34 = .ok (.dup, 1) := by decide +kernel
theorem d66_35 : decode (am_bytes 66) 35 = .ok (.getfield 119, 3) := by decide +kernel
theorem d66_38 : decode (am_bytes 66) 38 = .ok (.iconst 1, 1) := by decide +kernel
theorem d66_39 : decode (am_bytes 66) 39 = .ok (.iadd, 1) := by decide +kernel
theorem d66_40 : decode (am_bytes 66) 40 = .ok (.putfield 119, 3) := by decide +kernel
theorem d66_43 : decode (am_bytes 66) 43 = .ok (.aload_n 0, 1) := by decide +kernel
theorem d66_44 : decode (am_bytes 66) 44 = .ok (.getfield 126, 3) := by decide +kernel
theorem d66_47 : decode (am_bytes 66) 47 = .ok (.ifCond .eq 7, 3) := by decide +kernel
theorem d66_50 : decode (am_bytes 66) 50 = .ok (.iload_n 2, 1) := by decide +kernel
theorem d66_51 : decode (am_bytes 66) 51 = .ok (.goto 4, 3) := by decide +kernel
theorem d66_54 : decode (am_bytes 66) 54 = .ok (.iconst 0, 1) := by decide +kernel
theorem d66_55 : decode (am_bytes 66) 55 = .ok (.ireturn, 1) := by decide +kernel
theorem d67_0 : decode (am_bytes 67) 0 = .ok (.aload_n 0, 1) := by decide +kernel
theorem d67_1 : decode (am_bytes 67) 1 = .ok (.invokevirtual 122, 3) := by decide +kernel
theorem d67_4 : decode (am_bytes 67) 4 = .ok (.bipush 48, 2) := by decide +kernel
theorem d67_6 : decode (am_bytes 67) 6 = .ok (.if_icmp .lt 16, 3) := by decide +kernel
theorem d67_9 : decode (am_bytes 67) 9 = .ok (.aload_n 0, 1) := by decide +kernel
theorem d67_10 : decode (am_bytes 67) 10 = .ok (.invokevirtual 122, 3) := by decide +kernel
theorem d67_13 : decode (am_bytes 67) 13 = .ok (.bipush 57, 2) := by decide +kernel
theorem d67_15 : decode (am_bytes 67) 15 = .ok (.if_icmp .gt 7, 3) := by decide +kernel
theorem d67_18 : decode (am_bytes 67) 18 = .ok (.iconst 1, 1) := by decide +kernel
theorem d67_19 : decode (am_bytes 67) 19 = .ok (.goto 4, 3) := by decide +kernel
theorem d67_22 : decode (am_bytes 67) 22 = .ok (.iconst 0, 1) := by decide +kernel
theorem d67_23 : decode (am_bytes 67) 23 = .ok (.ireturn, 1) := by decide +kernel
theorem d68_0 : decode (am_bytes 68) 0 = .ok (.aload_n 0, 1) := by decide +kernel
theorem d68_1 : decode (am_bytes 68) 1 = .ok (.bipush 45, 2) := by decide +kernel
theorem d68_3 : decode (am_bytes 68) 3 = .ok (.invokevirtual 130, 3) := by decide +kernel
theorem d68_6 : decode (am_bytes 68) 6 = .ok (.istore_n 1, 1) := by decide +kernel
theorem d68_7 : decode (am_bytes 68) 7 = .ok (.aload_n 0, 1) := by decide +kernel
theorem d68_8 : decode (am_bytes 68) 8 = .ok (.bipush 9, 2) := by decide +kernel
theorem d68_10 : decode (am_bytes 68) 10 = .ok (.invokevirtual 133, 3) := by decide +kernel
theorem d68_13 : decode (am_bytes 68) 13 = .ok (.istore_n 2, 1) := by decide +kernel
theorem d68_14 : decode (am_bytes 68) 14 = .ok (.iconst 0, 1) := by decide +kernel
theorem d68_15 : decode (am_bytes 68) 15 = .ok (.istore_n 3, 1) := by decide +kernel
theorem d68_16 : decode (am_bytes 68) 16 = .ok (.iload_n 3, 1) := by decide +kernel
theorem d68_17 : decode (am_bytes 68) 17 = .ok (.iconst 3, 1) := by decide +kernel
theorem d68_18 : decode (am_bytes 68) 18 = .ok (.if_icmp .ge 28, 3) := by decide +kernel
theorem d68_21 : decode (am_bytes 68) 21 = .ok (.aload_n 0, 1) := by decide +kernel
theorem d68_22 : decode (am_bytes 68) 22 = .ok (.invokevirtual 136, 3) := by decide +kernel
theorem d68_25 : decode (am_bytes 68) 25 = .ok (.ifCond .eq 21, 3) := by decide +kernel
theorem d68_28 : decode (am_bytes 68) 28 = .ok (.bipush 10, 2) := by decide +kernel
theorem d68_30 : decode (am_bytes 68) 30 = .ok (.iload_n 2, 1) := by decide +kernel
theorem d68_31 : decode (am_bytes 68) 31 = .ok (.imul, 1) := by decide +kernel
theorem d68_32 : decode (am_bytes 68) 32 = .ok (.aload_n 0, 1) := by decide +kernel
theorem d68_33 : decode (am_bytes 68) 33 = .ok (.bipush 9, 2) := by decide +kernel
theorem d68_35 : decode (am_bytes 68) 35 = .ok (.invokevirtual 133, 3) := by decide +kernel
theorem d68_38 : decode (am_bytes 68) 38 = .ok (.iadd, 1) := by decide +kernel
theorem d68_39 : decode (am_bytes 68) 39 = .ok (.istore_n 2, 1) := by decide +kernel
theorem d68_40 : decode (am_bytes 68) 40 = .ok (.iinc 3 1, 3) := by decide +kernel
theorem d68_43 : decode (am_bytes 68) 43 = .ok (.goto (-27), 3) := by decide +kernel
theorem d68_46 : decode (am_bytes 68) 46 = .ok (.iload_n 1, 1) := by decide +kernel
theorem d68_47 : decode (am_bytes 68) 47 = .ok (.ifCond .eq 9, 3) := by decide +kernel
theorem d68_50 : decode (am_bytes 68) 50 = .ok (.iconst 0, 1) := by decide +kernel
theorem d68_51 : decode (am_bytes 68) 51 = .ok (.iload_n 2, 1) := by decide +kernel
theorem d68_52 : decode (am_bytes 68) 52 = .ok (.isub, 1) := by decide +kernel
theorem d68_53 : decode (am_bytes 68) 53 = .ok (.goto 4, 3) := by decide +kernel
theorem d68_56 : decode (am_bytes 68) 56 = .ok (.iload_n 2, 1) := by decide +kernel
theorem d68_57 : decode (am_bytes 68) 57 = .ok (.ireturn, 1) := by decide +kernel
theorem d69_0 : decode (am_bytes 69) 0 = .ok (.aload_n 0, 1) := by decide +kernel
theorem d69_1 : decode (am_bytes 69) 1 = .ok (.iconst 3, 1) := by decide +kernel
theorem d69_2 : decode (am_bytes 69) 2 = .ok (.invokevirtual 133, 3) := by decide +kernel
theorem d69_5 : decode (am_bytes 69) 5 = .ok (.istore 5, 2) := by decide +kernel
theorem d69_7 : decode (am_bytes 69) 7 = .ok (.iload_n 2, 1) := by decide +kernel
theorem d69_8 : decode (am_bytes 69) 8 = .ok (.ifCond .eq 16, 3) := by decide +kernel
theorem d69_11 : decode (am_bytes 69) 11 = .ok (.aload_n 0, 1) := by decide +kernel
theorem d69_12 : decode (am_bytes 69) 12 = .ok (.iload_n 1, 1) := by decide +kernel
theorem d69_13 : decode (am_bytes 69) 13 = .ok (.iload 5, 2) := by decide +kernel
theorem d69_15 : decode (am_bytes 69) 15 = .ok (.iload_n 3, 1) := by decide +kernel
theorem d69_16 : decode (am_bytes 69) 16 = .ok (.iload 4, 2) := by decide +kernel
theorem d69_18 : decode (am_bytes 69) 18 = .ok (.invokevirtual 140, 3) := by decide +kernel
theorem d69_21 : decode (am_bytes 69) 21 = .ok (.goto 13, 3) := by decide +kernel
theorem d69_24 : decode (am_bytes 69) 24 = .ok (.aload_n 0, 1) := by decide +kernel
theorem d69_25 : decode (am_bytes 69) 25 = .ok (.iload_n 1, 1) := by decide +kernel
theorem d69_26 : decode (am_bytes 69) 26 = .ok (.iload 5, 2) := by decide +kernel
theorem d69_28 : decode (am_bytes 69) 28 = .ok (.iload_n 3, 1) := by decide +kernel
theorem d69_29 : decode (am_bytes 69) 29 = .ok (.iload 4, 2) := by decide +kernel
theorem d69_31 : decode (am_bytes 69) 31 = .ok (.invokevirtual 112, 3) := by decide +kernel
theorem d69_34 : decode (am_bytes 69) 34 = .ok (.istore 6, 2) := by decide +kernel
theorem d69_36 : decode (am_bytes 69) 36 = .ok (.aload_n 0, 1) := by decide +kernel
theorem d69_37 : decode (am_bytes 69) 37 = .ok (.bipush 126, 2) := by decide +kernel
theorem d69_39 : decode (am_bytes 69) 39 = .ok (.invokevirtual 130, 3) := by decide +kernel
theorem d69_42 : decode (am_bytes 69) 42 = .ok (.ifCond .ne 6, 3) := by decide +kernel
theorem d69_45 : decode (am_bytes 69) 45 = .ok (.iload 6, 2) := by decide +kernel
theorem d69_47 : decode (am_bytes 69) 47 = .ok (.ireturn, 1) := by decide +kernel
theorem d69_48 : decode (am_bytes 69) 48 = .ok (.iload_n 1, 1) := by decide +kernel
theorem d69_49 : decode (am_bytes 69) 49 = .ok (.iload 6, 2) := by decide +kernel
theorem d69_51 : decode (am_bytes 69) 51 = .ok (.ior, 1) := by decide +kernel
theorem d69_52 : decode (am_bytes 69) 52 = .ok (.istore 7, 2) := by decide +kernel
theorem d69_54 : decode (am_bytes 69) 54 = .ok (.iconst 0, 1) := by decide +kernel
theorem d69_55 : decode (am_bytes 69) 55 = .ok (.istore 8, 2) := by decide +kernel
theorem d69_57 : decode (am_bytes 69) 57 = .ok (.iload 8, 2) := by decide +kernel
theorem d69_59 : decode (am_bytes 69) 59 = .ok (.bipush 12, 2) := by decide +kernel
theorem d69_61 : decode (am_bytes 69) 61 = .ok (.if_icmp .ge 43, 3) := by decide +kernel
theorem d69_64 : decode (am_bytes 69) 64 = .ok (.iload 7, 2) := by decide +kernel
theorem d69_66 : decode (am_bytes 69) 66 = .ok (.iload_n 2, 1) := by decide +kernel
theorem d69_67 : decode (am_bytes 69) 67 = .ok (.ifCond .eq 17, 3) := by decide +kernel
theorem d69_70 : decode (am_bytes 69) 70 = .ok (.aload_n 0, 1) := by decide +kernel
theorem d69_71 : decode (am_bytes 69) 71 = .ok (.iload 7, 2) := by decide +kernel
theorem d69_73 : decode (am_bytes 69) 73 = .ok (.iload 5, 2) := by decide +kernel
theorem d69_75 : decode (am_bytes 69) 75 = .ok (.iload_n 3, 1) := by decide +kernel
theorem d69_76 : decode (am_bytes 69) 76 = .ok (.iload 4, 2) := by decide +kernel
theorem d69_78 : decode (am_bytes 69) 78 = .ok (.invokevirtual 140, 3) := by decide +kernel
theorem d69_81 : decode (am_bytes 69) 81 = .ok (.goto 14, 3) := by decide +kernel
theorem d69_84 : decode (am_bytes 69) 84 = .ok (.aload_n 0, 1) := by decide +kernel
theorem d69_85 : decode (am_bytes 69) 85 = .ok (.iload 7, 2) := by decide +kernel
theorem d69_87 : decode (am_bytes 69) 87 = .ok (.iload 5, 2) := by decide +kernel
theorem d69_89 : decode (am_bytes 69) 89 = .ok (.iload_n 3, 1) := by decide +kernel
theorem d69_90 : decode (am_bytes 69) 90 = .ok (.iload 4, 2) := by decide +kernel
theorem d69_92 : decode (am_bytes 69) 92 = .ok (.invokevirtual 112, 3) := by decide +kernel
theorem d69_95 : decode (am_bytes 69) 95 = .ok (.ior, 1) := by decide +kernel
theorem d69_96 : decode (am_bytes 69) 96 = .ok (.istore 7, 2) := by decide +kernel
theorem d69_98 : decode (am_bytes 69) 98 = .ok (.iinc 8 1, 3) := by decide +kernel
theorem d69_101 : decode (am_bytes 69) 101 = .ok (.goto (-44), 3) := by decide +kernel
theorem d69_104 : decode (am_bytes 69) 104 = .ok (.iload 7, 2) := by decide +kernel
theorem d69_106 : decode (am_bytes 69) 106 = .ok (.ireturn, 1) := by decide +kernel
theorem d70_0 : decode (am_bytes 70) 0 = .ok (.aload_n 0, 1) := by decide +kernel
theorem d70_1 : decode (am_bytes 70) 1 = .ok (.iconst 3, 1) := by decide +kernel
theorem d70_2 : decode (am_bytes 70) 2 = .ok (.invokevirtual 133, 3) := by decide +kernel
theorem d70_5 : decode (am_bytes 70) 5 = .ok (.istore 4, 2) := by decide +kernel
theorem d70_7 : decode (am_bytes 70) 7 = .ok (.aload_n 0, 1) := by decide +kernel
theorem d70_8 : decode (am_bytes 70) 8 = .ok (.invokevirtual 122, 3) := by decide +kernel
theorem d70_11 : decode (am_bytes 70) 11 = .ok (.istore 5, 2) := by decide +kernel
theorem d70_13 : decode (am_bytes 70) 13 = .ok (.aload_n 0, 1) := by decide +kernel
theorem d70_14 : decode (am_bytes 70) 14 = .ok (.aload_n 0, 1) := by decide +kernel
theorem d70_15 : decode (am_bytes 70) 15 = .ok (.getfield 126, 3) := by decide +kernel
theorem d70_18 : decode (am_bytes 70) 18 = .ok (.ifCond .eq 28, 3) := by decide +kernel
theorem d70_21 : decode (am_bytes 70) 21 = .ok (.iload 5, 2) := by decide +kernel
theorem d70_23 : decode (am_bytes 70) 23 = .ok (.bipush 60, 2) := by decide +kernel
theorem d70_25 : decode (am_bytes 70) 25 = .ok (.if_icmp .eq 17, 3) := by decide +kernel
theorem d70_28 : decode (am_bytes 70) 28 = .ok (.iload 5, 2) := by decide +kernel
theorem d70_30 : decode (am_bytes 70) 30 = .ok (.bipush 61, 2) := by decide +kernel
theorem d70_32 : decode (am_bytes 70) 32 = .ok (.if_icmp .eq 10, 3) := by decide +kernel
theorem d70_35 : decode (am_bytes 70) 35 = .ok (.iload 5, 2) := by decide +kernel
theorem d70_37 : decode (am_bytes 70) 37 = .ok (.bipush 62, 2) := by decide +kernel
theorem d70_39 : decode (am_bytes 70) 39 = .ok (.if_icmp .ne 7, 3) := by decide +kernel
theorem d70_42 : decode (am_bytes 70) 42 = .ok (.iconst 1, 1) := by decide +kernel
theorem d70_43 : decode (am_bytes 70) 43 = .ok (.goto 4, 3) := by decide +kernel
theorem d70_46 : decode (am_bytes 70) 46 = .ok (.iconst 0, 1) := by decide +kernel
theorem d70_47 : decode (am_bytes 70) 47 = .ok (.putfield 126, 3) := by decide +kernel
theorem d70_50 : decode (am_bytes 70) 50 = .ok (.aload_n 0, 1) := by decide +kernel
theorem d70_51 : decode (am_bytes 70) 51 = .ok (.dup, 1) := by decide +kernel
theorem d70_52 : decode (am_bytes 70) 52 = .ok (.getfield 119, 3) := by decide +kernel
theorem d70_55 : decode (am_bytes 70) 55 = .ok (.iconst 1, 1) := by decide +kernel
theorem d70_56 : decode (am_bytes 70) 56 = .ok (.iadd, 1) := by decide +kernel
theorem d70_57 : decode (am_bytes 70) 57 = .ok (.putfield 119, 3) := by decide +kernel
theorem d70_60 : decode (am_bytes 70) 60 = .ok (.aload_n 0, 1) := by decide +kernel
theorem d70_61 : decode (am_bytes 70) 61 = .ok (.invokevirtual 143, 3) := by decide +kernel
theorem d70_64 : decode (am_bytes 70) 64 = .ok (.istore 6, 2) := by decide +kernel
theorem d70_66 : decode (am_bytes 70) 66 = .ok (.aload_n 0, 1) := by decide +kernel
theorem d70_67 : decode (am_bytes 70) 67 = .ok (.aload_n 0, 1) := by decide +kernel
theorem d70_68 : decode (am_bytes 70) 68 = .ok (.getfield 126, 3) := by decide +kernel
theorem d70_71 : decode (am_bytes 70) 71 = .ok (.ifCond .eq 16, 3) := by decide +kernel
theorem d70_74 : decode (am_bytes 70) 74 = .ok (.aload_n 0, 1) := by decide +kernel
theorem d70_75 : decode (am_bytes 70) 75 = .ok (.invokevirtual 122, 3) := by decide +kernel
theorem d70_78 : decode (am_bytes 70) 78 = .ok (.bipush 93, 2) := by decide +kernel
theorem d70_80 : decode (am_bytes 70) 80 = .ok (.if_icmp .ne 7, 3) := by decide +kernel
theorem d70_83 : decode (am_bytes 70) 83 = .ok (.iconst 1, 1) := by decide +kernel
theorem d70_84 : decode (am_bytes 70) 84 = .ok (.goto 4, 3) := by decide +kernel
theorem d70_87 : decode (am_bytes 70) 87 = .ok (.iconst 0, 1) := by decide +kernel
theorem d70_88 : decode (am_bytes 70) 88 = .ok (.putfield 126, 3) := by decide +kernel
theorem d70_91 : decode (am_bytes 70) 91 = .ok (.aload_n 0, 1) := by decide +kernel
theorem d70_92 : decode (am_bytes 70) 92 = .ok (.dup, 1) := by decide +kernel
theorem d70_93 : decode (am_bytes 70) 93 = .ok (.getfield 119, 3) := by decide +kernel
theorem d70_96 : decode (am_bytes 70) 96 = .ok (.iconst 1, 1) := by decide +kernel
theorem d70_97 : decode (am_bytes 70) 97 = .ok (.iadd, 1) := by decide +kernel
theorem d70_98 : decode (am_bytes 70) 98 = .ok (.putfield 119, 3) := by decide +kernel
theorem d70_101 : decode (am_bytes 70) 101 = .ok (.iconst 0, 1) := by decide +kernel
theorem d70_102 : decode (am_bytes 70) 102 = .ok (.istore 7, 2) := by decide +kernel
theorem d70_104 : decode (am_bytes 70) 104 = .ok (.iconst 0, 1) := by decide +kernel
theorem d70_105 : decode (am_bytes 70) 105 = .ok (.istore 8, 2) := by decide +kernel
theorem d70_107 : decode (am_bytes 70) 107 = .ok (.iload 8, 2) := by decide +kernel
theorem d70_109 : decode (am_bytes 70) 109 = .ok (.bipush 12, 2) := by decide +kernel
theorem d70_111 : decode (am_bytes 70) 111 = .ok (.if_icmp .ge 111, 3) := by decide +kernel
theorem d70_114 : decode (am_bytes 70) 114 = .ok (.aload_n 0, 1) := by decide +kernel
theorem d70_115 : decode (am_bytes 70) 115 = .ok (.iload_n 2, 1) := by decide +kernel
theorem d70_116 : decode (am_bytes 70) 116 = .ok (.iload_n 3, 1) := by decide +kernel
theorem d70_117 : decode (am_bytes 70) 117 = .ok (.iconst 4, 1) := by decide +kernel
theorem d70_118 : decode (am_bytes 70) 118 = .ok (.iload 8, 2) := by decide +kernel
theorem d70_120 : decode (am_bytes 70) 120 = .ok (.imul, 1) := by decide +kernel
theorem d70_121 : decode (am_bytes 70) 121 = .ok (.iload 4, 2) := by decide +kernel
theorem d70_123 : decode (am_bytes 70) 123 = .ok (.iadd, 1) := by decide +kernel
theorem d70_124 : decode (am_bytes 70) 124 = .ok (.invokevirtual 75, 3) := by decide +kernel
theorem d70_127 : decode (am_bytes 70) 127 = .ok (.istore 9, 2) := by decide +kernel
theorem d70_129 : decode (am_bytes 70) 129 = .ok (.aload_n 0, 1) := by decide +kernel
theorem d70_130 : decode (am_bytes 70) 130 = .ok (.iload 9, 2) := by decide +kernel
theorem d70_132 : decode (am_bytes 70) 132 = .ok (.invokevirtual 68, 3) := by decide +kernel
theorem d70_135 : decode (am_bytes 70) 135 = .ok (.istore 10, 2) := by decide +kernel
theorem d70_137 : decode (am_bytes 70) 137 = .ok (.aload_n 0, 1) := by decide +kernel
theorem d70_138 : decode (am_bytes 70) 138 = .ok (.iload 9, 2) := by decide +kernel
theorem d70_140 : decode (am_bytes 70) 140 = .ok (.invokevirtual 65, 3) := by decide +kernel
theorem d70_143 : decode (am_bytes 70) 143 = .ok (.iconst 1, 1) := by decide +kernel
theorem d70_144 : decode (am_bytes 70) 144 = .ok (.if_icmp .ne 48, 3) := by decide +kernel
theorem d70_147 : decode (am_bytes 70) 147 = .ok (.iload 5, 2) := by decide +kernel
theorem d70_149 : decode (am_bytes 70) 149 = .ok (.bipush 60, 2) := by decide +kernel
theorem d70_151 : decode (am_bytes 70) 151 = .ok (.if_icmp .ne 13, 3) := by decide +kernel
theorem d70_154 : decode (am_bytes 70) 154 = .ok (.iload 10, 2) := by decide +kernel
theorem d70_156 : decode (am_bytes 70) 156 = .ok (.iload 6, 2) := by decide +kernel
theorem d70_158 : decode (am_bytes 70) 158 = .ok (.if_icmp .ge 34, 3) := by decide +kernel
theorem d70_161 : decode (am_bytes 70) 161 = .ok (.goto 27, 3) := by decide +kernel
theorem d70_164 : decode (am_bytes 70) 164 = .ok (.iload 5, 2) := by decide +kernel
theorem d70_166 : decode (am_bytes 70) 166 = .ok (.bipush 61, 2) := by decide +kernel
theorem d70_168 : decode (am_bytes 70) 168 = .ok (.if_icmp .ne 13, 3) := by decide +kernel
theorem d70_171 : decode (am_bytes 70) 171 = .ok (.iload 10, 2) := by decide +kernel
theorem d70_173 : decode (am_bytes 70) 173 = .ok (.iload 6, 2) := by decide +kernel
theorem d70_175 : decode (am_bytes 70) 175 = .ok (.if_icmp .ne 17, 3) := by decide +kernel
theorem d70_178 : decode (am_bytes 70) 178 = .ok (.goto 10, 3) := by decide +kernel
theorem d70_181 : decode (am_bytes 70) 181 = .ok (.iload 10, 2) := by decide +kernel
theorem d70_183 : decode (am_bytes 70) 183 = .ok (.iload 6, 2) := by decide +kernel
theorem d70_185 : decode (am_bytes 70) 185 = .ok (.if_icmp .le 7, 3) := by decide +kernel
theorem d70_188 : decode (am_bytes 70) 188 = .ok (.iconst 1, 1) := by decide +kernel
theorem d70_189 : decode (am_bytes 70) 189 = .ok (.goto 4, 3) := by decide +kernel
theorem d70_192 : decode (am_bytes 70) 192 = .ok (.iconst 0, 1) := by decide +kernel
theorem d70_193 : decode (am_bytes 70) 193 = .ok (.istore 11, 2) := by decide +kernel
theorem d70_195 : decode (am_bytes 70) 195 = .ok (.iload 11, 2) := by decide +kernel
theorem d70_197 : decode (am_bytes 70) 197 = .ok (.ifCond .eq 15, 3) := by decide +kernel
theorem d70_200 : decode (am_bytes 70) 200 = .ok (.iload 7, 2) := by decide +kernel
theorem d70_202 : decode (am_bytes 70) 202 = .ok (.iload_n 1, 1) := by decide +kernel
theorem d70_203 : decode (am_bytes 70) 203 = .ok (.iconst 1, 1) := by decide +kernel
theorem d70_204 : decode (am_bytes 70) 204 = .ok (.iload 8, 2) := by decide +kernel
theorem d70_206 : decode (am_bytes 70) 206 = .ok (.ishl, 1) := by decide +kernel
theorem d70_207 : decode (am_bytes 70) 207 = .ok (.iand, 1) := by decide +kernel
theorem d70_208 : decode (am_bytes 70) 208 = .ok (.ior, 1) := by decide +kernel
theorem d70_209 : decode (am_bytes 70) 209 = .ok (.goto 5, 3) := by decide +kernel
theorem d70_212 : decode (am_bytes 70) 212 = .ok (.iload 7, 2) := by decide +kernel
theorem d70_214 : decode (am_bytes 70) 214 = .ok (.istore 7, 2) := by decide +kernel
theorem d70_216 : decode (am_bytes 70) 216 = .ok (.iinc 8 1, 3) := by decide +kernel
theorem d70_219 : decode (am_bytes 70) 219 = .ok (.goto (-112), 3) := by decide +kernel
theorem d70_222 : decode (am_bytes 70) 222 = .ok (.iload 7, 2) := by decide +kernel
theorem d70_224 : decode (am_bytes 70) 224 = .ok (.ireturn, 1) := by decide +kernel
theorem d71_0 : decode (am_bytes 71) 0 = .ok (.aload_n 0, 1) := by decide +kernel
theorem d71_1 : decode (am_bytes 71) 1 = .ok (.iconst 3, 1) := by decide +kernel
theorem d71_2 : decode (am_bytes 71) 2 = .ok (.invokevirtual 133, 3) := by decide +kernel
theorem d71_5 : decode (am_bytes 71) 5 = .ok (.istore 4, 2) := by decide +kernel
theorem d71_7 : decode (am_bytes 71) 7 = .ok (.iconst 0, 1) := by decide +kernel
theorem d71_8 : decode (am_bytes 71) 8 = .ok (.istore 5, 2) := by decide +kernel
theorem d71_10 : decode (am_bytes 71) 10 = .ok (.iconst 0, 1) := by decide +kernel
theorem d71_11 : decode (am_bytes 71) 11 = .ok (.istore 6, 2) := by decide +kernel
theorem d71_13 : decode (am_bytes 71) 13 = .ok (.iload 6, 2) := by decide +kernel
theorem d71_15 : decode (am_bytes 71) 15 = .ok (.bipush 12, 2) := by decide +kernel
theorem d71_17 : decode (am_bytes 71) 17 = .ok (.if_icmp .ge 45, 3) := by decide +kernel
theorem d71_20 : decode (am_bytes 71) 20 = .ok (.aload_n 0, 1) := by decide +kernel
theorem d71_21 : decode (am_bytes 71) 21 = .ok (.aload_n 0, 1) := by decide +kernel
theorem d71_22 : decode (am_bytes 71) 22 = .ok (.iload_n 2, 1) := by decide +kernel
theorem d71_23 : decode (am_bytes 71) 23 = .ok (.iload_n 3, 1) := by decide +kernel
theorem d71_24 : decode (am_bytes 71) 24 = .ok (.iconst 4, 1) := by decide +kernel
theorem d71_25 : decode (am_bytes 71) 25 = .ok (.iload 6, 2) := by decide +kernel
theorem d71_27 : decode (am_bytes 71) 27 = .ok (.imul, 1) := by decide +kernel
theorem d71_28 : decode (am_bytes 71) 28 = .ok (.iload 4, 2) := by decide +kernel
theorem d71_30 : decode (am_bytes 71) 30 = .ok (.iadd, 1) := by decide +kernel
theorem d71_31 : decode (am_bytes 71) 31 = .ok (.invokevirtual 75, 3) := by decide +kernel
theorem d71_34 : decode (am_bytes 71) 34 = .ok (.invokevirtual 65, 3) := by decide +kernel
theorem d71_37 : decode (am_bytes 71) 37 = .ok (.ifCond .ne 15, 3) := by decide +kernel
theorem d71_40 : decode (am_bytes 71) 40 = .ok (.iload 5, 2) := by decide +kernel
theorem d71_42 : decode (am_bytes 71) 42 = .ok (.iload_n 1, 1) := by decide +kernel
theorem d71_43 : decode (am_bytes 71) 43 = .ok (.iconst 1, 1) := by decide +kernel
theorem d71_44 : decode (am_bytes 71) 44 = .ok (.iload 6, 2) := by decide +kernel
theorem d71_46 : decode (am_bytes 71) 46 = .ok (.ishl, 1) := by decide +kernel
theorem d71_47 : decode (am_bytes 71) 47 = .ok (.iand, 1) := by decide +kernel
theorem d71_48 : decode (am_bytes 71) 48 = .ok (.ior, 1) := by decide +kernel
theorem d71_49 : decode (am_bytes 71) 49 = .ok (.goto 5, 3) := by decide +kernel
theorem d71_52 : decode (am_bytes 71) 52 = .ok (.iload 5, 2) := by decide +kernel
theorem d71_54 : decode (am_bytes 71) 54 = .ok (.istore 5, 2) := by decide +kernel
theorem d71_56 : decode (am_bytes 71) 56 = .ok (.iinc 6 1, 3) := by decide +kernel
theorem d71_59 : decode (am_bytes 71) 59 = .ok (.goto (-46), 3) := by decide +kernel
theorem d71_62 : decode (am_bytes 71) 62 = .ok (.iload 5, 2) := by decide +kernel
theorem d71_64 : decode (am_bytes 71) 64 = .ok (.ireturn, 1) := by decide +kernel
theorem d72_0 : decode (am_bytes 72) 0 = .ok (.aload_n 0, 1) := by decide +kernel
theorem d72_1 : decode (am_bytes 72) 1 = .ok (.bipush 46, 2) := by decide +kernel
theorem d72_3 : decode (am_bytes 72) 3 = .ok (.invokevirtual 130, 3) := by decide +kernel
theorem d72_6 : decode (am_bytes 72) 6 = .ok (.ifCond .eq 12, 3) := by decide +kernel
theorem d72_9 : decode (am_bytes 72) 9 = .ok (.aload_n 0, 1) := by decide +kernel
theorem d72_10 : decode (am_bytes 72) 10 = .ok (.iload_n 1, 1) := by decide +kernel
theorem d72_11 : decode (am_bytes 72) 11 = .ok (.iconst 0, 1) := by decide +kernel
theorem d72_12 : decode (am_bytes 72) 12 = .ok (.iload_n 2, 1) := by decide +kernel
theorem d72_13 : decode (am_bytes 72) 13 = .ok (.iload_n 3, 1) := by decide +kernel
theorem d72_14 : decode (am_bytes 72) 14 = .ok (.invokevirtual 146, 3) := by decide +kernel
theorem d72_17 : decode (am_bytes 72) 17 = .ok (.ireturn, 1) := by decide +kernel
theorem d72_18 : decode (am_bytes 72) 18 = .ok (.aload_n 0, 1) := by decide +kernel
theorem d72_19 : decode (am_bytes 72) 19 = .ok (.bipush 94, 2) := by decide +kernel
theorem d72_21 : decode (am_bytes 72) 21 = .ok (.invokevirtual 130, 3) := by decide +kernel
theorem d72_24 : decode (am_bytes 72) 24 = .ok (.ifCond .eq 12, 3) := by decide +kernel
theorem d72_27 : decode (am_bytes 72) 27 = .ok (.aload_n 0, 1) := by decide +kernel
theorem d72_28 : decode (am_bytes 72) 28 = .ok (.iload_n 1, 1) := by decide +kernel
theorem d72_29 : decode (am_bytes 72) 29 = .ok (.iconst 1, 1) := by decide +kernel
theorem d72_30 : decode (am_bytes 72) 30 = .ok (.iload_n 2, 1) := by decide +kernel
theorem d72_31 : decode (am_bytes 72) 31 = .ok (.iload_n 3, 1) := by decide +kernel
theorem d72_32 : decode (am_bytes 72) 32 = .ok (.invokevirtual 146, 3) := by decide +kernel
theorem d72_35 : decode (am_bytes 72) 35 = .ok (.ireturn, 1) := by decide +kernel
theorem d72_36 : decode (am_bytes 72) 36 = .ok (.aload_n 0, 1) := by decide +kernel
theorem d72_37 : decode (am_bytes 72) 37 = .ok (.bipush 91, 2) := by decide +kernel
theorem d72_39 : decode (am_bytes 72) 39 = .ok (.invokevirtual 130, 3) := by decide +kernel
theorem d72_42 : decode (am_bytes 72) 42 = .ok (.ifCond .eq 11, 3) := by decide +kernel
theorem d72_45 : decode (am_bytes 72) 45 = .ok (.aload_n 0, 1) := by decide +kernel
theorem d72_46 : decode (am_bytes 72) 46 = .ok (.iload_n 1, 1) := by decide +kernel
theorem d72_47 : decode (am_bytes 72) 47 = .ok (.iload_n 2, 1) := by decide +kernel
theorem d72_48 : decode (am_bytes 72) 48 = .ok (.iload_n 3, 1) := by decide +kernel
theorem d72_49 : decode (am_bytes 72) 49 = .ok (.invokevirtual 150, 3) := by decide +kernel
theorem d72_52 : decode (am_bytes 72) 52 = .ok (.ireturn, 1) := by decide +kernel
theorem d72_53 : decode (am_bytes 72) 53 = .ok (.aload_n 0, 1) := by decide +kernel
theorem d72_54 : decode (am_bytes 72) 54 = .ok (.aload_n 0, 1) := by decide +kernel
theorem d72_55 : decode (am_bytes 72) 55 = .ok (.getfield 126, 3) := by decide +kernel
theorem d72_58 : decode (am_bytes 72) 58 = .ok (.ifCond .eq 16, 3) := by decide +kernel
theorem d72_61 : decode (am_bytes 72) 61 = .ok (.aload_n 0, 1) := by decide +kernel
theorem d72_62 : decode (am_bytes 72) 62 = .ok (.bipush 63, 2) := by decide +kernel
theorem d72_64 : decode (am_bytes 72) 64 = .ok (.invokevirtual 130, 3) := by decide +kernel
theorem d72_67 : decode (am_bytes 72) 67 = .ok (.ifCond .eq 7, 3) := by decide +kernel
theorem d72_70 : decode (am_bytes 72) 70 = .ok (.iconst 1, 1) := by decide +kernel
theorem d72_71 : decode (am_bytes 72) 71 = .ok (.goto 4, 3) := by decide +kernel
theorem d72_74 : decode (am_bytes 72) 74 = .ok (.iconst 0, 1) := by decide +kernel
theorem d72_75 : decode (am_bytes 72) 75 = .ok (.putfield 126, 3) := by decide +kernel
theorem d72_78 : decode (am_bytes 72) 78 = .ok (.aload_n 0, 1) := by decide +kernel
theorem d72_79 : decode (am_bytes 72) 79 = .ok (.getfield 126, 3) := by decide +kernel
theorem d72_82 : decode (am_bytes 72) 82 = .ok (.ifCond .eq 13, 3) := by decide +kernel
theorem d72_85 : decode (am_bytes 72) 85 = .ok (.aload_n 0, 1) := by decide +kernel
theorem d72_86 : decode (am_bytes 72) 86 = .ok (.iload_n 1, 1) := by decide +kernel
theorem d72_87 : decode (am_bytes 72) 87 = .ok (.iload_n 2, 1) := by decide +kernel
theorem d72_88 : decode (am_bytes 72) 88 = .ok (.iload_n 3, 1) := by decide +kernel
theorem d72_89 : decode (am_bytes 72) 89 = .ok (.invokevirtual 153, 3) := by decide +kernel
theorem d72_92 : decode (am_bytes 72) 92 = .ok (.goto 4, 3) := by decide +kernel
theorem d72_95 : decode (am_bytes 72) 95 = .ok (.iconst 0, 1) := by decide +kernel
theorem d72_96 : decode (am_bytes 72) 96 = .ok (.ireturn, 1) := by decide +kernel
theorem d73_0 : decode (am_bytes 73) 0 = .ok (.aload_n 0, 1) := by decide +kernel
theorem d73_1 : decode (am_bytes 73) 1 = .ok (.aload_n 0, 1) := by decide +kernel
theorem d73_2 : decode (am_bytes 73) 2 = .ok (.iload_n 1, 1) := by decide +kernel
theorem d73_3 : decode (am_bytes 73) 3 = .ok (.invokevirtual 79, 3) := by decide +kernel
theorem d73_6 : decode (am_bytes 73) 6 = .ok (.ifCond .eq 7, 3) := by decide +kernel
theorem d73_9 : decode (am_bytes 73) 9 = .ok (.iconst 1, 1) := by decide +kernel
theorem d73_10 : decode (am_bytes 73) 10 = .ok (.goto 17, 3) := by decide +kernel
theorem d73_13 : decode (am_bytes 73) 13 = .ok (.aload_n 0, 1) := by decide +kernel
theorem d73_14 : decode (am_bytes 73) 14 = .ok (.iload_n 1, 1) := by decide +kernel
theorem d73_15 : decode (am_bytes 73) 15 = .ok (.iload_n 2, 1) := by decide +kernel
theorem d73_16 : decode (am_bytes 73) 16 = .ok (.invokevirtual 71, 3) := by decide +kernel
theorem d73_19 : decode (am_bytes 73) 19 = .ok (.ifCond .eq 7, 3) := by decide +kernel
theorem d73_22 : decode (am_bytes 73) 22 = .ok (.iconst 2, 1) := by decide +kernel
theorem d73_23 : decode (am_bytes 73) 23 = .ok (.goto 4, 3) := by decide +kernel
theorem d73_26 : decode (am_bytes 73) 26 = .ok (.iconst 0, 1) := by decide +kernel
theorem d73_27 : decode (am_bytes 73) 27 = .ok (.putfield 45, 3) := by decide +kernel
theorem d73_30 : decode (am_bytes 73) 30 = .ok (.aload_n 0, 1) := by decide +kernel
theorem d73_31 : decode (am_bytes 73) 31 = .ok (.getfield 45, 3) := by decide +kernel
theorem d73_34 : decode (am_bytes 73) 34 = .ok (.ifCond .le 5, 3) := by decide +kernel
theorem d73_37 : decode (am_bytes 73) 37 = .ok (.iconst 0, 1) := by decide +kernel
theorem d73_38 : decode (am_bytes 73) 38 = .ok (.ireturn, 1) := by decide +kernel
theorem d73_39 : decode (am_bytes 73) 39 = .ok (.aload_n 0, 1) := by decide +kernel
theorem d73_40 : decode (am_bytes 73) 40 = .ok (.iconst 1, 1) := by decide +kernel
theorem d73_41 : decode (am_bytes 73) 41 = .ok (.putfield 119, 3) := by decide +kernel
theorem d73_44 : decode (am_bytes 73) 44 = .ok (.aload_n 0, 1) := by decide +kernel
theorem d73_45 : decode (am_bytes 73) 45 = .ok (.getfield 116, 3) := by decide +kernel
theorem d73_48 : decode (am_bytes 73) 48 = .ok (.ifCond .le 12, 3) := by decide +kernel
theorem d73_51 : decode (am_bytes 73) 51 = .ok (.aload_n 0, 1) := by decide +kernel
theorem d73_52 : decode (am_bytes 73) 52 = .ok (.getfield 42, 3) := by decide +kernel
theorem d73_55 : decode (am_bytes 73) 55 = .ok (.iconst 0, 1) := by decide +kernel
theorem d73_56 : decode (am_bytes 73) 56 = .ok (.iaload, 1) := by decide +kernel
theorem d73_57 : decode (am_bytes 73) 57 = .ok (.goto 4, 3) := by decide +kernel
theorem d73_60 : decode (am_bytes 73) 60 = .ok (.iconst 0, 1) := by decide +kernel
theorem d73_61 : decode (am_bytes 73) 61 = .ok (.istore_n 3, 1) := by decide +kernel
theorem d73_62 : decode (am_bytes 73) 62 = .ok (.aload_n 0, 1) := by decide +kernel
theorem d73_63 : decode (am_bytes 73) 63 = .ok (.iload_n 3, 1) := by decide +kernel
theorem d73_64 : decode (am_bytes 73) 64 = .ok (.bipush 42, 2) := by decide +kernel
theorem d73_66 : decode (am_bytes 73) 66 = .ok (.if_icmp .eq 15, 3) := by decide +kernel
theorem d73_69 : decode (am_bytes 73) 69 = .ok (.iload_n 3, 1) := by decide +kernel
theorem d73_70 : decode (am_bytes 73) 70 = .ok (.bipush 97, 2) := by decide +kernel
theorem d73_72 : decode (am_bytes 73) 72 = .ok (.if_icmp .lt 13, 3) := by decide +kernel
theorem d73_75 : decode (am_bytes 73) 75 = .ok (.iload_n 3, 1) := by decide +kernel
theorem d73_76 : decode (am_bytes 73) 76 = .ok (.bipush 108, 2) := by decide +kernel
theorem d73_78 : decode (am_bytes 73) 78 = .ok (.if_icmp .gt 7, 3) := by decide +kernel
theorem d73_81 : decode (am_bytes 73) 81 = .ok (.iconst 1, 1) := by decide +kernel
theorem d73_82 : decode (am_bytes 73) 82 = .ok (.goto 4, 3) := by decide +kernel
theorem d73_85 : decode (am_bytes 73) 85 = .ok (.iconst 0, 1) := by decide +kernel
theorem d73_86 : decode (am_bytes 73) 86 = .ok (.putfield 126, 3) := by decide +kernel
theorem d73_89 : decode (am_bytes 73) 89 = .ok (.iload_n 3, 1) := by decide +kernel
theorem d73_90 : decode (am_bytes 73) 90 = .ok (.bipush 42, 2) := by decide +kernel
theorem d73_92 : decode (am_bytes 73) 92 = .ok (.if_icmp .ne 9, 3) := by decide +kernel
theorem d73_95 : decode (am_bytes 73) 95 = .ok (.sipush 4095, 3) := by decide +kernel
theorem d73_98 : decode (am_bytes 73) 98 = .ok (.goto 20, 3) := by decide +kernel
theorem d73_101 : decode (am_bytes 73) 101 = .ok (.aload_n 0, 1) := by decide +kernel
theorem d73_102 : decode (am_bytes 73) 102 = .ok (.getfield 126, 3) := by decide +kernel
theorem d73_105 : decode (am_bytes 73) 105 = .ok (.ifCond .eq 12, 3) := by decide +kernel
theorem d73_108 : decode (am_bytes 73) 108 = .ok (.iconst 1, 1) := by decide +kernel
theorem d73_109 : decode (am_bytes 73) 109 = .ok (.iload_n 3, 1) := by decide +kernel
theorem d73_110 : decode (am_bytes 73) 110 = .ok (.bipush 97, 2) := by decide +kernel
theorem d73_112 : decode (am_bytes 73) 112 = .ok (.isub, 1) := by decide +kernel
theorem d73_113 : decode (am_bytes 73) 113 = .ok (.ishl, 1) := by decide +kernel
theorem d73_114 : decode (am_bytes 73) 114 = .ok (.goto 4, 3) := by decide +kernel
theorem d73_117 : decode (am_bytes 73) 117 = .ok (.iconst 0, 1) := by decide +kernel
theorem d73_118 : decode (am_bytes 73) 118 = .ok (.istore 4, 2) := by decide +kernel
theorem d73_120 : decode (am_bytes 73) 120 = .ok (.aload_n 0, 1) := by decide +kernel
theorem d73_121 : decode (am_bytes 73) 121 = .ok (.getfield 126, 3) := by decide +kernel
theorem d73_124 : decode (am_bytes 73) 124 = .ok (.ifCond .eq 27, 3) := by decide +kernel
theorem d73_127 : decode (am_bytes 73) 127 = .ok (.aload_n 0, 1) := by decide +kernel
theorem d73_128 : decode (am_bytes 73) 128 = .ok (.getfield 119, 3) := by decide +kernel
theorem d73_131 : decode (am_bytes 73) 131 = .ok (.aload_n 0, 1) := by decide +kernel
theorem d73_132 : decode (am_bytes 73) 132 = .ok (.getfield 116, 3) := by decide +kernel
theorem d73_135 : decode (am_bytes 73) 135 = .ok (.if_icmp .ge 16, 3) := by decide +kernel
theorem d73_138 : decode (am_bytes 73) 138 = .ok (.aload_n 0, 1) := by decide +kernel
theorem d73_139 : decode (am_bytes 73) 139 = .ok (.iload 4, 2) := by decide +kernel
theorem d73_141 : decode (am_bytes 73) 141 = .ok (.iload_n 1, 1) := by decide +kernel
theorem d73_142 : decode (am_bytes 73) 142 = .ok (.iload_n 2, 1) := by decide +kernel
theorem d73_143 : decode (am_bytes 73) 143 = .ok (.invokevirtual 156, 3) := by decide +kernel
theorem d73_146 : decode (am_bytes 73) 146 = .ok (.istore 4, 2) := by decide +kernel
theorem d73_148 : decode (am_bytes 73) 148 = .ok (.goto (-28), 3) := by decide +kernel
theorem d73_151 : decode (am_bytes 73) 151 = .ok (.aload_n 0, 1) := by decide +kernel
theorem d73_152 : decode (am_bytes 73) 152 = .ok (.getfield 126, 3) := by decide +kernel
theorem d73_155 : decode (am_bytes 73) 155 = .ok (.ifCond .eq 8, 3) := by decide +kernel
theorem d73_158 : decode (am_bytes 73) 158 = .ok (.iload 4, 2) := by decide +kernel
theorem d73_160 : decode (am_bytes 73) 160 = .ok (.goto 4, 3) := by decide +kernel
theorem d73_163 : decode (am_bytes 73) 163 = .ok (.iconst (-1), 1) := by decide +kernel
theorem d73_164 : decode (am_bytes 73) 164 = .ok (.ireturn, 1) := by decide +kernel
theorem d74_0 : decode (am_bytes 74) 0 = .ok (.aload_n 0, 1) := by decide +kernel
theorem d74_1 : decode (am_bytes 74) 1 = .ok (.iload_n 1, 1) := by decide +kernel
theorem d74_2 : decode (am_bytes 74) 2 = .ok (.ifCond .lt 8, 3) := by decide +kernel
theorem d74_5 : decode (am_bytes 74) 5 = .ok (.iload_n 1, 1) := by decide +kernel
theorem d74_6 : decode (am_bytes 74) 6 = .ok (.iconst 3, 1) := by decide +kernel
theorem d74_7 : decode (am_bytes 74) 7 = .ok (.if_icmp .le 7, 3) := by decide +kernel
theorem d74_10 : decode (am_bytes 74) 10 = .ok (.iconst 1, 1) := by decide +kernel
theorem d74_11 : decode (am_bytes 74) 11 = .ok (.goto 4, 3) := by decide +kernel
theorem d74_14 : decode (am_bytes 74) 14 = .ok (.iconst 0, 1) := by decide +kernel
theorem d74_15 : decode (am_bytes 74) 15 = .ok (.putfield 45, 3) := by decide +kernel
theorem d74_18 : decode (am_bytes 74) 18 = .ok (.aload_n 0, 1) := by decide +kernel
theorem d74_19 : decode (am_bytes 74) 19 = .ok (.getfield 45, 3) := by decide +kernel
theorem d74_22 : decode (am_bytes 74) 22 = .ok (.ifCond .le 7, 3) := by decide +kernel
theorem d74_25 : decode (am_bytes 74) 25 = .ok (.iconst 0, 1) := by decide +kernel
theorem d74_26 : decode (am_bytes 74) 26 = .ok (.goto 42, 3) := by decide +kernel
theorem d74_29 : decode (am_bytes 74) 29 = .ok (.iload_n 1, 1) := by decide +kernel
theorem d74_30 : decode (am_bytes 74) 30 = .ok (.ifCond .ne 10, 3) := by decide +kernel
theorem d74_33 : decode (am_bytes 74) 33 = .ok (.aload_n 0, 1) := by decide +kernel
theorem d74_34 : decode (am_bytes 74) 34 = .ok (.getfield 55, 3) := by decide +kernel
theorem d74_37 : decode (am_bytes 74) 37 = .ok (.goto 31, 3) := by decide +kernel
theorem d74_40 : decode (am_bytes 74) 40 = .ok (.iload_n 1, 1) := by decide +kernel
theorem d74_41 : decode (am_bytes 74) 41 = .ok (.iconst 1, 1) := by decide +kernel
theorem d74_42 : decode (am_bytes 74) 42 = .ok (.if_icmp .ne 10, 3) := by decide +kernel
theorem d74_45 : decode (am_bytes 74) 45 = .ok (.aload_n 0, 1) := by decide +kernel
theorem d74_46 : decode (am_bytes 74) 46 = .ok (.getfield 48, 3) := by decide +kernel
theorem d74_49 : decode (am_bytes 74) 49 = .ok (.goto 19, 3) := by decide +kernel
theorem d74_52 : decode (am_bytes 74) 52 = .ok (.iload_n 1, 1) := by decide +kernel
theorem d74_53 : decode (am_bytes 74) 53 = .ok (.iconst 2, 1) := by decide +kernel
theorem d74_54 : decode (am_bytes 74) 54 = .ok (.if_icmp .ne 10, 3) := by decide +kernel
theorem d74_57 : decode (am_bytes 74) 57 = .ok (.aload_n 0, 1) := by decide +kernel
theorem d74_58 : decode (am_bytes 74) 58 = .ok (.getfield 58, 3) := by decide +kernel
theorem d74_61 : decode (am_bytes 74) 61 = .ok (.goto 7, 3) := by decide +kernel
theorem d74_64 : decode (am_bytes 74) 64 = .ok (.aload_n 0, 1) := by decide +kernel
theorem d74_65 : decode (am_bytes 74) 65 = .ok (.getfield 7, 3) := by decide +kernel
theorem d74_68 : decode (am_bytes 74) 68 = .ok (.ireturn, 1) := by decide +kernel
theorem d75_0 : decode (am_bytes 75) 0 = .ok (.aload_n 0, 1) := by decide +kernel
theorem d75_1 : decode (am_bytes 75) 1 = .ok (.aload_n 0, 1) := by decide +kernel
theorem d75_2 : decode (am_bytes 75) 2 = .ok (.iload_n 1, 1) := by decide +kernel
theorem d75_3 : decode (am_bytes 75) 3 = .ok (.invokevirtual 79, 3) := by decide +kernel
theorem d75_6 : decode (am_bytes 75) 6 = .ok (.ifCond .eq 7, 3) := by decide +kernel
theorem d75_9 : decode (am_bytes 75) 9 = .ok (.iconst 1, 1) := by decide +kernel
theorem d75_10 : decode (am_bytes 75) 10 = .ok (.goto 17, 3) := by decide +kernel
theorem d75_13 : decode (am_bytes 75) 13 = .ok (.iload_n 2, 1) := by decide +kernel
theorem d75_14 : decode (am_bytes 75) 14 = .ok (.ifCond .lt 8, 3) := by decide +kernel
theorem d75_17 : decode (am_bytes 75) 17 = .ok (.iload_n 2, 1) := by decide +kernel
theorem d75_18 : decode (am_bytes 75) 18 = .ok (.iconst 3, 1) := by decide +kernel
theorem d75_19 : decode (am_bytes 75) 19 = .ok (.if_icmp .le 7, 3) := by decide +kernel
theorem d75_22 : decode (am_bytes 75) 22 = .ok (.iconst 2, 1) := by decide +kernel
theorem d75_23 : decode (am_bytes 75) 23 = .ok (.goto 4, 3) := by decide +kernel
theorem d75_26 : decode (am_bytes 75) 26 = .ok (.iconst 0, 1) := by decide +kernel
theorem d75_27 : decode (am_bytes 75) 27 = .ok (.putfield 45, 3) := by decide +kernel
theorem d75_30 : decode (am_bytes 75) 30 = .ok (.aload_n 0, 1) := by decide +kernel
theorem d75_31 : decode (am_bytes 75) 31 = .ok (.getfield 45, 3) := by decide +kernel
theorem d75_34 : decode (am_bytes 75) 34 = .ok (.ifCond .le 5, 3) := by decide +kernel
theorem d75_37 : decode (am_bytes 75) 37 = .ok (.iconst 0, 1) := by decide +kernel
theorem d75_38 : decode (am_bytes 75) 38 = .ok (.ireturn, 1) := by decide +kernel
theorem d75_39 : decode (am_bytes 75) 39 = .ok (.iconst 0, 1) := by decide +kernel
theorem d75_40 : decode (am_bytes 75) 40 = .ok (.istore_n 3, 1) := by decide +kernel
theorem d75_41 : decode (am_bytes 75) 41 = .ok (.iconst 0, 1) := by decide +kernel
theorem d75_42 : decode (am_bytes 75) 42 = .ok (.istore 4, 2) := by decide +kernel
theorem d75_44 : decode (am_bytes 75) 44 = .ok (.iload 4, 2) := by decide +kernel
theorem d75_46 : decode (am_bytes 75) 46 = .ok (.aload_n 0, 1) := by decide +kernel
theorem d75_47 : decode (am_bytes 75) 47 = .ok (.getfield 58, 3) := by decide +kernel
theorem d75_50 : decode (am_bytes 75) 50 = .ok (.if_icmp .ge 28, 3) := by decide +kernel
theorem d75_53 : decode (am_bytes 75) 53 = .ok (.aload_n 0, 1) := by decide +kernel
theorem d75_54 : decode (am_bytes 75) 54 = .ok (.getfield 24, 3) := by decide +kernel
theorem d75_57 : decode (am_bytes 75) 57 = .ok (.iload 4, 2) := by decide +kernel
theorem d75_59 : decode (am_bytes 75) 59 = .ok (.iaload, 1) := by decide +kernel
theorem d75_60 : decode (am_bytes 75) 60 = .ok (.iload_n 1, 1) := by decide +kernel
theorem d75_61 : decode (am_bytes 75) 61 = .ok (.if_icmp .ne 9, 3) := by decide +kernel
theorem d75_64 : decode (am_bytes 75) 64 = .ok (.iload_n 3, 1) := by decide +kernel
theorem d75_65 : decode (am_bytes 75) 65 = .ok (.iconst 1, 1) := by decide +kernel
theorem d75_66 : decode (am_bytes 75) 66 = .ok (.iadd, 1) := by decide +kernel
theorem d75_67 : decode (am_bytes 75) 67 = .ok (.goto 4, 3) := by decide +kernel
theorem d75_70 : decode (am_bytes 75) 70 = .ok (.iload_n 3, 1) := by decide +kernel
theorem d75_71 : decode (am_bytes 75) 71 = .ok (.istore_n 3, 1) := by decide +kernel
theorem d75_72 : decode (am_bytes 75) 72 = .ok (.iinc 4 1, 3) := by decide +kernel
theorem d75_75 : decode (am_bytes 75) 75 = .ok (.goto (-31), 3) := by decide +kernel
theorem d75_78 : decode (am_bytes 75) 78 = .ok (.iload_n 2, 1) := by decide +kernel
theorem d75_79 : decode (am_bytes 75) 79 = .ok (.ifCond .ne 20, 3) := by decide +kernel
theorem d75_82 : decode (am_bytes 75) 82 = .ok (.aload_n 0, 1) := by decide +kernel
theorem d75_83 : decode (am_bytes 75) 83 = .ok (.getfield 20, 3) := by decide +kernel
theorem d75_86 : decode (am_bytes 75) 86 = .ok (.iload_n 1, 1) := by decide +kernel
theorem d75_87 : decode (am_bytes 75) 87 = .ok (.baload, 1) := by decide +kernel
theorem d75_88 : decode (am_bytes 75) 88 = .ok (.ifCond .eq 7, 3) := by decide +kernel
theorem d75_91 : decode (am_bytes 75) 91 = .ok (.iconst 0, 1) := by decide +kernel
theorem d75_92 : decode (am_bytes 75) 92 = .ok (.goto 36, 3) := by decide +kernel
theorem d75_95 : decode (am_bytes 75) 95 = .ok (.iconst 1, 1) := by decide +kernel
theorem d75_96 : decode (am_bytes 75) 96 = .ok (.goto 32, 3) := by decide +kernel
theorem d75_99 : decode (am_bytes 75) 99 = .ok (.iload_n 2, 1) := by decide +kernel
theorem d75_100 : decode (am_bytes 75) 100 = .ok (.iconst 1, 1) := by decide +kernel
theorem d75_101 : decode (am_bytes 75) 101 = .ok (.if_icmp .ne 12, 3) := by decide +kernel
theorem d75_104 : decode (am_bytes 75) 104 = .ok (.aload_n 0, 1) := by decide +kernel
theorem d75_105 : decode (am_bytes 75) 105 = .ok (.getfield 13, 3) := by decide +kernel
theorem d75_108 : decode (am_bytes 75) 108 = .ok (.iload_n 1, 1) := by decide +kernel
theorem d75_109 : decode (am_bytes 75) 109 = .ok (.iaload, 1) := by decide +kernel
theorem d75_110 : decode (am_bytes 75) 110 = .ok (.goto 18, 3) := by decide +kernel
theorem d75_113 : decode (am_bytes 75) 113 = .ok (.iload_n 2, 1) := by decide +kernel
theorem d75_114 : decode (am_bytes 75) 114 = .ok (.iconst 2, 1) := by decide +kernel
theorem d75_115 : decode (am_bytes 75) 115 = .ok (.if_icmp .ne 12, 3) := by decide +kernel
theorem d75_118 : decode (am_bytes 75) 118 = .ok (.aload_n 0, 1) := by decide +kernel
theorem d75_119 : decode (am_bytes 75) 119 = .ok (.getfield 17, 3) := by decide +kernel
theorem d75_122 : decode (am_bytes 75) 122 = .ok (.iload_n 1, 1) := by decide +kernel
theorem d75_123 : decode (am_bytes 75) 123 = .ok (.iaload, 1) := by decide +kernel
theorem d75_124 : decode (am_bytes 75) 124 = .ok (.goto 4, 3) := by decide +kernel
theorem d75_127 : decode (am_bytes 75) 127 = .ok (.iload_n 3, 1) := by decide +kernel
theorem d75_128 : decode (am_bytes 75) 128 = .ok (.ireturn, 1) := by decide +kernel
theorem d76_0 : decode (am_bytes 76) 0 = .ok (.aload_n 0, 1) := by decide +kernel
theorem d76_1 : decode (am_bytes 76) 1 = .ok (.getfield 25, 3) := by decide +kernel
theorem d76_4 : decode (am_bytes 76) 4 = .ok (.istore_n 3, 1) := by decide +kernel
theorem d76_5 : decode (am_bytes 76) 5 = .ok (.aload_n 0, 1) := by decide +kernel
theorem d76_6 : decode (am_bytes 76) 6 = .ok (.getfield 9, 3) := by decide +kernel
theorem d76_9 : decode (am_bytes 76) 9 = .ok (.iload_n 3, 1) := by decide +kernel
theorem d76_10 : decode (am_bytes 76) 10 = .ok (.iload_n 1, 1) := by decide +kernel
theorem d76_11 : decode (am_bytes 76) 11 = .ok (.iastore, 1) := by decide +kernel
theorem d76_12 : decode (am_bytes 76) 12 = .ok (.aload_n 0, 1) := by decide +kernel
theorem d76_13 : decode (am_bytes 76) 13 = .ok (.getfield 15, 3) := by decide +kernel
theorem d76_16 : decode (am_bytes 76) 16 = .ok (.iload_n 3, 1) := by decide +kernel
theorem d76_17 : decode (am_bytes 76) 17 = .ok (.iload_n 2, 1) := by decide +kernel
theorem d76_18 : decode (am_bytes 76) 18 = .ok (.iastore, 1) := by decide +kernel
theorem d76_19 : decode (am_bytes 76) 19 = .ok (.aload_n 0, 1) := by decide +kernel
theorem d76_20 : decode (am_bytes 76) 20 = .ok (.getfield 18, 3) := by decide +kernel
theorem d76_23 : decode (am_bytes 76) 23 = .ok (.iload_n 3, 1) := by decide +kernel
theorem d76_24 : decode (am_bytes 76) 24 = .ok (.iconst 1, 1) := by decide +kernel
theorem d76_25 : decode (am_bytes 76) 25 = .ok (.bastore, 1) := by decide +kernel
theorem d76_26 : decode (am_bytes 76) 26 = .ok (.aload_n 0, 1) := by decide +kernel
theorem d76_27 : decode (am_bytes 76) 27 = .ok (.dup, 1) := by decide +kernel
theorem d76_28 : decode (am_bytes 76) 28 = .ok (.getfield 25, 3) := by decide +kernel
theorem d76_31 : decode (am_bytes 76) 31 = .ok (.iconst 1, 1) := by decide +kernel
theorem d76_32 : decode (am_bytes 76) 32 = .ok (.iadd, 1) := by decide +kernel
theorem d76_33 : decode (am_bytes 76) 33 = .ok (.putfield 25, 3) := by decide +kernel
theorem d76_36 : decode (am_bytes 76) 36 = .ok (.iload_n 3, 1) := by decide +kernel
theorem d76_37 : decode (am_bytes 76) 37 = .ok (.ireturn, 1) := by decide +kernel
theorem d77_0 : decode (am_bytes 77) 0 = .ok (.iconst 0, 1) := by decide +kernel
theorem d77_1 : decode (am_bytes 77) 1 = .ok (.istore_n 1, 1) := by decide +kernel
theorem d77_2 : decode (am_bytes 77) 2 = .ok (.iconst 0, 1) := by decide +kernel
theorem d77_3 : decode (am_bytes 77) 3 = .ok (.istore_n 2, 1) := by decide +kernel
theorem d77_4 : decode (am_bytes 77) 4 = .ok (.iload_n 2, 1) := by decide +kernel
theorem d77_5 : decode (am_bytes 77) 5 = .ok (.aload_n 0, 1) := by decide +kernel
theorem d77_6 : decode (am_bytes 77) 6 = .ok (.getfield 25, 3) := by decide +kernel
theorem d77_9 : decode (am_bytes 77) 9 = .ok (.if_icmp .ge 21, 3) := by decide +kernel
theorem d77_12 : decode (am_bytes 77) 12 = .ok (.aload_n 0, 1) := by decide +kernel
theorem d77_13 : decode (am_bytes 77) 13 = .ok (.getfield 18, 3) := by decide +kernel
theorem d77_16 : decode (am_bytes 77) 16 = .ok (.iload_n 2, 1) := by decide +kernel
theorem d77_17 : decode (am_bytes 77) 17 = .ok (.baload, 1) := by decide +kernel
theorem d77_18 : decode (am_bytes 77) 18 = .ok (.ifCond .eq 6, 3) := by decide +kernel
theorem d77_21 : decode (am_bytes 77) 21 = .ok (.iinc 1 1, 3) := by decide +kernel
theorem d77_24 : decode (am_bytes 77) 24 = .ok (.iinc 2 1, 3) := by decide +kernel
theorem d77_27 : decode (am_bytes 77) 27 = .ok (.goto (-23), 3) := by decide +kernel
theorem d77_30 : decode (am_bytes 77) 30 = .ok (.iload_n 1, 1) := by decide +kernel
theorem d77_31 : decode (am_bytes 77) 31 = .ok (.ireturn, 1) := by decide +kernel
theorem d78_0 : decode (am_bytes 78) 0 = .ok (.iload_n 3, 1) := by decide +kernel
theorem d78_1 : decode (am_bytes 78) 1 = .ok (.istore 4, 2) := by decide +kernel
theorem d78_3 : decode (am_bytes 78) 3 = .ok (.iload_n 1, 1) := by decide +kernel
theorem d78_4 : decode (am_bytes 78) 4 = .ok (.istore 5, 2) := by decide +kernel
theorem d78_6 : decode (am_bytes 78) 6 = .ok (.iload_n 2, 1) := by decide +kernel
theorem d78_7 : decode (am_bytes 78) 7 = .ok (.istore 6, 2) := by decide +kernel
theorem d78_9 : decode (am_bytes 78) 9 = .ok (.iconst 0, 1) := by decide +kernel
theorem d78_10 : decode (am_bytes 78) 10 = .ok (.istore 7, 2) := by decide +kernel
theorem d78_12 : decode (am_bytes 78) 12 = .ok (.iload 7, 2) := by decide +kernel
theorem d78_14 : decode (am_bytes 78) 14 = .ok (.bipush 12, 2) := by decide +kernel
theorem d78_16 : decode (am_bytes 78) 16 = .ok (.if_icmp .ge 67, 3) := by decide +kernel
theorem d78_19 : decode (am_bytes 78) 19 = .ok (.iload 5, 2) := by decide +kernel
theorem d78_21 : decode (am_bytes 78) 21 = .ok (.iload 6, 2) := by decide +kernel
theorem d78_23 : decode (am_bytes 78) 23 = .ok (.if_icmp .eq 60, 3) := by decide +kernel
theorem d78_26 : decode (am_bytes 78) 26 = .ok (.iload 5, 2) := by decide +kernel
theorem d78_28 : decode (am_bytes 78) 28 = .ok (.iload 6, 2) := by decide +kernel
theorem d78_30 : decode (am_bytes 78) 30 = .ok (.invokestatic 29, 3) := by decide +kernel
theorem d78_33 : decode (am_bytes 78) 33 = .ok (.istore 8, 2) := by decide +kernel
theorem d78_35 : decode (am_bytes 78) 35 = .ok (.iload 4, 2) := by decide +kernel
theorem d78_37 : decode (am_bytes 78) 37 = .ok (.aload_n 0, 1) := by decide +kernel
theorem d78_38 : decode (am_bytes 78) 38 = .ok (.getfield 15, 3) := by decide +kernel
theorem d78_41 : decode (am_bytes 78) 41 = .ok (.iload 8, 2) := by decide +kernel
theorem d78_43 : decode (am_bytes 78) 43 = .ok (.iaload, 1) := by decide +kernel
theorem d78_44 : decode (am_bytes 78) 44 = .ok (.invokestatic 35, 3) := by decide +kernel
theorem d78_47 : decode (am_bytes 78) 47 = .ok (.istore 4, 2) := by decide +kernel
theorem d78_49 : decode (am_bytes 78) 49 = .ok (.iload 5, 2) := by decide +kernel
theorem d78_51 : decode (am_bytes 78) 51 = .ok (.iload 8, 2) := by decide +kernel
theorem d78_53 : decode (am_bytes 78) 53 = .ok (.if_icmp .ne 15, 3) := by decide +kernel
theorem d78_56 : decode (am_bytes 78) 56 = .ok (.aload_n 0, 1) := by decide +kernel
theorem d78_57 : decode (am_bytes 78) 57 = .ok (.getfield 9, 3) := by decide +kernel
theorem d78_60 : decode (am_bytes 78) 60 = .ok (.iload 8, 2) := by decide +kernel
theorem d78_62 : decode (am_bytes 78) 62 = .ok (.iaload, 1) := by decide +kernel
theorem d78_63 : decode (am_bytes 78) 63 = .ok (.istore 5, 2) := by decide +kernel
theorem d78_65 : decode (am_bytes 78) 65 = .ok (.goto 12, 3) := by decide +kernel
theorem d78_68 : decode (am_bytes 78) 68 = .ok (.aload_n 0, 1) := by decide +kernel
theorem d78_69 : decode (am_bytes 78) 69 = .ok (.getfield 9, 3) := by decide +kernel
theorem d78_72 : decode (am_bytes 78) 72 = .ok (.iload 8, 2) := by decide +kernel
theorem d78_74 : decode (am_bytes 78) 74 = .ok (.iaload, 1) := by decide +kernel
theorem d78_75 : decode (am_bytes 78) 75 = .ok (.istore 6, 2) := by decide +kernel
theorem d78_77 : decode (am_bytes 78) 77 = .ok (.iinc 7 1, 3) := by decide +kernel
theorem d78_80 : decode (am_bytes 78) 80 = .ok (.goto (-68), 3) := by decide +kernel
theorem d78_83 : decode (am_bytes 78) 83 = .ok (.iload 4, 2) := by decide +kernel
theorem d78_85 : decode (am_bytes 78) 85 = .ok (.ireturn, 1) := by decide +kernel
theorem d79_0 : decode (am_bytes 79) 0 = .ok (.aload_n 0, 1) := by decide +kernel
theorem d79_1 : decode (am_bytes 79) 1 = .ok (.getfield 22, 3) := by decide +kernel
theorem d79_4 : decode (am_bytes 79) 4 = .ok (.iconst (-1), 1) := by decide +kernel
theorem d79_5 : decode (am_bytes 79) 5 = .ok (.invokestatic 38, 3) := by decide +kernel
theorem d79_8 : decode (am_bytes 79) 8 = .ok (.aload_n 0, 1) := by decide +kernel
theorem d79_9 : decode (am_bytes 79) 9 = .ok (.getfield 22, 3) := by decide +kernel
theorem d79_12 : decode (am_bytes 79) 12 = .ok (.iload_n 1, 1) := by decide +kernel
theorem d79_13 : decode (am_bytes 79) 13 = .ok (.iload_n 2, 1) := by decide +kernel
theorem d79_14 : decode (am_bytes 79) 14 = .ok (.iastore, 1) := by decide +kernel
theorem d79_15 : decode (am_bytes 79) 15 = .ok (.iload_n 1, 1) := by decide +kernel
theorem d79_16 : decode (am_bytes 79) 16 = .ok (.istore_n 3, 1) := by decide +kernel
theorem d79_17 : decode (am_bytes 79) 17 = .ok (.iload_n 3, 1) := by decide +kernel
theorem d79_18 : decode (am_bytes 79) 18 = .ok (.ifCond .le 45, 3) := by decide +kernel
theorem d79_21 : decode (am_bytes 79) 21 = .ok (.aload_n 0, 1) := by decide +kernel
theorem d79_22 : decode (am_bytes 79) 22 = .ok (.getfield 22, 3) := by decide +kernel
theorem d79_25 : decode (am_bytes 79) 25 = .ok (.iload_n 3, 1) := by decide +kernel
theorem d79_26 : decode (am_bytes 79) 26 = .ok (.iaload, 1) := by decide +kernel
theorem d79_27 : decode (am_bytes 79) 27 = .ok (.iconst (-1), 1) := by decide +kernel
theorem d79_28 : decode (am_bytes 79) 28 = .ok (.if_icmp .eq 29, 3) := by decide +kernel
theorem d79_31 : decode (am_bytes 79) 31 = .ok (.aload_n 0, 1) := by decide +kernel
theorem d79_32 : decode (am_bytes 79) 32 = .ok (.getfield 22, 3) := by decide +kernel
theorem d79_35 : decode (am_bytes 79) 35 = .ok (.aload_n 0, 1) := by decide +kernel
theorem d79_36 : decode (am_bytes 79) 36 = .ok (.getfield 9, 3) := by decide +kernel
theorem d79_39 : decode (am_bytes 79) 39 = .ok (.iload_n 3, 1) := by decide +kernel
theorem d79_40 : decode (am_bytes 79) 40 = .ok (.iaload, 1) := by decide +kernel
theorem d79_41 : decode (am_bytes 79) 41 = .ok (.aload_n 0, 1) := by decide +kernel
theorem d79_42 : decode (am_bytes 79) 42 = .ok (.getfield 22, 3) := by decide +kernel
theorem d79_45 : decode (am_bytes 79) 45 = .ok (.iload_n 3, 1) := by decide +kernel
theorem d79_46 : decode (am_bytes 79) 46 = .ok (.iaload, 1) := by decide +kernel
theorem d79_47 : decode (am_bytes 79) 47 = .ok (.aload_n 0, 1) := by decide +kernel
theorem d79_48 : decode (am_bytes 79) 48 = .ok (.getfield 15, 3) := by decide +kernel
theorem d79_51 : decode (am_bytes 79) 51 = .ok (.iload_n 3, 1) := by decide +kernel
theorem d79_52 : decode (am_bytes 79) 52 = .ok (.iaload, 1) := by decide +kernel
theorem d79_53 : decode (am_bytes 79) 53 = .ok (.invokestatic 35, 3) := by decide +kernel
theorem d79_56 : decode (am_bytes 79) 56 = .ok (.iastore, 1) := by decide +kernel
theorem d79_57 : decode (am_bytes 79) 57 = .ok (.iinc 3 (-1), 3) := by decide +kernel
theorem d79_60 : decode (am_bytes 79) 60 = .ok (.goto (-43), 3) := by decide +kernel
theorem d79_63 : decode (am_bytes 79) 63 = .ok (.return_, 1) := by decide +kernel
theorem d80_0 : decode (am_bytes 80) 0 = .ok (.bipush 24, 2) := by decide +kernel
theorem d80_2 : decode (am_bytes 80) 2 = .ok (.istore_n 2, 1) := by decide +kernel
theorem d80_3 : decode (am_bytes 80) 3 = .ok (.iload_n 2, 1) := by decide +kernel
theorem d80_4 : decode (am_bytes 80) 4 = .ok (.ifCond .lt 33, 3) := by decide +kernel
theorem d80_7 : decode (am_bytes 80) 7 = .ok (.iload_n 1, 1) := by decide +kernel
theorem d80_8 : decode (am_bytes 80) 8 = .ok (.iload_n 2, 1) := by decide +kernel
theorem d80_9 : decode (am_bytes 80) 9 = .ok (.invokestatic 25, 3) := by decide +kernel
theorem d80_12 : decode (am_bytes 80) 12 = .ok (.istore_n 3, 1) := by decide +kernel
theorem d80_13 : decode (am_bytes 80) 13 = .ok (.iload_n 3, 1) := by decide +kernel
theorem d80_14 : decode (am_bytes 80) 14 = .ok (.ifCond .eq 17, 3) := by decide +kernel
theorem d80_17 : decode (am_bytes 80) 17 = .ok (.iload_n 3, 1) := by decide +kernel
theorem d80_18 : decode (am_bytes 80) 18 = .ok (.bipush 33, 2) := by decide +kernel
theorem d80_20 : decode (am_bytes 80) 20 = .ok (.if_icmp .lt 9, 3) := by decide +kernel
theorem d80_23 : decode (am_bytes 80) 23 = .ok (.iload_n 3, 1) := by decide +kernel
theorem d80_24 : decode (am_bytes 80) 24 = .ok (.bipush 126, 2) := by decide +kernel
theorem d80_26 : decode (am_bytes 80) 26 = .ok (.if_icmp .le 5, 3) := by decide +kernel
theorem d80_29 : decode (am_bytes 80) 29 = .ok (.iconst 0, 1) := by decide +kernel
theorem d80_30 : decode (am_bytes 80) 30 = .ok (.ireturn, 1) := by decide +kernel
theorem d80_31 : decode (am_bytes 80) 31 = .ok (.iinc 2 (-8), 3) := by decide +kernel
theorem d80_34 : decode (am_bytes 80) 34 = .ok (.goto (-31), 3) := by decide +kernel
theorem d80_37 : decode (am_bytes 80) 37 = .ok (.iconst 1, 1) := by decide +kernel
theorem d80_38 : decode (am_bytes 80) 38 = .ok (.ireturn, 1) := by decide +kernel
theorem d81_0 : decode (am_bytes 81) 0 = .ok (.aload_n 0, 1) := by decide +kernel
theorem d81_1 : decode (am_bytes 81) 1 = .ok (.getfield 15, 3) := by decide +kernel
theorem d81_4 : decode (am_bytes 81) 4 = .ok (.istore_n 2, 1) := by decide +kernel
theorem d81_5 : decode (am_bytes 81) 5 = .ok (.bipush 24, 2) := by decide +kernel
theorem d81_7 : decode (am_bytes 81) 7 = .ok (.istore_n 3, 1) := by decide +kernel
theorem d81_8 : decode (am_bytes 81) 8 = .ok (.iload_n 3, 1) := by decide +kernel
theorem d81_9 : decode (am_bytes 81) 9 = .ok (.ifCond .lt 20, 3) := by decide +kernel
theorem d81_12 : decode (am_bytes 81) 12 = .ok (.iload_n 1, 1) := by decide +kernel
theorem d81_13 : decode (am_bytes 81) 13 = .ok (.iload_n 3, 1) := by decide +kernel
theorem d81_14 : decode (am_bytes 81) 14 = .ok (.invokestatic 25, 3) := by decide +kernel
theorem d81_17 : decode (am_bytes 81) 17 = .ok (.ifCond .eq 6, 3) := by decide +kernel
theorem d81_20 : decode (am_bytes 81) 20 = .ok (.iinc 2 1, 3) := by decide +kernel
theorem d81_23 : decode (am_bytes 81) 23 = .ok (.iinc 3 (-8), 3) := by decide +kernel
theorem d81_26 : decode (am_bytes 81) 26 = .ok (.goto (-18), 3) := by decide +kernel
theorem d81_29 : decode (am_bytes 81) 29 = .ok (.iload_n 2, 1) := by decide +kernel
theorem d81_30 : decode (am_bytes 81) 30 = .ok (.bipush 32, 2) := by decide +kernel
theorem d81_32 : decode (am_bytes 81) 32 = .ok (.if_icmp .gt 7, 3) := by decide +kernel
theorem d81_35 : decode (am_bytes 81) 35 = .ok (.iconst 1, 1) := by decide +kernel
theorem d81_36 : decode (am_bytes 81) 36 = .ok (.goto 4, 3) := by decide +kernel
theorem d81_39 : decode (am_bytes 81) 39 = .ok (.iconst 0, 1) := by decide +kernel
theorem d81_40 : decode (am_bytes 81) 40 = .ok (.ireturn, 1) := by decide +kernel
theorem d82_0 : decode (am_bytes 82) 0 = .ok (.bipush 24, 2) := by decide +kernel
theorem d82_2 : decode (am_bytes 82) 2 = .ok (.istore_n 2, 1) := by decide +kernel
theorem d82_3 : decode (am_bytes 82) 3 = .ok (.iload_n 2, 1) := by decide +kernel
theorem d82_4 : decode (am_bytes 82) 4 = .ok (.ifCond .lt 40, 3) := by decide +kernel
theorem d82_7 : decode (am_bytes 82) 7 = .ok (.iload_n 1, 1) := by decide +kernel
theorem d82_8 : decode (am_bytes 82) 8 = .ok (.iload_n 2, 1) := by decide +kernel
theorem d82_9 : decode (am_bytes 82) 9 = .ok (.invokestatic 25, 3) := by decide +kernel
theorem d82_12 : decode (am_bytes 82) 12 = .ok (.istore_n 3, 1) := by decide +kernel
theorem d82_13 : decode (am_bytes 82) 13 = .ok (.iload_n 3, 1) := by decide +kernel
theorem d82_14 : decode (am_bytes 82) 14 = .ok (.ifCond .eq 24, 3) := by decide +kernel
theorem d82_17 : decode (am_bytes 82) 17 = .ok (.aload_n 0, 1) := by decide +kernel
theorem d82_18 : decode (am_bytes 82) 18 = .ok (.getfield 9, 3) := by decide +kernel
theorem d82_21 : decode (am_bytes 82) 21 = .ok (.aload_n 0, 1) := by decide +kernel
theorem d82_22 : decode (am_bytes 82) 22 = .ok (.getfield 15, 3) := by decide +kernel
theorem d82_25 : decode (am_bytes 82) 25 = .ok (.iload_n 3, 1) := by decide +kernel
theorem d82_26 : decode (am_bytes 82) 26 = .ok (.i2c, 1) := by decide +kernel
theorem d82_27 : decode (am_bytes 82) 27 = .ok (.castore, 1) := by decide +kernel
theorem d82_28 : decode (am_bytes 82) 28 = .ok (.aload_n 0, 1) := by decide +kernel
theorem d82_29 : decode (am_bytes 82) 29 = .ok (.dup, 1) := by decide +kernel
theorem d82_30 : decode (am_bytes 82) 30 = .ok (.getfield 15, 3) := by decide +kernel
theorem d82_33 : decode (am_bytes 82) 33 = .ok (.iconst 1, 1) := by decide +kernel
theorem d82_34 : decode (am_bytes 82) 34 = .ok (.iadd, 1) := by decide +kernel
theorem d82_35 : decode (am_bytes 82) 35 = .ok (.putfield 15, 3) := by decide +kernel
theorem d82_38 : decode (am_bytes 82) 38 = .ok (.iinc 2 (-8), 3) := by decide +kernel
theorem d82_41 : decode (am_bytes 82) 41 = .ok (.goto (-38), 3) := by decide +kernel
