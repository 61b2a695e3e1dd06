/-! printed: each instruction -/
theorem d117_22 : decode (am_bytes 117) 22 = .ok (.ireturn, 1) := by decide +kernel
theorem d117_25 : decode (am_bytes 117) 25 = .ok (.iconst 2, 1) := by decide +kernel
theorem d117_26 : decode (am_bytes 117) 26 = .ok (.ireturn, 1) := by decide +kernel
theorem d117_27 : decode (am_bytes 117) 27 = .ok (.iconst 0, 1) := by decide +kernel
theorem d117_28 : decode (am_bytes 117) 28 = .ok (.ireturn, 1) := by decide +kernel
theorem d118_0 : decode (am_bytes 118) 0 = .ok (.aload 5, 2) := by decide +kernel
theorem d118_2 : decode (am_bytes 118) 2 = .ok (.iconst 0, 1) := by decide +kernel
theorem d118_3 : decode (am_bytes 118) 3 = .ok (.aload_n 0, 1) := by decide +kernel
theorem d118_4 : decode (am_bytes 118) 4 = .ok (.iload_n 1, 1) := by decide +kernel
theorem d118_5 : decode (am_bytes 118) 5 = .ok (.iload_n 2, 1) := by decide +kernel
theorem d118_6 : decode (am_bytes 118) 6 = .ok (.iload_n 3, 1) := by decide +kernel
theorem d118_7 : decode (am_bytes 118) 7 = .ok (.iload 4, 2) := by decide +kernel
theorem d118_9 : decode (am_bytes 118) 9 = .ok (.invokevirtual 32, 3) := by decide +kernel
theorem d118_12 : decode (am_bytes 118) 12 = .ok (.i2l, 1) := by decide +kernel
theorem d118_13 : decode (am_bytes 118) 13 = .ok (.lastore, 1) := by decide +kernel
theorem d118_14 : decode (am_bytes 118) 14 = .ok (.goto 7, 3) := by decide +kernel
theorem d118_19 : decode (am_bytes 118) 19 = .ok (.iconst 1, 1) := by decide +kernel
theorem d118_20 : decode (am_bytes 118) 20 = .ok (.ireturn, 1) := by decide +kernel
theorem d118_21 : decode (am_bytes 118) 21 = .ok (.iconst 0, 1) := by decide +kernel
theorem d118_22 : decode (am_bytes 118) 22 = .ok (.ireturn, 1) := by decide +kernel
theorem d119_0 : decode (am_bytes 119) 0 = .ok (.aload 4, 2) := by decide +kernel
theorem d119_2 : decode (am_bytes 119) 2 = .ok (.iconst 0, 1) := by decide +kernel
theorem d119_3 : decode (am_bytes 119) 3 = .ok (.aload_n 0, 1) := by decide +kernel
theorem d119_4 : decode (am_bytes 119) 4 = .ok (.iload_n 1, 1) := by decide +kernel
theorem d119_5 : decode (am_bytes 119) 5 = .ok (.iload_n 2, 1) := by decide +kernel
theorem d119_6 : decode (am_bytes 119) 6 = .ok (.iload_n 3, 1) := by decide +kernel
theorem d119_7 : decode (am_bytes 119) 7 = .ok (.invokevirtual 36, 3) := by decide +kernel
theorem d119_10 : decode (am_bytes 119) 10 = .ok (.i2l, 1) := by decide +kernel
theorem d119_11 : decode (am_bytes 119) 11 = .ok (.lastore, 1) := by decide +kernel
theorem d119_12 : decode (am_bytes 119) 12 = .ok (.goto 11, 3) := by decide +kernel
theorem d119_17 : decode (am_bytes 119) 17 = .ok (.iconst 1, 1) := by decide +kernel
theorem d119_18 : decode (am_bytes 119) 18 = .ok (.ireturn, 1) := by decide +kernel
theorem d119_21 : decode (am_bytes 119) 21 = .ok (.iconst 2, 1) := by decide +kernel
theorem d119_22 : decode (am_bytes 119) 22 = .ok (.ireturn, 1) := by decide +kernel
theorem d119_23 : decode (am_bytes 119) 23 = .ok (.iconst 0, 1) := by decide +kernel
theorem d119_24 : decode (am_bytes 119) 24 = .ok (.ireturn, 1) := by decide +kernel
theorem d120_0 : decode (am_bytes 120) 0 = .ok (.aload_n 3, 1) := by decide +kernel
theorem d120_1 : decode (am_bytes 120) 1 = .ok (.iconst 0, 1) := by decide +kernel
theorem d120_2 : decode (am_bytes 120) 2 = .ok (.aload_n 0, 1) := by decide +kernel
theorem d120_3 : decode (am_bytes 120) 3 = .ok (.iload_n 1, 1) := by decide +kernel
theorem d120_4 : decode (am_bytes 120) 4 = .ok (.iload_n 2, 1) := by decide +kernel
theorem d120_5 : decode (am_bytes 120) 5 = .ok (.invokevirtual 40, 3) := by decide +kernel
theorem d120_8 : decode (am_bytes 120) 8 = .ok (.i2l, 1) := by decide +kernel
theorem d120_9 : decode (am_bytes 120) 9 = .ok (.lastore, 1) := by decide +kernel
theorem d120_10 : decode (am_bytes 120) 10 = .ok (.goto 7, 3) := by decide +kernel
theorem d120_15 : decode (am_bytes 120) 15 = .ok (.iconst 1, 1) := by decide +kernel
theorem d120_16 : decode (am_bytes 120) 16 = .ok (.ireturn, 1) := by decide +kernel
theorem d120_17 : decode (am_bytes 120) 17 = .ok (.iconst 0, 1) := by decide +kernel
theorem d120_18 : decode (am_bytes 120) 18 = .ok (.ireturn, 1) := by decide +kernel
theorem d121_0 : decode (am_bytes 121) 0 = .ok (.aload_n 3, 1) := by decide +kernel
theorem d121_1 : decode (am_bytes 121) 1 = .ok (.iconst 0, 1) := by decide +kernel
theorem d121_2 : decode (am_bytes 121) 2 = .ok (.aload_n 0, 1) := by decide +kernel
theorem d121_3 : decode (am_bytes 121) 3 = .ok (.iload_n 1, 1) := by decide +kernel
theorem d121_4 : decode (am_bytes 121) 4 = .ok (.iload_n 2, 1) := by decide +kernel
theorem d121_5 : decode (am_bytes 121) 5 = .ok (.invokevirtual 43, 3) := by decide +kernel
theorem d121_8 : decode (am_bytes 121) 8 = .ok (.i2l, 1) := by decide +kernel
theorem d121_9 : decode (am_bytes 121) 9 = .ok (.lastore, 1) := by decide +kernel
theorem d121_10 : decode (am_bytes 121) 10 = .ok (.goto 19, 3) := by decide +kernel
theorem d121_15 : decode (am_bytes 121) 15 = .ok (.iconst 1, 1) := by decide +kernel
theorem d121_16 : decode (am_bytes 121) 16 = .ok (.ireturn, 1) := by decide +kernel
theorem d121_19 : decode (am_bytes 121) 19 = .ok (.iconst 2, 1) := by decide +kernel
theorem d121_20 : decode (am_bytes 121) 20 = .ok (.ireturn, 1) := by decide +kernel
theorem d121_23 : decode (am_bytes 121) 23 = .ok (.iconst 3, 1) := by decide +kernel
theorem d121_24 : decode (am_bytes 121) 24 = .ok (.ireturn, 1) := by decide +kernel
theorem d121_27 : decode (am_bytes 121) 27 = .ok (.iconst 4, 1) := by decide +kernel
theorem d121_28 : decode (am_bytes 121) 28 = .ok (.ireturn, 1) := by decide +kernel
theorem d121_29 : decode (am_bytes 121) 29 = .ok (.iconst 0, 1) := by decide +kernel
theorem d121_30 : decode (am_bytes 121) 30 = .ok (.ireturn, 1) := by decide +kernel
theorem d122_0 : decode (am_bytes 122) 0 = .ok (.aload_n 2, 1) := by decide +kernel
theorem d122_1 : decode (am_bytes 122) 1 = .ok (.iconst 0, 1) := by decide +kernel
theorem d122_2 : decode (am_bytes 122) 2 = .ok (.aload_n 0, 1) := by decide +kernel
theorem d122_3 : decode (am_bytes 122) 3 = .ok (.iload_n 1, 1) := by decide +kernel
theorem d122_4 : decode (am_bytes 122) 4 = .ok (.invokevirtual 46, 3) := by decide +kernel
theorem d122_7 : decode (am_bytes 122) 7 = .ok (.i2l, 1) := by decide +kernel
theorem d122_8 : decode (am_bytes 122) 8 = .ok (.lastore, 1) := by decide +kernel
theorem d122_9 : decode (am_bytes 122) 9 = .ok (.goto 6, 3) := by decide +kernel
theorem d122_12 : decode (am_bytes 122) 12 = .ok (.astore_n 3, 1) := by decide +kernel
theorem d122_13 : decode (am_bytes 122) 13 = .ok (.iconst 1, 1) := by decide +kernel
theorem d122_14 : decode (am_bytes 122) 14 = .ok (.ireturn, 1) := by decide +kernel
theorem d122_15 : decode (am_bytes 122) 15 = .ok (.iconst 0, 1) := by decide +kernel
theorem d122_16 : decode (am_bytes 122) 16 = .ok (.ireturn, 1) := by decide +kernel
theorem d123_0 : decode (am_bytes 123) 0 = .ok (.aload 4, 2) := by decide +kernel
theorem d123_2 : decode (am_bytes 123) 2 = .ok (.iconst 0, 1) := by decide +kernel
theorem d123_3 : decode (am_bytes 123) 3 = .ok (.aload_n 0, 1) := by decide +kernel
theorem d123_4 : decode (am_bytes 123) 4 = .ok (.iload_n 1, 1) := by decide +kernel
theorem d123_5 : decode (am_bytes 123) 5 = .ok (.iload_n 2, 1) := by decide +kernel
theorem d123_6 : decode (am_bytes 123) 6 = .ok (.iload_n 3, 1) := by decide +kernel
theorem d123_7 : decode (am_bytes 123) 7 = .ok (.invokevirtual 50, 3) := by decide +kernel
theorem d123_10 : decode (am_bytes 123) 10 = .ok (.i2l, 1) := by decide +kernel
theorem d123_11 : decode (am_bytes 123) 11 = .ok (.lastore, 1) := by decide +kernel
theorem d123_12 : decode (am_bytes 123) 12 = .ok (.goto 11, 3) := by decide +kernel
theorem d123_17 : decode (am_bytes 123) 17 = .ok (.iconst 1, 1) := by decide +kernel
theorem d123_18 : decode (am_bytes 123) 18 = .ok (.ireturn, 1) := by decide +kernel
theorem d123_21 : decode (am_bytes 123) 21 = .ok (.iconst 2, 1) := by decide +kernel
theorem d123_22 : decode (am_bytes 123) 22 = .ok (.ireturn, 1) := by decide +kernel
theorem d123_23 : decode (am_bytes 123) 23 = .ok (.iconst 0, 1) := by decide +kernel
theorem d123_24 : decode (am_bytes 123) 24 = .ok (.ireturn, 1) := by decide +kernel
theorem d124_0 : decode (am_bytes 124) 0 = .ok (.aload_n 2, 1) := by decide +kernel
theorem d124_1 : decode (am_bytes 124) 1 = .ok (.iconst 0, 1) := by decide +kernel
theorem d124_2 : decode (am_bytes 124) 2 = .ok (.aload_n 0, 1) := by decide +kernel
theorem d124_3 : decode (am_bytes 124) 3 = .ok (.iload_n 1, 1) := by decide +kernel
theorem d124_4 : decode (am_bytes 124) 4 = .ok (.invokevirtual 53, 3) := by decide +kernel
theorem d124_7 : decode (am_bytes 124) 7 = .ok (.i2l, 1) := by decide +kernel
theorem d124_8 : decode (am_bytes 124) 8 = .ok (.lastore, 1) := by decide +kernel
theorem d124_9 : decode (am_bytes 124) 9 = .ok (.goto 9, 3) := by decide +kernel
theorem d124_12 : decode (am_bytes 124) 12 = .ok (.astore_n 3, 1) := by decide +kernel
theorem d124_13 : decode (am_bytes 124) 13 = .ok (.iconst 1, 1) := by decide +kernel
theorem d124_14 : decode (am_bytes 124) 14 = .ok (.ireturn, 1) := by decide +kernel
theorem d124_15 : decode (am_bytes 124) 15 = .ok (.astore_n 3, 1) := by decide +kernel
theorem d124_16 : decode (am_bytes 124) 16 = .ok (.iconst 2, 1) := by decide +kernel
theorem d124_17 : decode (am_bytes 124) 17 = .ok (.ireturn, 1) := by decide +kernel
theorem d124_18 : decode (am_bytes 124) 18 = .ok (.iconst 0, 1) := by decide +kernel
theorem d124_19 : decode (am_bytes 124) 19 = .ok (.ireturn, 1) := by decide +kernel
theorem d125_0 : decode (am_bytes 125) 0 = .ok (.aload_n 3, 1) := by decide +kernel
theorem d125_1 : decode (am_bytes 125) 1 = .ok (.iconst 0, 1) := by decide +kernel
theorem d125_2 : decode (am_bytes 125) 2 = .ok (.aload_n 0, 1) := by decide +kernel
theorem d125_3 : decode (am_bytes 125) 3 = .ok (.iload_n 1, 1) := by decide +kernel
theorem d125_4 : decode (am_bytes 125) 4 = .ok (.iload_n 2, 1) := by decide +kernel
theorem d125_5 : decode (am_bytes 125) 5 = .ok (.invokevirtual 56, 3) := by decide +kernel
theorem d125_8 : decode (am_bytes 125) 8 = .ok (.i2l, 1) := by decide +kernel
theorem d125_9 : decode (am_bytes 125) 9 = .ok (.lastore, 1) := by decide +kernel
theorem d125_10 : decode (am_bytes 125) 10 = .ok (.goto 11, 3) := by decide +kernel
theorem d125_15 : decode (am_bytes 125) 15 = .ok (.iconst 1, 1) := by decide +kernel
theorem d125_16 : decode (am_bytes 125) 16 = .ok (.ireturn, 1) := by decide +kernel
theorem d125_19 : decode (am_bytes 125) 19 = .ok (.iconst 2, 1) := by decide +kernel
theorem d125_20 : decode (am_bytes 125) 20 = .ok (.ireturn, 1) := by decide +kernel
theorem d125_21 : decode (am_bytes 125) 21 = .ok (.iconst 0, 1) := by decide +kernel
theorem d125_22 : decode (am_bytes 125) 22 = .ok (.ireturn, 1) := by decide +kernel
theorem d126_0 : decode (am_bytes 126) 0 = .ok (.aload_n 2, 1) := by decide +kernel
theorem d126_1 : decode (am_bytes 126) 1 = .ok (.iconst 0, 1) := by decide +kernel
theorem d126_2 : decode (am_bytes 126) 2 = .ok (.aload_n 0, 1) := by decide +kernel
theorem d126_3 : decode (am_bytes 126) 3 = .ok (.iload_n 1, 1) := by decide +kernel
theorem d126_4 : decode (am_bytes 126) 4 = .ok (.invokevirtual 59, 3) := by decide +kernel
theorem d126_7 : decode (am_bytes 126) 7 = .ok (.i2l, 1) := by decide +kernel
theorem d126_8 : decode (am_bytes 126) 8 = .ok (.lastore, 1) := by decide +kernel
theorem d126_9 : decode (am_bytes 126) 9 = .ok (.goto 6, 3) := by decide +kernel
theorem d126_12 : decode (am_bytes 126) 12 = .ok (.astore_n 3, 1) := by decide +kernel
theorem d126_13 : decode (am_bytes 126) 13 = .ok (.iconst 1, 1) := by decide +kernel
theorem d126_14 : decode (am_bytes 126) 14 = .ok (.ireturn, 1) := by decide +kernel
theorem d126_15 : decode (am_bytes 126) 15 = .ok (.iconst 0, 1) := by decide +kernel
theorem d126_16 : decode (am_bytes 126) 16 = .ok (.ireturn, 1) := by decide +kernel
theorem d127_0 : decode (am_bytes 127) 0 = .ok (.aload_n 3, 1) := by decide +kernel
theorem d127_1 : decode (am_bytes 127) 1 = .ok (.iconst 0, 1) := by decide +kernel
theorem d127_2 : decode (am_bytes 127) 2 = .ok (.aload_n 0, 1) := by decide +kernel
theorem d127_3 : decode (am_bytes 127) 3 = .ok (.iload_n 1, 1) := by decide +kernel
theorem d127_4 : decode (am_bytes 127) 4 = .ok (.iload_n 2, 1) := by decide +kernel
theorem d127_5 : decode (am_bytes 127) 5 = .ok (.invokevirtual 62, 3) := by decide +kernel
theorem d127_8 : decode (am_bytes 127) 8 = .ok (.i2l, 1) := by decide +kernel
theorem d127_9 : decode (am_bytes 127) 9 = .ok (.lastore, 1) := by decide +kernel
theorem d127_10 : decode (am_bytes 127) 10 = .ok (.goto 11, 3) := by decide +kernel
theorem d127_15 : decode (am_bytes 127) 15 = .ok (.iconst 1, 1) := by decide +kernel
theorem d127_16 : decode (am_bytes 127) 16 = .ok (.ireturn, 1) := by decide +kernel
theorem d127_19 : decode (am_bytes 127) 19 = .ok (.iconst 2, 1) := by decide +kernel
theorem d127_20 : decode (am_bytes 127) 20 = .ok (.ireturn, 1) := by decide +kernel
theorem d127_21 : decode (am_bytes 127) 21 = .ok (.iconst 0, 1) := by decide +kernel
theorem d127_22 : decode (am_bytes 127) 22 = .ok (.ireturn, 1) := by decide +kernel
theorem d128_0 : decode (am_bytes 128) 0 = .ok (.new 8, 3) := by decide +kernel
theorem d128_3 : decode (am_bytes 128) 3 = .ok (.dup, 1) := by decide +kernel
theorem d128_7 : decode (am_bytes 128) 7 = .ok (.astore_n 1, 1) := by decide +kernel
theorem d128_8 : decode (am_bytes 128) 8 = .ok (.new 66, 3) := by decide +kernel
theorem d128_11 : decode (am_bytes 128) 11 = .ok (.dup, 1) := by decide +kernel
theorem d128_15 : decode (am_bytes 128) 15 = .ok (.astore_n 2, 1) := by decide +kernel
theorem d128_16 : decode (am_bytes 128) 16 = .ok (.iconst 1, 1) := by decide +kernel
theorem d128_17 : decode (am_bytes 128) 17 = .ok (.newarray .long, 2) := by decide +kernel
theorem d128_19 : decode (am_bytes 128) 19 = .ok (.astore_n 3, 1) := by decide +kernel
theorem d128_20 : decode (am_bytes 128) 20 = .ok (.iconst 0, 1) := by decide +kernel
theorem d128_21 : decode (am_bytes 128) 21 = .ok (.istore 4, 2) := by decide +kernel
theorem d128_23 : decode (am_bytes 128) 23 = .ok (.iload 4, 2) := by decide +kernel
theorem d128_25 : decode (am_bytes 128) 25 = .ok (.aload_n 0, 1) := by decide +kernel
theorem d128_26 : decode (am_bytes 128) 26 = .ok (.arraylength, 1) := by decide +kernel
theorem d128_27 : decode (am_bytes 128) 27 = .ok (.bipush 6, 2) := by decide +kernel
theorem d128_29 : decode (am_bytes 128) 29 = .ok (.isub, 1) := by decide +kernel
theorem d128_30 : decode (am_bytes 128) 30 = .ok (.if_icmp .gt 1107, 3) := by decide +kernel
theorem d128_33 : decode (am_bytes 128) 33 = .ok (.aload_n 0, 1) := by decide +kernel
theorem d128_34 : decode (am_bytes 128) 34 = .ok (.iload 4, 2) := by decide +kernel
theorem d128_36 : decode (am_bytes 128) 36 = .ok (.iaload, 1) := by decide +kernel
theorem d128_37 : decode (am_bytes 128) 37 = .ok (.bipush 15, 2) := by decide +kernel
theorem d128_39 : decode (am_bytes 128) 39 = .ok (.iand, 1) := by decide +kernel
theorem d128_40 : decode (am_bytes 128) 40 = .ok (.tableswitch 1091 0 14 #[76, 144, 180, 284, 388, 480, 560, 628, 696, 752, 832, 888, 899, 967, 1023], 76) := by decide +kernel
theorem d128_116 : decode (am_bytes 128) 116 = .ok (.aload_n 1, 1) := by decide +kernel
theorem d128_117 : decode (am_bytes 128) 117 = .ok (.aload_n 0, 1) := by decide +kernel
theorem d128_118 : decode (am_bytes 128) 118 = .ok (.iload 4, 2) := by decide +kernel
theorem d128_120 : decode (am_bytes 128) 120 = .ok (.iconst 1, 1) := by decide +kernel
theorem d128_121 : decode (am_bytes 128) 121 = .ok (.iadd, 1) := by decide +kernel
theorem d128_122 : decode (am_bytes 128) 122 = .ok (.iaload, 1) := by decide +kernel
theorem d128_123 : decode (am_bytes 128) 123 = .ok (.aload_n 0, 1) := by decide +kernel
theorem d128_124 : decode (am_bytes 128) 124 = .ok (.iload 4, 2) := by decide +kernel
theorem d128_126 : decode (am_bytes 128) 126 = .ok (.iconst 2, 1) := by decide +kernel
theorem d128_127 : decode (am_bytes 128) 127 = .ok (.iadd, 1) := by decide +kernel
theorem d128_128 : decode (am_bytes 128) 128 = .ok (.iaload, 1) := by decide +kernel
theorem d128_129 : decode (am_bytes 128) 129 = .ok (.aload_n 3, 1) := by decide +kernel
theorem d128_130 : decode (am_bytes 128) 130 = .ok (.invokestatic 69, 3) := by decide +kernel
theorem d128_133 : decode (am_bytes 128) 133 = .ok (.istore 5, 2) := by decide +kernel
theorem d128_135 : decode (am_bytes 128) 135 = .ok (.aload_n 2, 1) := by decide +kernel
theorem d128_136 : decode (am_bytes 128) 136 = .ok (.aload_n 0, 1) := by decide +kernel
theorem d128_137 : decode (am_bytes 128) 137 = .ok (.iload 4, 2) := by decide +kernel
theorem d128_139 : decode (am_bytes 128) 139 = .ok (.iconst 1, 1) := by decide +kernel
theorem d128_140 : decode (am_bytes 128) 140 = .ok (.iadd, 1) := by decide +kernel
theorem d128_141 : decode (am_bytes 128) 141 = .ok (.iaload, 1) := by decide +kernel
theorem d128_142 : decode (am_bytes 128) 142 = .ok (.aload_n 0, 1) := by decide +kernel
theorem d128_143 : decode (am_bytes 128) 143 = .ok (.iload 4, 2) := by decide +kernel
theorem d128_145 : decode (am_bytes 128) 145 = .ok (.iconst 2, 1) := by decide +kernel
theorem d128_146 : decode (am_bytes 128) 146 = .ok (.iadd, 1) := by decide +kernel
theorem d128_147 : decode (am_bytes 128) 147 = .ok (.iaload, 1) := by decide +kernel
theorem d128_148 : decode (am_bytes 128) 148 = .ok (.invokevirtual 74, 3) := by decide +kernel
theorem d128_151 : decode (am_bytes 128) 151 = .ok (.istore 6, 2) := by decide +kernel
theorem d128_153 : decode (am_bytes 128) 153 = .ok (.aload_n 2, 1) := by decide +kernel
theorem d128_154 : decode (am_bytes 128) 154 = .ok (.invokevirtual 75, 3) := by decide +kernel
theorem d128_157 : decode (am_bytes 128) 157 = .ok (.iload 5, 2) := by decide +kernel
theorem d128_159 : decode (am_bytes 128) 159 = .ok (.if_icmp .eq 5, 3) := by decide +kernel
theorem d128_162 : decode (am_bytes 128) 162 = .ok (.iconst 0, 1) := by decide +kernel
theorem d128_163 : decode (am_bytes 128) 163 = .ok (.ireturn, 1) := by decide +kernel
theorem d128_164 : decode (am_bytes 128) 164 = .ok (.iload 5, 2) := by decide +kernel
theorem d128_166 : decode (am_bytes 128) 166 = .ok (.ifCond .ne 15, 3) := by decide +kernel
theorem d128_169 : decode (am_bytes 128) 169 = .ok (.aload_n 3, 1) := by decide +kernel
theorem d128_170 : decode (am_bytes 128) 170 = .ok (.iconst 0, 1) := by decide +kernel
theorem d128_171 : decode (am_bytes 128) 171 = .ok (.laload, 1) := by decide +kernel
theorem d128_172 : decode (am_bytes 128) 172 = .ok (.iload 6, 2) := by decide +kernel
theorem d128_174 : decode (am_bytes 128) 174 = .ok (.i2l, 1) := by decide +kernel
theorem d128_175 : decode (am_bytes 128) 175 = .ok (.lcmp, 1) := by decide +kernel
theorem d128_176 : decode (am_bytes 128) 176 = .ok (.ifCond .eq 5, 3) := by decide +kernel
theorem d128_179 : decode (am_bytes 128) 179 = .ok (.iconst 0, 1) := by decide +kernel
theorem d128_180 : decode (am_bytes 128) 180 = .ok (.ireturn, 1) := by decide +kernel
theorem d128_181 : decode (am_bytes 128) 181 = .ok (.goto 950, 3) := by decide +kernel
theorem d128_184 : decode (am_bytes 128) 184 = .ok (.aload_n 1, 1) := by decide +kernel
theorem d128_185 : decode (am_bytes 128) 185 = .ok (.aload_n 0, 1) := by decide +kernel
theorem d128_186 : decode (am_bytes 128) 186 = .ok (.iload 4, 2) := by decide +kernel
theorem d128_188 : decode (am_bytes 128) 188 = .ok (.iconst 1, 1) := by decide +kernel
theorem d128_189 : decode (am_bytes 128) 189 = .ok (.iadd, 1) := by decide +kernel
theorem d128_190 : decode (am_bytes 128) 190 = .ok (.iaload, 1) := by decide +kernel
theorem d128_191 : decode (am_bytes 128) 191 = .ok (.invokestatic 79, 3) := by decide +kernel
theorem d128_194 : decode (am_bytes 128) 194 = .ok (.istore 5, 2) := by decide +kernel
theorem d128_196 : decode (am_bytes 128) 196 = .ok (.aload_n 2, 1) := by decide +kernel
theorem d128_197 : decode (am_bytes 128) 197 = .ok (.aload_n 0, 1) := by decide +kernel
theorem d128_198 : decode (am_bytes 128) 198 = .ok (.iload 4, 2) := by decide +kernel
theorem d128_200 : decode (am_bytes 128) 200 = .ok (.iconst 1, 1) := by decide +kernel
theorem d128_201 : decode (am_bytes 128) 201 = .ok (.iadd, 1) := by decide +kernel
theorem d128_202 : decode (am_bytes 128) 202 = .ok (.iaload, 1) := by decide +kernel
theorem d128_203 : decode (am_bytes 128) 203 = .ok (.invokevirtual 82, 3) := by decide +kernel
theorem d128_206 : decode (am_bytes 128) 206 = .ok (.aload_n 2, 1) := by decide +kernel
theorem d128_207 : decode (am_bytes 128) 207 = .ok (.invokevirtual 75, 3) := by decide +kernel
theorem d128_210 : decode (am_bytes 128) 210 = .ok (.iload 5, 2) := by decide +kernel
theorem d128_212 : decode (am_bytes 128) 212 = .ok (.if_icmp .eq 5, 3) := by decide +kernel
theorem d128_215 : decode (am_bytes 128) 215 = .ok (.iconst 0, 1) := by decide +kernel
theorem d128_216 : decode (am_bytes 128) 216 = .ok (.ireturn, 1) := by decide +kernel
theorem d128_217 : decode (am_bytes 128) 217 = .ok (.goto 914, 3) := by decide +kernel
theorem d128_220 : decode (am_bytes 128) 220 = .ok (.aload_n 1, 1) := by decide +kernel
theorem d128_221 : decode (am_bytes 128) 221 = .ok (.aload_n 0, 1) := by decide +kernel
theorem d128_222 : decode (am_bytes 128) 222 = .ok (.iload 4, 2) := by decide +kernel
theorem d128_224 : decode (am_bytes 128) 224 = .ok (.iconst 1, 1) := by decide +kernel
theorem d128_225 : decode (am_bytes 128) 225 = .ok (.iadd, 1) := by decide +kernel
theorem d128_226 : decode (am_bytes 128) 226 = .ok (.iaload, 1) := by decide +kernel
theorem d128_227 : decode (am_bytes 128) 227 = .ok (.aload_n 0, 1) := by decide +kernel
theorem d128_228 : decode (am_bytes 128) 228 = .ok (.iload 4, 2) := by decide +kernel
theorem d128_230 : decode (am_bytes 128) 230 = .ok (.iconst 2, 1) := by decide +kernel
theorem d128_231 : decode (am_bytes 128) 231 = .ok (.iadd, 1) := by decide +kernel
theorem d128_232 : decode (am_bytes 128) 232 = .ok (.iaload, 1) := by decide +kernel
theorem d128_233 : decode (am_bytes 128) 233 = .ok (.aload_n 0, 1) := by decide +kernel
theorem d128_234 : decode (am_bytes 128) 234 = .ok (.iload 4, 2) := by decide +kernel
theorem d128_236 : decode (am_bytes 128) 236 = .ok (.iconst 3, 1) := by decide +kernel
theorem d128_237 : decode (am_bytes 128) 237 = .ok (.iadd, 1) := by decide +kernel
theorem d128_238 : decode (am_bytes 128) 238 = .ok (.iaload, 1) := by decide +kernel
theorem d128_239 : decode (am_bytes 128) 239 = .ok (.aload_n 0, 1) := by decide +kernel
theorem d128_240 : decode (am_bytes 128) 240 = .ok (.iload 4, 2) := by decide +kernel
theorem d128_242 : decode (am_bytes 128) 242 = .ok (.iconst 4, 1) := by decide +kernel
theorem d128_243 : decode (am_bytes 128) 243 = .ok (.iadd, 1) := by decide +kernel
theorem d128_244 : decode (am_bytes 128) 244 = .ok (.iaload, 1) := by decide +kernel
theorem d128_245 : decode (am_bytes 128) 245 = .ok (.aload_n 0, 1) := by decide +kernel
theorem d128_246 : decode (am_bytes 128) 246 = .ok (.iload 4, 2) := by decide +kernel
theorem d128_248 : decode (am_bytes 128) 248 = .ok (.iconst 5, 1) := by decide +kernel
theorem d128_249 : decode (am_bytes 128) 249 = .ok (.iadd, 1) := by decide +kernel
theorem d128_250 : decode (am_bytes 128) 250 = .ok (.iaload, 1) := by decide +kernel
theorem d128_251 : decode (am_bytes 128) 251 = .ok (.aload_n 3, 1) := by decide +kernel
theorem d128_252 : decode (am_bytes 128) 252 = .ok (.invokestatic 83, 3) := by decide +kernel
theorem d128_255 : decode (am_bytes 128) 255 = .ok (.istore 5, 2) := by decide +kernel
theorem d128_257 : decode (am_bytes 128) 257 = .ok (.aload_n 2, 1) := by decide +kernel
theorem d128_258 : decode (am_bytes 128) 258 = .ok (.aload_n 0, 1) := by decide +kernel
theorem d128_259 : decode (am_bytes 128) 259 = .ok (.iload 4, 2) := by decide +kernel
theorem d128_261 : decode (am_bytes 128) 261 = .ok (.iconst 1, 1) := by decide +kernel
theorem d128_262 : decode (am_bytes 128) 262 = .ok (.iadd, 1) := by decide +kernel
theorem d128_263 : decode (am_bytes 128) 263 = .ok (.iaload, 1) := by decide +kernel
theorem d128_264 : decode (am_bytes 128) 264 = .ok (.aload_n 0, 1) := by decide +kernel
theorem d128_265 : decode (am_bytes 128) 265 = .ok (.iload 4, 2) := by decide +kernel
theorem d128_267 : decode (am_bytes 128) 267 = .ok (.iconst 2, 1) := by decide +kernel
theorem d128_268 : decode (am_bytes 128) 268 = .ok (.iadd, 1) := by decide +kernel
theorem d128_269 : decode (am_bytes 128) 269 = .ok (.iaload, 1) := by decide +kernel
theorem d128_270 : decode (am_bytes 128) 270 = .ok (.aload_n 0, 1) := by decide +kernel
theorem d128_271 : decode (am_bytes 128) 271 = .ok (.iload 4, 2) := by decide +kernel
theorem d128_273 : decode (am_bytes 128) 273 = .ok (.iconst 3, 1) := by decide +kernel
theorem d128_274 : decode (am_bytes 128) 274 = .ok (.iadd, 1) := by decide +kernel
theorem d128_275 : decode (am_bytes 128) 275 = .ok (.iaload, 1) := by decide +kernel
theorem d128_276 : decode (am_bytes 128) 276 = .ok (.aload_n 0, 1) := by decide +kernel
theorem d128_277 : decode (am_bytes 128) 277 = .ok (.iload 4, 2) := by decide +kernel
theorem d128_279 : decode (am_bytes 128) 279 = .ok (.iconst 4, 1) := by decide +kernel
theorem d128_280 : decode (am_bytes 128) 280 = .ok (.iadd, 1) := by decide +kernel
theorem d128_281 : decode (am_bytes 128) 281 = .ok (.iaload, 1) := by decide +kernel
theorem d128_282 : decode (am_bytes 128) 282 = .ok (.aload_n 0, 1) := by decide +kernel
theorem d128_283 : decode (am_bytes 128) 283 = .ok (.iload 4, 2) := by decide +kernel
theorem d128_285 : decode (am_bytes 128) 285 = .ok (.iconst 5, 1) := by decide +kernel
theorem d128_286 : decode (am_bytes 128) 286 = .ok (.iadd, 1) := by decide +kernel
theorem d128_287 : decode (am_bytes 128) 287 = .ok (.iaload, 1) := by decide +kernel
theorem d128_288 : decode (am_bytes 128) 288 = .ok (.invokevirtual 86, 3) := by decide +kernel
theorem d128_291 : decode (am_bytes 128) 291 = .ok (.istore 6, 2) := by decide +kernel
theorem d128_293 : decode (am_bytes 128) 293 = .ok (.aload_n 2, 1) := by decide +kernel
theorem d128_294 : decode (am_bytes 128) 294 = .ok (.invokevirtual 75, 3) := by decide +kernel
theorem d128_297 : decode (am_bytes 128) 297 = .ok (.iload 5, 2) := by decide +kernel
theorem d128_299 : decode (am_bytes 128) 299 = .ok (.if_icmp .eq 5, 3) := by decide +kernel
theorem d128_302 : decode (am_bytes 128) 302 = .ok (.iconst 0, 1) := by decide +kernel
theorem d128_303 : decode (am_bytes 128) 303 = .ok (.ireturn, 1) := by decide +kernel
theorem d128_304 : decode (am_bytes 128) 304 = .ok (.iload 5, 2) := by decide +kernel
theorem d128_306 : decode (am_bytes 128) 306 = .ok (.ifCond .ne 15, 3) := by decide +kernel
theorem d128_309 : decode (am_bytes 128) 309 = .ok (.aload_n 3, 1) := by decide +kernel
theorem d128_310 : decode (am_bytes 128) 310 = .ok (.iconst 0, 1) := by decide +kernel
theorem d128_311 : decode (am_bytes 128) 311 = .ok (.laload, 1) := by decide +kernel
theorem d128_312 : decode (am_bytes 128) 312 = .ok (.iload 6, 2) := by decide +kernel
theorem d128_314 : decode (am_bytes 128) 314 = .ok (.i2l, 1) := by decide +kernel
theorem d128_315 : decode (am_bytes 128) 315 = .ok (.lcmp, 1) := by decide +kernel
theorem d128_316 : decode (am_bytes 128) 316 = .ok (.ifCond .eq 5, 3) := by decide +kernel
theorem d128_319 : decode (am_bytes 128) 319 = .ok (.iconst 0, 1) := by decide +kernel
theorem d128_320 : decode (am_bytes 128) 320 = .ok (.ireturn, 1) := by decide +kernel
theorem d128_321 : decode (am_bytes 128) 321 = .ok (.goto 810, 3) := by decide +kernel
theorem d128_324 : decode (am_bytes 128) 324 = .ok (.aload_n 1, 1) := by decide +kernel
theorem d128_325 : decode (am_bytes 128) 325 = .ok (.aload_n 0, 1) := by decide +kernel
theorem d128_326 : decode (am_bytes 128) 326 = .ok (.iload 4, 2) := by decide +kernel
theorem d128_328 : decode (am_bytes 128) 328 = .ok (.iconst 1, 1) := by decide +kernel
theorem d128_329 : decode (am_bytes 128) 329 = .ok (.iadd, 1) := by decide +kernel
theorem d128_330 : decode (am_bytes 128) 330 = .ok (.iaload, 1) := by decide +kernel
theorem d128_331 : decode (am_bytes 128) 331 = .ok (.aload_n 0, 1) := by decide +kernel
theorem d128_332 : decode (am_bytes 128) 332 = .ok (.iload 4, 2) := by decide +kernel
theorem d128_334 : decode (am_bytes 128) 334 = .ok (.iconst 2, 1) := by decide +kernel
theorem d128_335 : decode (am_bytes 128) 335 = .ok (.iadd, 1) := by decide +kernel
theorem d128_336 : decode (am_bytes 128) 336 = .ok (.iaload, 1) := by decide +kernel
theorem d128_337 : decode (am_bytes 128) 337 = .ok (.aload_n 0, 1) := by decide +kernel
theorem d128_338 : decode (am_bytes 128) 338 = .ok (.iload 4, 2) := by decide +kernel
theorem d128_340 : decode (am_bytes 128) 340 = .ok (.iconst 3, 1) := by decide +kernel
theorem d128_341 : decode (am_bytes 128) 341 = .ok (.iadd, 1) := by decide +kernel
theorem d128_342 : decode (am_bytes 128) 342 = .ok (.iaload, 1) := by decide +kernel
theorem d128_343 : decode (am_bytes 128) 343 = .ok (.aload_n 0, 1) := by decide +kernel
theorem d128_344 : decode (am_bytes 128) 344 = .ok (.iload 4, 2) := by decide +kernel
theorem d128_346 : decode (am_bytes 128) 346 = .ok (.iconst 4, 1) := by decide +kernel
theorem d128_347 : decode (am_bytes 128) 347 = .ok (.iadd, 1) := by decide +kernel
theorem d128_348 : decode (am_bytes 128) 348 = .ok (.iaload, 1) := by decide +kernel
theorem d128_349 : decode (am_bytes 128) 349 = .ok (.aload_n 0, 1) := by decide +kernel
theorem d128_350 : decode (am_bytes 128) 350 = .ok (.iload 4, 2) := by decide +kernel
theorem d128_352 : decode (am_bytes 128) 352 = .ok (.iconst 5, 1) := by decide +kernel
theorem d128_353 : decode (am_bytes 128) 353 = .ok (.iadd, 1) := by decide +kernel
theorem d128_354 : decode (am_bytes 128) 354 = .ok (.iaload, 1) := by decide +kernel
theorem d128_355 : decode (am_bytes 128) 355 = .ok (.aload_n 3, 1) := by decide +kernel
theorem d128_356 : decode (am_bytes 128) 356 = .ok (.invokestatic 87, 3) := by decide +kernel
theorem d128_359 : decode (am_bytes 128) 359 = .ok (.istore 5, 2) := by decide +kernel
theorem d128_361 : decode (am_bytes 128) 361 = .ok (.aload_n 2, 1) := by decide +kernel
theorem d128_362 : decode (am_bytes 128) 362 = .ok (.aload_n 0, 1) := by decide +kernel
theorem d128_363 : decode (am_bytes 128) 363 = .ok (.iload 4, 2) := by decide +kernel
theorem d128_365 : decode (am_bytes 128) 365 = .ok (.iconst 1, 1) := by decide +kernel
theorem d128_366 : decode (am_bytes 128) 366 = .ok (.iadd, 1) := by decide +kernel
theorem d128_367 : decode (am_bytes 128) 367 = .ok (.iaload, 1) := by decide +kernel
theorem d128_368 : decode (am_bytes 128) 368 = .ok (.aload_n 0, 1) := by decide +kernel
theorem d128_369 : decode (am_bytes 128) 369 = .ok (.iload 4, 2) := by decide +kernel
theorem d128_371 : decode (am_bytes 128) 371 = .ok (.iconst 2, 1) := by decide +kernel
theorem d128_372 : decode (am_bytes 128) 372 = .ok (.iadd, 1) := by decide +kernel
theorem d128_373 : decode (am_bytes 128) 373 = .ok (.iaload, 1) := by decide +kernel
theorem d128_374 : decode (am_bytes 128) 374 = .ok (.aload_n 0, 1) := by decide +kernel
theorem d128_375 : decode (am_bytes 128) 375 = .ok (.iload 4, 2) := by decide +kernel
theorem d128_377 : decode (am_bytes 128) 377 = .ok (.iconst 3, 1) := by decide +kernel
theorem d128_378 : decode (am_bytes 128) 378 = .ok (.iadd, 1) := by decide +kernel
theorem d128_379 : decode (am_bytes 128) 379 = .ok (.iaload, 1) := by decide +kernel
theorem d128_380 : decode (am_bytes 128) 380 = .ok (.aload_n 0, 1) := by decide +kernel
theorem d128_381 : decode (am_bytes 128) 381 = .ok (.iload 4, 2) := by decide +kernel
theorem d128_383 : decode (am_bytes 128) 383 = .ok (.iconst 4, 1) := by decide +kernel
theorem d128_384 : decode (am_bytes 128) 384 = .ok (.iadd, 1) := by decide +kernel
theorem d128_385 : decode (am_bytes 128) 385 = .ok (.iaload, 1) := by decide +kernel
theorem d128_386 : decode (am_bytes 128) 386 = .ok (.aload_n 0, 1) := by decide +kernel
theorem d128_387 : decode (am_bytes 128) 387 = .ok (.iload 4, 2) := by decide +kernel
theorem d128_389 : decode (am_bytes 128) 389 = .ok (.iconst 5, 1) := by decide +kernel
theorem d128_390 : decode (am_bytes 128) 390 = .ok (.iadd, 1) := by decide +kernel
theorem d128_391 : decode (am_bytes 128) 391 = .ok (.iaload, 1) := by decide +kernel
theorem d128_392 : decode (am_bytes 128) 392 = .ok (.invokevirtual 89, 3) := by decide +kernel
theorem d128_395 : decode (am_bytes 128) 395 = .ok (.istore 6, 2) := by decide +kernel
theorem d128_397 : decode (am_bytes 128) 397 = .ok (.aload_n 2, 1) := by decide +kernel
theorem d128_398 : decode (am_bytes 128) 398 = .ok (.invokevirtual 75, 3) := by decide +kernel
theorem d128_401 : decode (am_bytes 128) 401 = .ok (.iload 5, 2) := by decide +kernel
theorem d128_403 : decode (am_bytes 128) 403 = .ok (.if_icmp .eq 5, 3) := by decide +kernel
theorem d128_406 : decode (am_bytes 128) 406 = .ok (.iconst 0, 1) := by decide +kernel
theorem d128_407 : decode (am_bytes 128) 407 = .ok (.ireturn, 1) := by decide +kernel
theorem d128_408 : decode (am_bytes 128) 408 = .ok (.iload 5, 2) := by decide +kernel
theorem d128_410 : decode (am_bytes 128) 410 = .ok (.ifCond .ne 15, 3) := by decide +kernel
theorem d128_413 : decode (am_bytes 128) 413 = .ok (.aload_n 3, 1) := by decide +kernel
theorem d128_414 : decode (am_bytes 128) 414 = .ok (.iconst 0, 1) := by decide +kernel
theorem d128_415 : decode (am_bytes 128) 415 = .ok (.laload, 1) := by decide +kernel
theorem d128_416 : decode (am_bytes 128) 416 = .ok (.iload 6, 2) := by decide +kernel
theorem d128_418 : decode (am_bytes 128) 418 = .ok (.i2l, 1) := by decide +kernel
theorem d128_419 : decode (am_bytes 128) 419 = .ok (.lcmp, 1) := by decide +kernel
theorem d128_420 : decode (am_bytes 128) 420 = .ok (.ifCond .eq 5, 3) := by decide +kernel
theorem d128_423 : decode (am_bytes 128) 423 = .ok (.iconst 0, 1) := by decide +kernel
theorem d128_424 : decode (am_bytes 128) 424 = .ok (.ireturn, 1) := by decide +kernel
theorem d128_425 : decode (am_bytes 128) 425 = .ok (.goto 706, 3) := by decide +kernel
theorem d128_428 : decode (am_bytes 128) 428 = .ok (.aload_n 1, 1) := by decide +kernel
theorem d128_429 : decode (am_bytes 128) 429 = .ok (.aload_n 0, 1) := by decide +kernel
theorem d128_430 : decode (am_bytes 128) 430 = .ok (.iload 4, 2) := by decide +kernel
theorem d128_432 : decode (am_bytes 128) 432 = .ok (.iconst 1, 1) := by decide +kernel
theorem d128_433 : decode (am_bytes 128) 433 = .ok (.iadd, 1) := by decide +kernel
theorem d128_434 : decode (am_bytes 128) 434 = .ok (.iaload, 1) := by decide +kernel
theorem d128_435 : decode (am_bytes 128) 435 = .ok (.aload_n 0, 1) := by decide +kernel
theorem d128_436 : decode (am_bytes 128) 436 = .ok (.iload 4, 2) := by decide +kernel
theorem d128_438 : decode (am_bytes 128) 438 = .ok (.iconst 2, 1) := by decide +kernel
theorem d128_439 : decode (am_bytes 128) 439 = .ok (.iadd, 1) := by decide +kernel
theorem d128_440 : decode (am_bytes 128) 440 = .ok (.iaload, 1) := by decide +kernel
theorem d128_441 : decode (am_bytes 128) 441 = .ok (.aload_n 0, 1) := by decide +kernel
theorem d128_442 : decode (am_bytes 128) 442 = .ok (.iload 4, 2) := by decide +kernel
theorem d128_444 : decode (am_bytes 128) 444 = .ok (.iconst 3, 1) := by decide +kernel
theorem d128_445 : decode (am_bytes 128) 445 = .ok (.iadd, 1) := by decide +kernel
theorem d128_446 : decode (am_bytes 128) 446 = .ok (.iaload, 1) := by decide +kernel
theorem d128_447 : decode (am_bytes 128) 447 = .ok (.aload_n 0, 1) := by decide +kernel
theorem d128_448 : decode (am_bytes 128) 448 = .ok (.iload 4, 2) := by decide +kernel
theorem d128_450 : decode (am_bytes 128) 450 = .ok (.iconst 4, 1) := by decide +kernel
theorem d128_451 : decode (am_bytes 128) 451 = .ok (.iadd, 1) := by decide +kernel
theorem d128_452 : decode (am_bytes 128) 452 = .ok (.iaload, 1) := by decide +kernel
theorem d128_453 : decode (am_bytes 128) 453 = .ok (.aload_n 3, 1) := by decide +kernel
theorem d128_454 : decode (am_bytes 128) 454 = .ok (.invokestatic 90, 3) := by decide +kernel
theorem d128_457 : decode (am_bytes 128) 457 = .ok (.istore 5, 2) := by decide +kernel
theorem d128_459 : decode (am_bytes 128) 459 = .ok (.aload_n 2, 1) := by decide +kernel
theorem d128_460 : decode (am_bytes 128) 460 = .ok (.aload_n 0, 1) := by decide +kernel
theorem d128_461 : decode (am_bytes 128) 461 = .ok (.iload 4, 2) := by decide +kernel
theorem d128_463 : decode (am_bytes 128) 463 = .ok (.iconst 1, 1) := by decide +kernel
theorem d128_464 : decode (am_bytes 128) 464 = .ok (.iadd, 1) := by decide +kernel
theorem d128_465 : decode (am_bytes 128) 465 = .ok (.iaload, 1) := by decide +kernel
theorem d128_466 : decode (am_bytes 128) 466 = .ok (.aload_n 0, 1) := by decide +kernel
theorem d128_467 : decode (am_bytes 128) 467 = .ok (.iload 4, 2) := by decide +kernel
theorem d128_469 : decode (am_bytes 128) 469 = .ok (.iconst 2, 1) := by decide +kernel
theorem d128_470 : decode (am_bytes 128) 470 = .ok (.iadd, 1) := by decide +kernel
theorem d128_471 : decode (am_bytes 128) 471 = .ok (.iaload, 1) := by decide +kernel
theorem d128_472 : decode (am_bytes 128) 472 = .ok (.aload_n 0, 1) := by decide +kernel
theorem d128_473 : decode (am_bytes 128) 473 = .ok (.iload 4, 2) := by decide +kernel
theorem d128_475 : decode (am_bytes 128) 475 = .ok (.iconst 3, 1) := by decide +kernel
theorem d128_476 : decode (am_bytes 128) 476 = .ok (.iadd, 1) := by decide +kernel
theorem d128_477 : decode (am_bytes 128) 477 = .ok (.iaload, 1) := by decide +kernel
theorem d128_478 : decode (am_bytes 128) 478 = .ok (.aload_n 0, 1) := by decide +kernel
theorem d128_479 : decode (am_bytes 128) 479 = .ok (.iload 4, 2) := by decide +kernel
theorem d128_481 : decode (am_bytes 128) 481 = .ok (.iconst 4, 1) := by decide +kernel
theorem d128_482 : decode (am_bytes 128) 482 = .ok (.iadd, 1) := by decide +kernel
theorem d128_483 : decode (am_bytes 128) 483 = .ok (.iaload, 1) := by decide +kernel
theorem d128_484 : decode (am_bytes 128) 484 = .ok (.invokevirtual 93, 3) := by decide +kernel
theorem d128_487 : decode (am_bytes 128) 487 = .ok (.istore 6, 2) := by decide +kernel
theorem d128_489 : decode (am_bytes 128) 489 = .ok (.aload_n 2, 1) := by decide +kernel
theorem d128_490 : decode (am_bytes 128) 490 = .ok (.invokevirtual 75, 3) := by decide +kernel
theorem d128_493 : decode (am_bytes 128) 493 = .ok (.iload 5, 2) := by decide +kernel
theorem d128_495 : decode (am_bytes 128) 495 = .ok (.if_icmp .eq 5, 3) := by decide +kernel
theorem d128_498 : decode (am_bytes 128) 498 = .ok (.iconst 0, 1) := by decide +kernel
theorem d128_499 : decode (am_bytes 128) 499 = .ok (.ireturn, 1) := by decide +kernel
theorem d128_500 : decode (am_bytes 128) 500 = .ok (.iload 5, 2) := by decide +kernel
theorem d128_502 : decode (am_bytes 128) 502 = .ok (.ifCond .ne 15, 3) := by decide +kernel
theorem d128_505 : decode (am_bytes 128) 505 = .ok (.aload_n 3, 1) := by decide +kernel
theorem d128_506 : decode (am_bytes 128) 506 = .ok (.iconst 0, 1) := by decide +kernel
theorem d128_507 : decode (am_bytes 128) 507 = .ok (.laload, 1) := by decide +kernel
theorem d128_508 : decode (am_bytes 128) 508 = .ok (.iload 6, 2) := by decide +kernel
theorem d128_510 : decode (am_bytes 128) 510 = .ok (.i2l, 1) := by decide +kernel
theorem d128_511 : decode (am_bytes 128) 511 = .ok (.lcmp, 1) := by decide +kernel
theorem d128_512 : decode (am_bytes 128) 512 = .ok (.ifCond .eq 5, 3) := by decide +kernel
theorem d128_515 : decode (am_bytes 128) 515 = .ok (.iconst 0, 1) := by decide +kernel
theorem d128_516 : decode (am_bytes 128) 516 = .ok (.ireturn, 1) := by decide +kernel
theorem d128_517 : decode (am_bytes 128) 517 = .ok (.goto 614, 3) := by decide +kernel
theorem d128_520 : decode (am_bytes 128) 520 = .ok (.aload_n 1, 1) := by decide +kernel
theorem d128_521 : decode (am_bytes 128) 521 = .ok (.aload_n 0, 1) := by decide +kernel
theorem d128_522 : decode (am_bytes 128) 522 = .ok (.iload 4, 2) := by decide +kernel
theorem d128_524 : decode (am_bytes 128) 524 = .ok (.iconst 1, 1) := by decide +kernel
theorem d128_525 : decode (am_bytes 128) 525 = .ok (.iadd, 1) := by decide +kernel
theorem d128_526 : decode (am_bytes 128) 526 = .ok (.iaload, 1) := by decide +kernel
theorem d128_527 : decode (am_bytes 128) 527 = .ok (.aload_n 0, 1) := by decide +kernel
theorem d128_528 : decode (am_bytes 128) 528 = .ok (.iload 4, 2) := by decide +kernel
theorem d128_530 : decode (am_bytes 128) 530 = .ok (.iconst 2, 1) := by decide +kernel
theorem d128_531 : decode (am_bytes 128) 531 = .ok (.iadd, 1) := by decide +kernel
theorem d128_532 : decode (am_bytes 128) 532 = .ok (.iaload, 1) := by decide +kernel
theorem d128_533 : decode (am_bytes 128) 533 = .ok (.aload_n 0, 1) := by decide +kernel
theorem d128_534 : decode (am_bytes 128) 534 = .ok (.iload 4, 2) := by decide +kernel
theorem d128_536 : decode (am_bytes 128) 536 = .ok (.iconst 3, 1) := by decide +kernel
theorem d128_537 : decode (am_bytes 128) 537 = .ok (.iadd, 1) := by decide +kernel
theorem d128_538 : decode (am_bytes 128) 538 = .ok (.iaload, 1) := by decide +kernel
theorem d128_539 : decode (am_bytes 128) 539 = .ok (.aload_n 3, 1) := by decide +kernel
theorem d128_540 : decode (am_bytes 128) 540 = .ok (.invokestatic 94, 3) := by decide +kernel
theorem d128_543 : decode (am_bytes 128) 543 = .ok (.istore 5, 2) := by decide +kernel
theorem d128_545 : decode (am_bytes 128) 545 = .ok (.aload_n 2, 1) := by decide +kernel
theorem d128_546 : decode (am_bytes 128) 546 = .ok (.aload_n 0, 1) := by decide +kernel
theorem d128_547 : decode (am_bytes 128) 547 = .ok (.iload 4, 2) := by decide +kernel
theorem d128_549 : decode (am_bytes 128) 549 = .ok (.iconst 1, 1) := by decide +kernel
theorem d128_550 : decode (am_bytes 128) 550 = .ok (.iadd, 1) := by decide +kernel
theorem d128_551 : decode (am_bytes 128) 551 = .ok (.iaload, 1) := by decide +kernel
theorem d128_552 : decode (am_bytes 128) 552 = .ok (.aload_n 0, 1) := by decide +kernel
theorem d128_553 : decode (am_bytes 128) 553 = .ok (.iload 4, 2) := by decide +kernel
theorem d128_555 : decode (am_bytes 128) 555 = .ok (.iconst 2, 1) := by decide +kernel
theorem d128_556 : decode (am_bytes 128) 556 = .ok (.iadd, 1) := by decide +kernel
theorem d128_557 : decode (am_bytes 128) 557 = .ok (.iaload, 1) := by decide +kernel
theorem d128_558 : decode (am_bytes 128) 558 = .ok (.aload_n 0, 1) := by decide +kernel
theorem d128_559 : decode (am_bytes 128) 559 = .ok (.iload 4, 2) := by decide +kernel
theorem d128_561 : decode (am_bytes 128) 561 = .ok (.iconst 3, 1) := by decide +kernel
theorem d128_562 : decode (am_bytes 128) 562 = .ok (.iadd, 1) := by decide +kernel
theorem d128_563 : decode (am_bytes 128) 563 = .ok (.iaload, 1) := by decide +kernel
theorem d128_564 : decode (am_bytes 128) 564 = .ok (.invokevirtual 97, 3) := by decide +kernel
theorem d128_567 : decode (am_bytes 128) 567 = .ok (.istore 6, 2) := by decide +kernel
theorem d128_569 : decode (am_bytes 128) 569 = .ok (.aload_n 2, 1) := by decide +kernel
theorem d128_570 : decode (am_bytes 128) 570 = .ok (.invokevirtual 75, 3) := by decide +kernel
theorem d128_573 : decode (am_bytes 128) 573 = .ok (.iload 5, 2) := by decide +kernel
theorem d128_575 : decode (am_bytes 128) 575 = .ok (.if_icmp .eq 5, 3) := by decide +kernel
theorem d128_578 : decode (am_bytes 128) 578 = .ok (.iconst 0, 1) := by decide +kernel
theorem d128_579 : decode (am_bytes 128) 579 = .ok (.ireturn, 1) := by decide +kernel
theorem d128_580 : decode (am_bytes 128) 580 = .ok (.iload 5, 2) := by decide +kernel
theorem d128_582 : decode (am_bytes 128) 582 = .ok (.ifCond .ne 15, 3) := by decide +kernel
theorem d128_585 : decode (am_bytes 128) 585 = .ok (.aload_n 3, 1) := by decide +kernel
theorem d128_586 : decode (am_bytes 128) 586 = .ok (.iconst 0, 1) := by decide +kernel
theorem d128_587 : decode (am_bytes 128) 587 = .ok (.laload, 1) := by decide +kernel
theorem d128_588 : decode (am_bytes 128) 588 = .ok (.iload 6, 2) := by decide +kernel
theorem d128_590 : decode (am_bytes 128) 590 = .ok (.i2l, 1) := by decide +kernel
theorem d128_591 : decode (am_bytes 128) 591 = .ok (.lcmp, 1) := by decide +kernel
theorem d128_592 : decode (am_bytes 128) 592 = .ok (.ifCond .eq 5, 3) := by decide +kernel
theorem d128_595 : decode (am_bytes 128) 595 = .ok (.iconst 0, 1) := by decide +kernel
theorem d128_596 : decode (am_bytes 128) 596 = .ok (.ireturn, 1) := by decide +kernel
theorem d128_597 : decode (am_bytes 128) 597 = .ok (.goto 534, 3) := by decide +kernel
theorem d128_600 : decode (am_bytes 128) 600 = .ok (.aload_n 1, 1) := by decide +kernel
theorem d128_601 : decode (am_bytes 128) 601 = .ok (.aload_n 0, 1) := by decide +kernel
theorem d128_602 : decode (am_bytes 128) 602 = .ok (.iload 4, 2) := by decide +kernel
theorem d128_604 : decode (am_bytes 128) 604 = .ok (.iconst 1, 1) := by decide +kernel
theorem d128_605 : decode (am_bytes 128) 605 = .ok (.iadd, 1) := by decide +kernel
theorem d128_606 : decode (am_bytes 128) 606 = .ok (.iaload, 1) := by decide +kernel
theorem d128_607 : decode (am_bytes 128) 607 = .ok (.aload_n 0, 1) := by decide +kernel
theorem d128_608 : decode (am_bytes 128) 608 = .ok (.iload 4, 2) := by decide +kernel
theorem d128_610 : decode (am_bytes 128) 610 = .ok (.iconst 2, 1) := by decide +kernel
theorem d128_611 : decode (am_bytes 128) 611 = .ok (.iadd, 1) := by decide +kernel
theorem d128_612 : decode (am_bytes 128) 612 = .ok (.iaload, 1) := by decide +kernel
theorem d128_613 : decode (am_bytes 128) 613 = .ok (.aload_n 3, 1) := by decide +kernel
theorem d128_614 : decode (am_bytes 128) 614 = .ok (.invokestatic 98, 3) := by decide +kernel
theorem d128_617 : decode (am_bytes 128) 617 = .ok (.istore 5, 2) := by decide +kernel
theorem d128_619 : decode (am_bytes 128) 619 = .ok (.aload_n 2, 1) := by decide +kernel
theorem d128_620 : decode (am_bytes 128) 620 = .ok (.aload_n 0, 1) := by decide +kernel
theorem d128_621 : decode (am_bytes 128) 621 = .ok (.iload 4, 2) := by decide +kernel
theorem d128_623 : decode (am_bytes 128) 623 = .ok (.iconst 1, 1) := by decide +kernel
theorem d128_624 : decode (am_bytes 128) 624 = .ok (.iadd, 1) := by decide +kernel
theorem d128_625 : decode (am_bytes 128) 625 = .ok (.iaload, 1) := by decide +kernel
theorem d128_626 : decode (am_bytes 128) 626 = .ok (.aload_n 0, 1) := by decide +kernel
theorem d128_627 : decode (am_bytes 128) 627 = .ok (.iload 4, 2) := by decide +kernel
theorem d128_629 : decode (am_bytes 128) 629 = .ok (.iconst 2, 1) := by decide +kernel
theorem d128_630 : decode (am_bytes 128) 630 = .ok (.iadd, 1) := by decide +kernel
theorem d128_631 : decode (am_bytes 128) 631 = .ok (.iaload, 1) := by decide +kernel
theorem d128_632 : decode (am_bytes 128) 632 = .ok (.invokevirtual 100, 3) := by decide +kernel
theorem d128_635 : decode (am_bytes 128) 635 = .ok (.istore 6, 2) := by decide +kernel
theorem d128_637 : decode (am_bytes 128) 637 = .ok (.aload_n 2, 1) := by decide +kernel
theorem d128_638 : decode (am_bytes 128) 638 = .ok (.invokevirtual 75, 3) := by decide +kernel
theorem d128_641 : decode (am_bytes 128) 641 = .ok (.iload 5, 2) := by decide +kernel
theorem d128_643 : decode (am_bytes 128) 643 = .ok (.if_icmp .eq 5, 3) := by decide +kernel
theorem d128_646 : decode (am_bytes 128) 646 = .ok (.iconst 0, 1) := by decide +kernel
theorem d128_647 : decode (am_bytes 128) 647 = .ok (.ireturn, 1) := by decide +kernel
theorem d128_648 : decode (am_bytes 128) 648 = .ok (.iload 5, 2) := by decide +kernel
theorem d128_650 : decode (am_bytes 128) 650 = .ok (.ifCond .ne 15, 3) := by decide +kernel
theorem d128_653 : decode (am_bytes 128) 653 = .ok (.aload_n 3, 1) := by decide +kernel
theorem d128_654 : decode (am_bytes 128) 654 = .ok (.iconst 0, 1) := by decide +kernel
theorem d128_655 : decode (am_bytes 128) 655 = .ok (.laload, 1) := by decide +kernel
theorem d128_656 : decode (am_bytes 128) 656 = .ok (.iload 6, 2) := by decide +kernel
theorem d128_658 : decode (am_bytes 128) 658 = .ok (.i2l, 1) := by decide +kernel
theorem d128_659 : decode (am_bytes 128) 659 = .ok (.lcmp, 1) := by decide +kernel
theorem d128_660 : decode (am_bytes 128) 660 = .ok (.ifCond .eq 5, 3) := by decide +kernel
theorem d128_663 : decode (am_bytes 128) 663 = .ok (.iconst 0, 1) := by decide +kernel
theorem d128_664 : decode (am_bytes 128) 664 = .ok (.ireturn, 1) := by decide +kernel
theorem d128_665 : decode (am_bytes 128) 665 = .ok (.goto 466, 3) := by decide +kernel
theorem d128_668 : decode (am_bytes 128) 668 = .ok (.aload_n 1, 1) := by decide +kernel
theorem d128_669 : decode (am_bytes 128) 669 = .ok (.aload_n 0, 1) := by decide +kernel
theorem d128_670 : decode (am_bytes 128) 670 = .ok (.iload 4, 2) := by decide +kernel
theorem d128_672 : decode (am_bytes 128) 672 = .ok (.iconst 1, 1) := by decide +kernel
theorem d128_673 : decode (am_bytes 128) 673 = .ok (.iadd, 1) := by decide +kernel
theorem d128_674 : decode (am_bytes 128) 674 = .ok (.iaload, 1) := by decide +kernel
theorem d128_675 : decode (am_bytes 128) 675 = .ok (.aload_n 0, 1) := by decide +kernel
theorem d128_676 : decode (am_bytes 128) 676 = .ok (.iload 4, 2) := by decide +kernel
theorem d128_678 : decode (am_bytes 128) 678 = .ok (.iconst 2, 1) := by decide +kernel
theorem d128_679 : decode (am_bytes 128) 679 = .ok (.iadd, 1) := by decide +kernel
theorem d128_680 : decode (am_bytes 128) 680 = .ok (.iaload, 1) := by decide +kernel
theorem d128_681 : decode (am_bytes 128) 681 = .ok (.aload_n 3, 1) := by decide +kernel
theorem d128_682 : decode (am_bytes 128) 682 = .ok (.invokestatic 101, 3) := by decide +kernel
theorem d128_685 : decode (am_bytes 128) 685 = .ok (.istore 5, 2) := by decide +kernel
theorem d128_687 : decode (am_bytes 128) 687 = .ok (.aload_n 2, 1) := by decide +kernel
theorem d128_688 : decode (am_bytes 128) 688 = .ok (.aload_n 0, 1) := by decide +kernel
theorem d128_689 : decode (am_bytes 128) 689 = .ok (.iload 4, 2) := by decide +kernel
theorem d128_691 : decode (am_bytes 128) 691 = .ok (.iconst 1, 1) := by decide +kernel
theorem d128_692 : decode (am_bytes 128) 692 = .ok (.iadd, 1) := by decide +kernel
theorem d128_693 : decode (am_bytes 128) 693 = .ok (.iaload, 1) := by decide +kernel
theorem d128_694 : decode (am_bytes 128) 694 = .ok (.aload_n 0, 1) := by decide +kernel
theorem d128_695 : decode (am_bytes 128) 695 = .ok (.iload 4, 2) := by decide +kernel
theorem d128_697 : decode (am_bytes 128) 697 = .ok (.iconst 2, 1) := by decide +kernel
theorem d128_698 : decode (am_bytes 128) 698 = .ok (.iadd, 1) := by decide +kernel
theorem d128_699 : decode (am_bytes 128) 699 = .ok (.iaload, 1) := by decide +kernel
theorem d128_700 : decode (am_bytes 128) 700 = .ok (.invokevirtual 103, 3) := by decide +kernel
theorem d128_703 : decode (am_bytes 128) 703 = .ok (.istore 6, 2) := by decide +kernel
theorem d128_705 : decode (am_bytes 128) 705 = .ok (.aload_n 2, 1) := by decide +kernel
theorem d128_706 : decode (am_bytes 128) 706 = .ok (.invokevirtual 75, 3) := by decide +kernel
theorem d128_709 : decode (am_bytes 128) 709 = .ok (.iload 5, 2) := by decide +kernel
theorem d128_711 : decode (am_bytes 128) 711 = .ok (.if_icmp .eq 5, 3) := by decide +kernel
theorem d128_714 : decode (am_bytes 128) 714 = .ok (.iconst 0, 1) := by decide +kernel
theorem d128_715 : decode (am_bytes 128) 715 = .ok (.ireturn, 1) := by decide +kernel
theorem d128_716 : decode (am_bytes 128) 716 = .ok (.iload 5, 2) := by decide +kernel
theorem d128_718 : decode (am_bytes 128) 718 = .ok (.ifCond .ne 15, 3) := by decide +kernel
theorem d128_721 : decode (am_bytes 128) 721 = .ok (.aload_n 3, 1) := by decide +kernel
theorem d128_722 : decode (am_bytes 128) 722 = .ok (.iconst 0, 1) := by decide +kernel
theorem d128_723 : decode (am_bytes 128) 723 = .ok (.laload, 1) := by decide +kernel
theorem d128_724 : decode (am_bytes 128) 724 = .ok (.iload 6, 2) := by decide +kernel
theorem d128_726 : decode (am_bytes 128) 726 = .ok (.i2l, 1) := by decide +kernel
theorem d128_727 : decode (am_bytes 128) 727 = .ok (.lcmp, 1) := by decide +kernel
theorem d128_728 : decode (am_bytes 128) 728 = .ok (.ifCond .eq 5, 3) := by decide +kernel
theorem d128_731 : decode (am_bytes 128) 731 = .ok (.iconst 0, 1) := by decide +kernel
theorem d128_732 : decode (am_bytes 128) 732 = .ok (.ireturn, 1) := by decide +kernel
theorem d128_733 : decode (am_bytes 128) 733 = .ok (.goto 398, 3) := by decide +kernel
theorem d128_736 : decode (am_bytes 128) 736 = .ok (.aload_n 1, 1) := by decide +kernel
theorem d128_737 : decode (am_bytes 128) 737 = .ok (.aload_n 0, 1) := by decide +kernel
theorem d128_738 : decode (am_bytes 128) 738 = .ok (.iload 4, 2) := by decide +kernel
theorem d128_740 : decode (am_bytes 128) 740 = .ok (.iconst 1, 1) := by decide +kernel
theorem d128_741 : decode (am_bytes 128) 741 = .ok (.iadd, 1) := by decide +kernel
theorem d128_742 : decode (am_bytes 128) 742 = .ok (.iaload, 1) := by decide +kernel
theorem d128_743 : decode (am_bytes 128) 743 = .ok (.aload_n 3, 1) := by decide +kernel
theorem d128_744 : decode (am_bytes 128) 744 = .ok (.invokestatic 104, 3) := by decide +kernel
theorem d128_747 : decode (am_bytes 128) 747 = .ok (.istore 5, 2) := by decide +kernel
theorem d128_749 : decode (am_bytes 128) 749 = .ok (.aload_n 2, 1) := by decide +kernel
theorem d128_750 : decode (am_bytes 128) 750 = .ok (.aload_n 0, 1) := by decide +kernel
theorem d128_751 : decode (am_bytes 128) 751 = .ok (.iload 4, 2) := by decide +kernel
theorem d128_753 : decode (am_bytes 128) 753 = .ok (.iconst 1, 1) := by decide +kernel
theorem d128_754 : decode (am_bytes 128) 754 = .ok (.iadd, 1) := by decide +kernel
theorem d128_755 : decode (am_bytes 128) 755 = .ok (.iaload, 1) := by decide +kernel
theorem d128_756 : decode (am_bytes 128) 756 = .ok (.invokevirtual 107, 3) := by decide +kernel
theorem d128_759 : decode (am_bytes 128) 759 = .ok (.istore 6, 2) := by decide +kernel
theorem d128_761 : decode (am_bytes 128) 761 = .ok (.aload_n 2, 1) := by decide +kernel
theorem d128_762 : decode (am_bytes 128) 762 = .ok (.invokevirtual 75, 3) := by decide +kernel
theorem d128_765 : decode (am_bytes 128) 765 = .ok (.iload 5, 2) := by decide +kernel
theorem d128_767 : decode (am_bytes 128) 767 = .ok (.if_icmp .eq 5, 3) := by decide +kernel
theorem d128_770 : decode (am_bytes 128) 770 = .ok (.iconst 0, 1) := by decide +kernel
theorem d128_771 : decode (am_bytes 128) 771 = .ok (.ireturn, 1) := by decide +kernel
theorem d128_772 : decode (am_bytes 128) 772 = .ok (.iload 5, 2) := by decide +kernel
theorem d128_774 : decode (am_bytes 128) 774 = .ok (.ifCond .ne 15, 3) := by decide +kernel
theorem d128_777 : decode (am_bytes 128) 777 = .ok (.aload_n 3, 1) := by decide +kernel
theorem d128_778 : decode (am_bytes 128) 778 = .ok (.iconst 0, 1) := by decide +kernel
theorem d128_779 : decode (am_bytes 128) 779 = .ok (.laload, 1) := by decide +kernel
theorem d128_780 : decode (am_bytes 128) 780 = .ok (.iload 6, 2) := by decide +kernel
theorem d128_782 : decode (am_bytes 128) 782 = .ok (.i2l, 1) := by decide +kernel
theorem d128_783 : decode (am_bytes 128) 783 = .ok (.lcmp, 1) := by decide +kernel
theorem d128_784 : decode (am_bytes 128) 784 = .ok (.ifCond .eq 5, 3) := by decide +kernel
theorem d128_787 : decode (am_bytes 128) 787 = .ok (.iconst 0, 1) := by decide +kernel
theorem d128_788 : decode (am_bytes 128) 788 = .ok (.ireturn, 1) := by decide +kernel
theorem d128_789 : decode (am_bytes 128) 789 = .ok (.goto 342, 3) := by decide +kernel
theorem d128_792 : decode (am_bytes 128) 792 = .ok (.aload_n 1, 1) := by decide +kernel
theorem d128_793 : decode (am_bytes 128) 793 = .ok (.aload_n 0, 1) := by decide +kernel
theorem d128_794 : decode (am_bytes 128) 794 = .ok (.iload 4, 2) := by decide +kernel
theorem d128_796 : decode (am_bytes 128) 796 = .ok (.iconst 1, 1) := by decide +kernel
theorem d128_797 : decode (am_bytes 128) 797 = .ok (.iadd, 1) := by decide +kernel
theorem d128_798 : decode (am_bytes 128) 798 = .ok (.iaload, 1) := by decide +kernel
theorem d128_799 : decode (am_bytes 128) 799 = .ok (.aload_n 0, 1) := by decide +kernel
theorem d128_800 : decode (am_bytes 128) 800 = .ok (.iload 4, 2) := by decide +kernel
theorem d128_802 : decode (am_bytes 128) 802 = .ok (.iconst 2, 1) := by decide +kernel
theorem d128_803 : decode (am_bytes 128) 803 = .ok (.iadd, 1) := by decide +kernel
theorem d128_804 : decode (am_bytes 128) 804 = .ok (.iaload, 1) := by decide +kernel
theorem d128_805 : decode (am_bytes 128) 805 = .ok (.aload_n 0, 1) := by decide +kernel
theorem d128_806 : decode (am_bytes 128) 806 = .ok (.iload 4, 2) := by decide +kernel
theorem d128_808 : decode (am_bytes 128) 808 = .ok (.iconst 3, 1) := by decide +kernel
theorem d128_809 : decode (am_bytes 128) 809 = .ok (.iadd, 1) := by decide +kernel
theorem d128_810 : decode (am_bytes 128) 810 = .ok (.iaload, 1) := by decide +kernel
theorem d128_811 : decode (am_bytes 128) 811 = .ok (.aload_n 3, 1) := by decide +kernel
theorem d128_812 : decode (am_bytes 128) 812 = .ok (.invokestatic 108, 3) := by decide +kernel
theorem d128_815 : decode (am_bytes 128) 815 = .ok (.istore 5, 2) := by decide +kernel
theorem d128_817 : decode (am_bytes 128) 817 = .ok (.aload_n 2, 1) := by decide +kernel
theorem d128_818 : decode (am_bytes 128) 818 = .ok (.aload_n 0, 1) := by decide +kernel
theorem d128_819 : decode (am_bytes 128) 819 = .ok (.iload 4, 2) := by decide +kernel
theorem d128_821 : decode (am_bytes 128) 821 = .ok (.iconst 1, 1) := by decide +kernel
theorem d128_822 : decode (am_bytes 128) 822 = .ok (.iadd, 1) := by decide +kernel
theorem d128_823 : decode (am_bytes 128) 823 = .ok (.iaload, 1) := by decide +kernel
theorem d128_824 : decode (am_bytes 128) 824 = .ok (.aload_n 0, 1) := by decide +kernel
theorem d128_825 : decode (am_bytes 128) 825 = .ok (.iload 4, 2) := by decide +kernel
theorem d128_827 : decode (am_bytes 128) 827 = .ok (.iconst 2, 1) := by decide +kernel
theorem d128_828 : decode (am_bytes 128) 828 = .ok (.iadd, 1) := by decide +kernel
theorem d128_829 : decode (am_bytes 128) 829 = .ok (.iaload, 1) := by decide +kernel
theorem d128_830 : decode (am_bytes 128) 830 = .ok (.aload_n 0, 1) := by decide +kernel
theorem d128_831 : decode (am_bytes 128) 831 = .ok (.iload 4, 2) := by decide +kernel
theorem d128_833 : decode (am_bytes 128) 833 = .ok (.iconst 3, 1) := by decide +kernel
theorem d128_834 : decode (am_bytes 128) 834 = .ok (.iadd, 1) := by decide +kernel
theorem d128_835 : decode (am_bytes 128) 835 = .ok (.iaload, 1) := by decide +kernel
theorem d128_836 : decode (am_bytes 128) 836 = .ok (.invokevirtual 110, 3) := by decide +kernel
theorem d128_839 : decode (am_bytes 128) 839 = .ok (.istore 6, 2) := by decide +kernel
theorem d128_841 : decode (am_bytes 128) 841 = .ok (.aload_n 2, 1) := by decide +kernel
theorem d128_842 : decode (am_bytes 128) 842 = .ok (.invokevirtual 75, 3) := by decide +kernel
theorem d128_845 : decode (am_bytes 128) 845 = .ok (.iload 5, 2) := by decide +kernel
theorem d128_847 : decode (am_bytes 128) 847 = .ok (.if_icmp .eq 5, 3) := by decide +kernel
theorem d128_850 : decode (am_bytes 128) 850 = .ok (.iconst 0, 1) := by decide +kernel
theorem d128_851 : decode (am_bytes 128) 851 = .ok (.ireturn, 1) := by decide +kernel
theorem d128_852 : decode (am_bytes 128) 852 = .ok (.iload 5, 2) := by decide +kernel
theorem d128_854 : decode (am_bytes 128) 854 = .ok (.ifCond .ne 15, 3) := by decide +kernel
theorem d128_857 : decode (am_bytes 128) 857 = .ok (.aload_n 3, 1) := by decide +kernel
theorem d128_858 : decode (am_bytes 128) 858 = .ok (.iconst 0, 1) := by decide +kernel
theorem d128_859 : decode (am_bytes 128) 859 = .ok (.laload, 1) := by decide +kernel
theorem d128_860 : decode (am_bytes 128) 860 = .ok (.iload 6, 2) := by decide +kernel
theorem d128_862 : decode (am_bytes 128) 862 = .ok (.i2l, 1) := by decide +kernel
theorem d128_863 : decode (am_bytes 128) 863 = .ok (.lcmp, 1) := by decide +kernel
theorem d128_864 : decode (am_bytes 128) 864 = .ok (.ifCond .eq 5, 3) := by decide +kernel
theorem d128_867 : decode (am_bytes 128) 867 = .ok (.iconst 0, 1) := by decide +kernel
theorem d128_868 : decode (am_bytes 128) 868 = .ok (.ireturn, 1) := by decide +kernel
theorem d128_869 : decode (am_bytes 128) 869 = .ok (.goto 262, 3) := by decide +kernel
theorem d128_872 : decode (am_bytes 128) 872 = .ok (.aload_n 1, 1) := by decide +kernel
theorem d128_873 : decode (am_bytes 128) 873 = .ok (.aload_n 0, 1) := by decide +kernel
theorem d128_874 : decode (am_bytes 128) 874 = .ok (.iload 4, 2) := by decide +kernel
theorem d128_876 : decode (am_bytes 128) 876 = .ok (.iconst 1, 1) := by decide +kernel
theorem d128_877 : decode (am_bytes 128) 877 = .ok (.iadd, 1) := by decide +kernel
theorem d128_878 : decode (am_bytes 128) 878 = .ok (.iaload, 1) := by decide +kernel
theorem d128_879 : decode (am_bytes 128) 879 = .ok (.aload_n 3, 1) := by decide +kernel
theorem d128_880 : decode (am_bytes 128) 880 = .ok (.invokestatic 111, 3) := by decide +kernel
theorem d128_883 : decode (am_bytes 128) 883 = .ok (.istore 5, 2) := by decide +kernel
theorem d128_885 : decode (am_bytes 128) 885 = .ok (.aload_n 2, 1) := by decide +kernel
theorem d128_886 : decode (am_bytes 128) 886 = .ok (.aload_n 0, 1) := by decide +kernel
theorem d128_887 : decode (am_bytes 128) 887 = .ok (.iload 4, 2) := by decide +kernel
theorem d128_889 : decode (am_bytes 128) 889 = .ok (.iconst 1, 1) := by decide +kernel
theorem d128_890 : decode (am_bytes 128) 890 = .ok (.iadd, 1) := by decide +kernel
theorem d128_891 : decode (am_bytes 128) 891 = .ok (.iaload, 1) := by decide +kernel
theorem d128_892 : decode (am_bytes 128) 892 = .ok (.invokevirtual 113, 3) := by decide +kernel
theorem d128_895 : decode (am_bytes 128) 895 = .ok (.istore 6, 2) := by decide +kernel
theorem d128_897 : decode (am_bytes 128) 897 = .ok (.aload_n 2, 1) := by decide +kernel
theorem d128_898 : decode (am_bytes 128) 898 = .ok (.invokevirtual 75, 3) := by decide +kernel
theorem d128_901 : decode (am_bytes 128) 901 = .ok (.iload 5, 2) := by decide +kernel
theorem d128_903 : decode (am_bytes 128) 903 = .ok (.if_icmp .eq 5, 3) := by decide +kernel
theorem d128_906 : decode (am_bytes 128) 906 = .ok (.iconst 0, 1) := by decide +kernel
theorem d128_907 : decode (am_bytes 128) 907 = .ok (.ireturn, 1) := by decide +kernel
theorem d128_908 : decode (am_bytes 128) 908 = .ok (.iload 5, 2) := by decide +kernel
theorem d128_910 : decode (am_bytes 128) 910 = .ok (.ifCond .ne 15, 3) := by decide +kernel
theorem d128_913 : decode (am_bytes 128) 913 = .ok (.aload_n 3, 1) := by decide +kernel
theorem d128_914 : decode (am_bytes 128) 914 = .ok (.iconst 0, 1) := by decide +kernel
theorem d128_915 : decode (am_bytes 128) 915 = .ok (.laload, 1) := by decide +kernel
theorem d128_916 : decode (am_bytes 128) 916 = .ok (.iload 6, 2) := by decide +kernel
theorem d128_918 : decode (am_bytes 128) 918 = .ok (.i2l, 1) := by decide +kernel
theorem d128_919 : decode (am_bytes 128) 919 = .ok (.lcmp, 1) := by decide +kernel
theorem d128_920 : decode (am_bytes 128) 920 = .ok (.ifCond .eq 5, 3) := by decide +kernel
theorem d128_923 : decode (am_bytes 128) 923 = .ok (.iconst 0, 1) := by decide +kernel
theorem d128_924 : decode (am_bytes 128) 924 = .ok (.ireturn, 1) := by decide +kernel
theorem d128_925 : decode (am_bytes 128) 925 = .ok (.goto 206, 3) := by decide +kernel
theorem d128_928 : decode (am_bytes 128) 928 = .ok (.aload_n 1, 1) := by decide +kernel
theorem d128_929 : decode (am_bytes 128) 929 = .ok (.invokevirtual 114, 3) := by decide +kernel
theorem d128_932 : decode (am_bytes 128) 932 = .ok (.aload_n 2, 1) := by decide +kernel
theorem d128_933 : decode (am_bytes 128) 933 = .ok (.invokevirtual 117, 3) := by decide +kernel
theorem d128_936 : decode (am_bytes 128) 936 = .ok (.goto 195, 3) := by decide +kernel
theorem d128_939 : decode (am_bytes 128) 939 = .ok (.aload_n 1, 1) := by decide +kernel
theorem d128_940 : decode (am_bytes 128) 940 = .ok (.aload_n 0, 1) := by decide +kernel
theorem d128_941 : decode (am_bytes 128) 941 = .ok (.iload 4, 2) := by decide +kernel
theorem d128_943 : decode (am_bytes 128) 943 = .ok (.iconst 1, 1) := by decide +kernel
theorem d128_944 : decode (am_bytes 128) 944 = .ok (.iadd, 1) := by decide +kernel
theorem d128_945 : decode (am_bytes 128) 945 = .ok (.iaload, 1) := by decide +kernel
theorem d128_946 : decode (am_bytes 128) 946 = .ok (.aload_n 0, 1) := by decide +kernel
theorem d128_947 : decode (am_bytes 128) 947 = .ok (.iload 4, 2) := by decide +kernel
theorem d128_949 : decode (am_bytes 128) 949 = .ok (.iconst 2, 1) := by decide +kernel
theorem d128_950 : decode (am_bytes 128) 950 = .ok (.iadd, 1) := by decide +kernel
theorem d128_951 : decode (am_bytes 128) 951 = .ok (.iaload, 1) := by decide +kernel
theorem d128_952 : decode (am_bytes 128) 952 = .ok (.aload_n 3, 1) := by decide +kernel
theorem d128_953 : decode (am_bytes 128) 953 = .ok (.invokestatic 118, 3) := by decide +kernel
theorem d128_956 : decode (am_bytes 128) 956 = .ok (.istore 5, 2) := by decide +kernel
theorem d128_958 : decode (am_bytes 128) 958 = .ok (.aload_n 2, 1) := by decide +kernel
theorem d128_959 : decode (am_bytes 128) 959 = .ok (.aload_n 0, 1) := by decide +kernel
theorem d128_960 : decode (am_bytes 128) 960 = .ok (.iload 4, 2) := by decide +kernel
theorem d128_962 : decode (am_bytes 128) 962 = .ok (.iconst 1, 1) := by decide +kernel
theorem d128_963 : decode (am_bytes 128) 963 = .ok (.iadd, 1) := by decide +kernel
theorem d128_964 : decode (am_bytes 128) 964 = .ok (.iaload, 1) := by decide +kernel
theorem d128_965 : decode (am_bytes 128) 965 = .ok (.aload_n 0, 1) := by decide +kernel
theorem d128_966 : decode (am_bytes 128) 966 = .ok (.iload 4, 2) := by decide +kernel
theorem d128_968 : decode (am_bytes 128) 968 = .ok (.iconst 2, 1) := by decide +kernel
theorem d128_969 : decode (am_bytes 128) 969 = .ok (.iadd, 1) := by decide +kernel
theorem d128_970 : decode (am_bytes 128) 970 = .ok (.iaload, 1) := by decide +kernel
theorem d128_971 : decode (am_bytes 128) 971 = .ok (.invokevirtual 120, 3) := by decide +kernel
theorem d128_974 : decode (am_bytes 128) 974 = .ok (.istore 6, 2) := by decide +kernel
theorem d128_976 : decode (am_bytes 128) 976 = .ok (.aload_n 2, 1) := by decide +kernel
theorem d128_977 : decode (am_bytes 128) 977 = .ok (.invokevirtual 75, 3) := by decide +kernel
theorem d128_980 : decode (am_bytes 128) 980 = .ok (.iload 5, 2) := by decide +kernel
theorem d128_982 : decode (am_bytes 128) 982 = .ok (.if_icmp .eq 5, 3) := by decide +kernel
theorem d128_985 : decode (am_bytes 128) 985 = .ok (.iconst 0, 1) := by decide +kernel
theorem d128_986 : decode (am_bytes 128) 986 = .ok (.ireturn, 1) := by decide +kernel
theorem d128_987 : decode (am_bytes 128) 987 = .ok (.iload 5, 2) := by decide +kernel
theorem d128_989 : decode (am_bytes 128) 989 = .ok (.ifCond .ne 15, 3) := by decide +kernel
theorem d128_992 : decode (am_bytes 128) 992 = .ok (.aload_n 3, 1) := by decide +kernel
theorem d128_993 : decode (am_bytes 128) 993 = .ok (.iconst 0, 1) := by decide +kernel
theorem d128_994 : decode (am_bytes 128) 994 = .ok (.laload, 1) := by decide +kernel
theorem d128_995 : decode (am_bytes 128) 995 = .ok (.iload 6, 2) := by decide +kernel
theorem d128_997 : decode (am_bytes 128) 997 = .ok (.i2l, 1) := by decide +kernel
theorem d128_998 : decode (am_bytes 128) 998 = .ok (.lcmp, 1) := by decide +kernel
theorem d128_999 : decode (am_bytes 128) 999 = .ok (.ifCond .eq 5, 3) := by decide +kernel
theorem d128_1002 : decode (am_bytes 128) 1002 = .ok (.iconst 0, 1) := by decide +kernel
theorem d128_1003 : decode (am_bytes 128) 1003 = .ok (.ireturn, 1) := by decide +kernel
theorem d128_1004 : decode (am_bytes 128) 1004 = .ok (.goto 127, 3) := by decide +kernel
theorem d128_1007 : decode (am_bytes 128) 1007 = .ok (.aload_n 1, 1) := by decide +kernel
theorem d128_1008 : decode (am_bytes 128) 1008 = .ok (.aload_n 0, 1) := by decide +kernel
theorem d128_1009 : decode (am_bytes 128) 1009 = .ok (.iload 4, 2) := by decide +kernel
theorem d128_1011 : decode (am_bytes 128) 1011 = .ok (.iconst 1, 1) := by decide +kernel
theorem d128_1012 : decode (am_bytes 128) 1012 = .ok (.iadd, 1) := by decide +kernel
theorem d128_1013 : decode (am_bytes 128) 1013 = .ok (.iaload, 1) := by decide +kernel
theorem d128_1014 : decode (am_bytes 128) 1014 = .ok (.aload_n 3, 1) := by decide +kernel
theorem d128_1015 : decode (am_bytes 128) 1015 = .ok (.invokestatic 121, 3) := by decide +kernel
theorem d128_1018 : decode (am_bytes 128) 1018 = .ok (.istore 5, 2) := by decide +kernel
theorem d128_1020 : decode (am_bytes 128) 1020 = .ok (.aload_n 2, 1) := by decide +kernel
theorem d128_1021 : decode (am_bytes 128) 1021 = .ok (.aload_n 0, 1) := by decide +kernel
theorem d128_1022 : decode (am_bytes 128) 1022 = .ok (.iload 4, 2) := by decide +kernel
theorem d128_1024 : decode (am_bytes 128) 1024 = .ok (.iconst 1, 1) := by decide +kernel
theorem d128_1025 : decode (am_bytes 128) 1025 = .ok (.iadd, 1) := by decide +kernel
theorem d128_1026 : decode (am_bytes 128) 1026 = .ok (.iaload, 1) := by decide +kernel
theorem d128_1027 : decode (am_bytes 128) 1027 = .ok (.invokevirtual 123, 3) := by decide +kernel
theorem d128_1030 : decode (am_bytes 128) 1030 = .ok (.istore 6, 2) := by decide +kernel
theorem d128_1032 : decode (am_bytes 128) 1032 = .ok (.aload_n 2, 1) := by decide +kernel
theorem d128_1033 : decode (am_bytes 128) 1033 = .ok (.invokevirtual 75, 3) := by decide +kernel
theorem d128_1036 : decode (am_bytes 128) 1036 = .ok (.iload 5, 2) := by decide +kernel
theorem d128_1038 : decode (am_bytes 128) 1038 = .ok (.if_icmp .eq 5, 3) := by decide +kernel
theorem d128_1041 : decode (am_bytes 128) 1041 = .ok (.iconst 0, 1) := by decide +kernel
theorem d128_1042 : decode (am_bytes 128) 1042 = .ok (.ireturn, 1) := by decide +kernel
theorem d128_1043 : decode (am_bytes 128) 1043 = .ok (.iload 5, 2) := by decide +kernel
theorem d128_1045 : decode (am_bytes 128) 1045 = .ok (.ifCond .ne 15, 3) := by decide +kernel
theorem d128_1048 : decode (am_bytes 128) 1048 = .ok (.aload_n 3, 1) := by decide +kernel
theorem d128_1049 : decode (am_bytes 128) 1049 = .ok (.iconst 0, 1) := by decide +kernel
theorem d128_1050 : decode (am_bytes 128) 1050 = .ok (.laload, 1) := by decide +kernel
theorem d128_1051 : decode (am_bytes 128) 1051 = .ok (.iload 6, 2) := by decide +kernel
theorem d128_1053 : decode (am_bytes 128) 1053 = .ok (.i2l, 1) := by decide +kernel
theorem d128_1054 : decode (am_bytes 128) 1054 = .ok (.lcmp, 1) := by decide +kernel
theorem d128_1055 : decode (am_bytes 128) 1055 = .ok (.ifCond .eq 5, 3) := by decide +kernel
theorem d128_1058 : decode (am_bytes 128) 1058 = .ok (.iconst 0, 1) := by decide +kernel
theorem d128_1059 : decode (am_bytes 128) 1059 = .ok (.ireturn, 1) := by decide +kernel
theorem d128_1060 : decode (am_bytes 128) 1060 = .ok (.goto 71, 3) := by decide +kernel
theorem d128_1063 : decode (am_bytes 128) 1063 = .ok (.aload_n 1, 1) := by decide +kernel
theorem d128_1064 : decode (am_bytes 128) 1064 = .ok (.aload_n 0, 1) := by decide +kernel
theorem d128_1065 : decode (am_bytes 128) 1065 = .ok (.iload 4, 2) := by decide +kernel
theorem d128_1067 : decode (am_bytes 128) 1067 = .ok (.iconst 1, 1) := by decide +kernel
theorem d128_1068 : decode (am_bytes 128) 1068 = .ok (.iadd, 1) := by decide +kernel
theorem d128_1069 : decode (am_bytes 128) 1069 = .ok (.iaload, 1) := by decide +kernel
theorem d128_1070 : decode (am_bytes 128) 1070 = .ok (.aload_n 0, 1) := by decide +kernel
theorem d128_1071 : decode (am_bytes 128) 1071 = .ok (.iload 4, 2) := by decide +kernel
theorem d128_1073 : decode (am_bytes 128) 1073 = .ok (.iconst 2, 1) := by decide +kernel
theorem d128_1074 : decode (am_bytes 128) 1074 = .ok (.iadd, 1) := by decide +kernel
theorem d128_1075 : decode (am_bytes 128) 1075 = .ok (.iaload, 1) := by decide +kernel
theorem d128_1076 : decode (am_bytes 128) 1076 = .ok (.aload_n 3, 1) := by decide +kernel
theorem d128_1077 : decode (am_bytes 128) 1077 = .ok (.invokestatic 124, 3) := by decide +kernel
theorem d128_1080 : decode (am_bytes 128) 1080 = .ok (.istore 5, 2) := by decide +kernel
theorem d128_1082 : decode (am_bytes 128) 1082 = .ok (.aload_n 2, 1) := by decide +kernel
theorem d128_1083 : decode (am_bytes 128) 1083 = .ok (.aload_n 0, 1) := by decide +kernel
theorem d128_1084 : decode (am_bytes 128) 1084 = .ok (.iload 4, 2) := by decide +kernel
theorem d128_1086 : decode (am_bytes 128) 1086 = .ok (.iconst 1, 1) := by decide +kernel
theorem d128_1087 : decode (am_bytes 128) 1087 = .ok (.iadd, 1) := by decide +kernel
theorem d128_1088 : decode (am_bytes 128) 1088 = .ok (.iaload, 1) := by decide +kernel
theorem d128_1089 : decode (am_bytes 128) 1089 = .ok (.aload_n 0, 1) := by decide +kernel
theorem d128_1090 : decode (am_bytes 128) 1090 = .ok (.iload 4, 2) := by decide +kernel
theorem d128_1092 : decode (am_bytes 128) 1092 = .ok (.iconst 2, 1) := by decide +kernel
theorem d128_1093 : decode (am_bytes 128) 1093 = .ok (.iadd, 1) := by decide +kernel
theorem d128_1094 : decode (am_bytes 128) 1094 = .ok (.iaload, 1) := by decide +kernel
theorem d128_1095 : decode (am_bytes 128) 1095 = .ok (.invokevirtual 126, 3) := by decide +kernel
theorem d128_1098 : decode (am_bytes 128) 1098 = .ok (.istore 6, 2) := by decide +kernel
theorem d128_1100 : decode (am_bytes 128) 1100 = .ok (.aload_n 2, 1) := by decide +kernel
theorem d128_1101 : decode (am_bytes 128) 1101 = .ok (.invokevirtual 75, 3) := by decide +kernel
theorem d128_1104 : decode (am_bytes 128) 1104 = .ok (.iload 5, 2) := by decide +kernel
theorem d128_1106 : decode (am_bytes 128) 1106 = .ok (.if_icmp .eq 5, 3) := by decide +kernel
theorem d128_1109 : decode (am_bytes 128) 1109 = .ok (.iconst 0, 1) := by decide +kernel
theorem d128_1110 : decode (am_bytes 128) 1110 = .ok (.ireturn, 1) := by decide +kernel
theorem d128_1111 : decode (am_bytes 128) 1111 = .ok (.iload 5, 2) := by decide +kernel
theorem d128_1113 : decode (am_bytes 128) 1113 = .ok (.ifCond .ne 15, 3) := by decide +kernel
theorem d128_1116 : decode (am_bytes 128) 1116 = .ok (.aload_n 3, 1) := by decide +kernel
theorem d128_1117 : decode (am_bytes 128) 1117 = .ok (.iconst 0, 1) := by decide +kernel
theorem d128_1118 : decode (am_bytes 128) 1118 = .ok (.laload, 1) := by decide +kernel
theorem d128_1119 : decode (am_bytes 128) 1119 = .ok (.iload 6, 2) := by decide +kernel
theorem d128_1121 : decode (am_bytes 128) 1121 = .ok (.i2l, 1) := by decide +kernel
theorem d128_1122 : decode (am_bytes 128) 1122 = .ok (.lcmp, 1) := by decide +kernel
theorem d128_1123 : decode (am_bytes 128) 1123 = .ok (.ifCond .eq 5, 3) := by decide +kernel
theorem d128_1126 : decode (am_bytes 128) 1126 = .ok (.iconst 0, 1) := by decide +kernel
theorem d128_1127 : decode (am_bytes 128) 1127 = .ok (.ireturn, 1) := by decide +kernel
theorem d128_1128 : decode (am_bytes 128) 1128 = .ok (.goto 3, 3) := by decide +kernel
theorem d128_1131 : decode (am_bytes 128) 1131 = .ok (.iinc 4 6, 3) := by decide +kernel
theorem d128_1134 : decode (am_bytes 128) 1134 = .ok (.goto (-1111), 3) := by decide +kernel
theorem d128_1137 : decode (am_bytes 128) 1137 = .ok (.iconst 1, 1) := by decide +kernel
theorem d128_1138 : decode (am_bytes 128) 1138 = .ok (.ireturn, 1) := by decide +kernel
theorem d129_0 : decode (am_bytes 129) 0 = .ok (.iconst 0, 1) := by decide +kernel
theorem d129_1 : decode (am_bytes 129) 1 = .ok (.istore_n 2, 1) := by decide +kernel
theorem d129_2 : decode (am_bytes 129) 2 = .ok (.aload_n 0, 1) := by decide +kernel
theorem d129_3 : decode (am_bytes 129) 3 = .ok (.arraylength, 1) := by decide +kernel
theorem d129_4 : decode (am_bytes 129) 4 = .ok (.istore_n 3, 1) := by decide +kernel
theorem d129_5 : decode (am_bytes 129) 5 = .ok (.iload_n 2, 1) := by decide +kernel
theorem d129_6 : decode (am_bytes 129) 6 = .ok (.iload_n 3, 1) := by decide +kernel
theorem d129_7 : decode (am_bytes 129) 7 = .ok (.if_icmp .ge 13, 3) := by decide +kernel
theorem d129_10 : decode (am_bytes 129) 10 = .ok (.aload_n 0, 1) := by decide +kernel
theorem d129_11 : decode (am_bytes 129) 11 = .ok (.iload_n 2, 1) := by decide +kernel
theorem d129_12 : decode (am_bytes 129) 12 = .ok (.iload_n 1, 1) := by decide +kernel
theorem d129_13 : decode (am_bytes 129) 13 = .ok (.iastore, 1) := by decide +kernel
theorem d129_14 : decode (am_bytes 129) 14 = .ok (.iinc 2 1, 3) := by decide +kernel
theorem d129_17 : decode (am_bytes 129) 17 = .ok (.goto (-12), 3) := by decide +kernel
theorem d129_20 : decode (am_bytes 129) 20 = .ok (.return_, 1) := by decide +kernel
