/-! printed: fields, methods, shapes by number -/
theorem ml0_50 : am_mth 0 50 = some 15 := by decide +kernel
theorem ml0_54 : am_mth 0 54 = some 19 := by decide +kernel
theorem fl0_12 : am_fld 0 12 = some (4, 0) := by decide +kernel
theorem fl0_58 : am_fld 0 58 = some (0, 4) := by decide +kernel
theorem ml0_68 : am_mth 0 68 = some 76 := by decide +kernel
theorem ml1_50 : am_mth 1 50 = some 15 := by decide +kernel
theorem ml1_72 : am_mth 1 72 = some 20 := by decide +kernel
theorem fl1_12 : am_fld 1 12 = some (4, 0) := by decide +kernel
theorem ml1_75 : am_mth 1 75 = some 77 := by decide +kernel
theorem fl1_81 : am_fld 1 81 = some (0, 2) := by decide +kernel
theorem ml2_50 : am_mth 2 50 = some 15 := by decide +kernel
theorem ml2_85 : am_mth 2 85 = some 16 := by decide +kernel
theorem ml2_88 : am_mth 2 88 = some 17 := by decide +kernel
theorem ml2_91 : am_mth 2 91 = some 31 := by decide +kernel
theorem ml2_72 : am_mth 2 72 = some 20 := by decide +kernel
theorem ml2_100 : am_mth 2 100 = some 21 := by decide +kernel
theorem ml2_103 : am_mth 2 103 = some 32 := by decide +kernel
theorem ml2_106 : am_mth 2 106 = some 24 := by decide +kernel
theorem fl2_43 : am_fld 2 43 = some (4, 6) := by decide +kernel
theorem ml3_50 : am_mth 3 50 = some 15 := by decide +kernel
theorem ml3_85 : am_mth 3 85 = some 16 := by decide +kernel
theorem ml3_88 : am_mth 3 88 = some 17 := by decide +kernel
theorem ml3_54 : am_mth 3 54 = some 19 := by decide +kernel
theorem ml3_110 : am_mth 3 110 = some 18 := by decide +kernel
theorem fl3_26 : am_fld 3 26 = some (4, 2) := by decide +kernel
theorem ml3_113 : am_mth 3 113 = some 23 := by decide +kernel
theorem ml3_103 : am_mth 3 103 = some 32 := by decide +kernel
theorem fl3_117 : am_fld 3 117 = some (2, 0) := by decide +kernel
theorem fl3_121 : am_fld 3 121 = some (2, 1) := by decide +kernel
theorem fl3_124 : am_fld 3 124 = some (2, 2) := by decide +kernel
theorem ml4_50 : am_mth 4 50 = some 15 := by decide +kernel
theorem ml4_85 : am_mth 4 85 = some 16 := by decide +kernel
theorem ml4_88 : am_mth 4 88 = some 17 := by decide +kernel
theorem fl4_19 : am_fld 4 19 = some (4, 1) := by decide +kernel
theorem ml4_127 : am_mth 4 127 = some 108 := by decide +kernel
theorem ml4_130 : am_mth 4 130 = some 25 := by decide +kernel
theorem ml4_103 : am_mth 4 103 = some 32 := by decide +kernel
theorem ml4_133 : am_mth 4 133 = some 111 := by decide +kernel
theorem ml5_50 : am_mth 5 50 = some 15 := by decide +kernel
theorem ml5_72 : am_mth 5 72 = some 20 := by decide +kernel
theorem fl5_26 : am_fld 5 26 = some (4, 2) := by decide +kernel
theorem fl5_43 : am_fld 5 43 = some (4, 6) := by decide +kernel
theorem ml5_113 : am_mth 5 113 = some 23 := by decide +kernel
theorem fl5_30 : am_fld 5 30 = some (4, 3) := by decide +kernel
theorem ml5_136 : am_mth 5 136 = some 96 := by decide +kernel
theorem ml6_50 : am_mth 6 50 = some 15 := by decide +kernel
theorem fl6_12 : am_fld 6 12 = some (4, 0) := by decide +kernel
theorem fl6_43 : am_fld 6 43 = some (4, 6) := by decide +kernel
theorem ml6_140 : am_mth 6 140 = some 78 := by decide +kernel
theorem ml7_50 : am_mth 7 50 = some 15 := by decide +kernel
theorem ml7_72 : am_mth 7 72 = some 20 := by decide +kernel
theorem fl7_12 : am_fld 7 12 = some (4, 0) := by decide +kernel
theorem fl7_43 : am_fld 7 43 = some (4, 6) := by decide +kernel
theorem ml7_140 : am_mth 7 140 = some 78 := by decide +kernel
theorem fl7_47 : am_fld 7 47 = some (4, 7) := by decide +kernel
theorem fl7_26 : am_fld 7 26 = some (4, 2) := by decide +kernel
theorem ml7_113 : am_mth 7 113 = some 23 := by decide +kernel
theorem fl7_30 : am_fld 7 30 = some (4, 3) := by decide +kernel
theorem fl7_33 : am_fld 7 33 = some (4, 4) := by decide +kernel
theorem ml7_148 : am_mth 7 148 = some 28 := by decide +kernel
theorem ml7_151 : am_mth 7 151 = some 27 := by decide +kernel
theorem ml7_100 : am_mth 7 100 = some 21 := by decide +kernel
theorem ml7_154 : am_mth 7 154 = some 29 := by decide +kernel
theorem fl8_47 : am_fld 8 47 = some (4, 7) := by decide +kernel
theorem fl8_43 : am_fld 8 43 = some (4, 6) := by decide +kernel
theorem fl8_19 : am_fld 8 19 = some (4, 1) := by decide +kernel
theorem ml8_127 : am_mth 8 127 = some 108 := by decide +kernel
theorem fl8_12 : am_fld 8 12 = some (4, 0) := by decide +kernel
theorem fl8_58 : am_fld 8 58 = some (0, 4) := by decide +kernel
theorem ml8_130 : am_mth 8 130 = some 25 := by decide +kernel
theorem ml8_159 : am_mth 8 159 = some 112 := by decide +kernel
theorem ml9_50 : am_mth 9 50 = some 15 := by decide +kernel
theorem ml9_85 : am_mth 9 85 = some 16 := by decide +kernel
theorem ml9_54 : am_mth 9 54 = some 19 := by decide +kernel
theorem fl9_26 : am_fld 9 26 = some (4, 2) := by decide +kernel
theorem ml9_113 : am_mth 9 113 = some 23 := by decide +kernel
theorem ml9_162 : am_mth 9 162 = some 99 := by decide +kernel
theorem fl10_39 : am_fld 10 39 = some (4, 5) := by decide +kernel
theorem ml10_166 : am_mth 10 166 = some 80 := by decide +kernel
theorem ml10_172 : am_mth 10 172 = some 81 := by decide +kernel
theorem ml10_177 : am_mth 10 177 = some 82 := by decide +kernel
theorem fl11_39 : am_fld 11 39 = some (4, 5) := by decide +kernel
theorem ml11_179 : am_mth 11 179 = some 83 := by decide +kernel
theorem ml12_50 : am_mth 12 50 = some 15 := by decide +kernel
theorem ml12_54 : am_mth 12 54 = some 19 := by decide +kernel
theorem fl12_26 : am_fld 12 26 = some (4, 2) := by decide +kernel
theorem ml12_113 : am_mth 12 113 = some 23 := by decide +kernel
theorem fl12_39 : am_fld 12 39 = some (4, 5) := by decide +kernel
theorem ml12_182 : am_mth 12 182 = some 84 := by decide +kernel
theorem ml13_110 : am_mth 13 110 = some 18 := by decide +kernel
theorem fl13_43 : am_fld 13 43 = some (4, 6) := by decide +kernel
theorem fl13_47 : am_fld 13 47 = some (4, 7) := by decide +kernel
theorem fl13_19 : am_fld 13 19 = some (4, 1) := by decide +kernel
theorem fl13_186 : am_fld 13 186 = some (3, 6) := by decide +kernel
theorem fl13_12 : am_fld 13 12 = some (4, 0) := by decide +kernel
theorem fl13_58 : am_fld 13 58 = some (0, 4) := by decide +kernel
theorem ml14_50 : am_mth 14 50 = some 15 := by decide +kernel
theorem ml14_110 : am_mth 14 110 = some 18 := by decide +kernel
theorem fl14_12 : am_fld 14 12 = some (4, 0) := by decide +kernel
theorem fl14_81 : am_fld 14 81 = some (0, 2) := by decide +kernel
theorem fl14_187 : am_fld 14 187 = some (0, 0) := by decide +kernel
theorem fl14_190 : am_fld 14 190 = some (0, 1) := by decide +kernel
theorem fl14_19 : am_fld 14 19 = some (4, 1) := by decide +kernel
theorem ml14_193 : am_mth 14 193 = some 106 := by decide +kernel
theorem fl15_12 : am_fld 15 12 = some (4, 0) := by decide +kernel
theorem fl15_58 : am_fld 15 58 = some (0, 4) := by decide +kernel
theorem ml16_201 : am_mth 16 201 = some 30 := by decide +kernel
theorem fl19_12 : am_fld 19 12 = some (4, 0) := by decide +kernel
theorem fl19_81 : am_fld 19 81 = some (0, 2) := by decide +kernel
theorem ml19_210 : am_mth 19 210 = some 22 := by decide +kernel
theorem fl19_43 : am_fld 19 43 = some (4, 6) := by decide +kernel
theorem fl20_12 : am_fld 20 12 = some (4, 0) := by decide +kernel
theorem fl20_81 : am_fld 20 81 = some (0, 2) := by decide +kernel
theorem fl21_19 : am_fld 21 19 = some (4, 1) := by decide +kernel
theorem fl21_186 : am_fld 21 186 = some (3, 6) := by decide +kernel
theorem fl22_12 : am_fld 22 12 = some (4, 0) := by decide +kernel
theorem fl22_190 : am_fld 22 190 = some (0, 1) := by decide +kernel
theorem fl22_47 : am_fld 22 47 = some (4, 7) := by decide +kernel
theorem fl23_12 : am_fld 23 12 = some (4, 0) := by decide +kernel
theorem ml23_227 : am_mth 23 227 = some 79 := by decide +kernel
theorem fl23_19 : am_fld 23 19 = some (4, 1) := by decide +kernel
theorem fl23_230 : am_fld 23 230 = some (0, 3) := by decide +kernel
theorem ml23_233 : am_mth 23 233 = some 107 := by decide +kernel
theorem fl24_43 : am_fld 24 43 = some (4, 6) := by decide +kernel
theorem fl24_19 : am_fld 24 19 = some (4, 1) := by decide +kernel
theorem ml24_237 : am_mth 24 237 = some 105 := by decide +kernel
theorem fl25_12 : am_fld 25 12 = some (4, 0) := by decide +kernel
theorem fl25_81 : am_fld 25 81 = some (0, 2) := by decide +kernel
theorem ml25_210 : am_mth 25 210 = some 22 := by decide +kernel
theorem fl25_26 : am_fld 25 26 = some (4, 2) := by decide +kernel
theorem ml25_113 : am_mth 25 113 = some 23 := by decide +kernel
theorem fl25_19 : am_fld 25 19 = some (4, 1) := by decide +kernel
theorem ml25_240 : am_mth 25 240 = some 109 := by decide +kernel
theorem ml25_244 : am_mth 25 244 = some 110 := by decide +kernel
theorem fl26_26 : am_fld 26 26 = some (4, 2) := by decide +kernel
theorem fl26_33 : am_fld 26 33 = some (4, 4) := by decide +kernel
theorem ml26_136 : am_mth 26 136 = some 96 := by decide +kernel
theorem fl26_30 : am_fld 26 30 = some (4, 3) := by decide +kernel
theorem ml27_247 : am_mth 27 247 = some 26 := by decide +kernel
theorem ml28_247 : am_mth 28 247 = some 26 := by decide +kernel
theorem fl28_30 : am_fld 28 30 = some (4, 3) := by decide +kernel
theorem fl28_33 : am_fld 28 33 = some (4, 4) := by decide +kernel
theorem ml28_136 : am_mth 28 136 = some 96 := by decide +kernel
theorem ml29_247 : am_mth 29 247 = some 26 := by decide +kernel
theorem fl29_26 : am_fld 29 26 = some (4, 2) := by decide +kernel
theorem fl29_117 : am_fld 29 117 = some (2, 0) := by decide +kernel
theorem fl29_121 : am_fld 29 121 = some (2, 1) := by decide +kernel
theorem ml29_106 : am_mth 29 106 = some 24 := by decide +kernel
theorem ml31_201 : am_mth 31 201 = some 30 := by decide +kernel
theorem fl33_45 : am_fld 33 45 = some (5, 0) := by decide +kernel
theorem fl34_7 : am_fld 34 7 = some (5, 3) := by decide +kernel
theorem fl36_17 : am_fld 36 17 = some (5, 5) := by decide +kernel
theorem fl36_48 : am_fld 36 48 = some (5, 2) := by decide +kernel
theorem fl37_20 : am_fld 37 20 = some (5, 6) := by decide +kernel
theorem ml37_51 : am_mth 37 51 = some 36 := by decide +kernel
theorem fl37_55 : am_fld 37 55 = some (5, 1) := by decide +kernel
theorem fl38_24 : am_fld 38 24 = some (5, 8) := by decide +kernel
theorem fl38_27 : am_fld 38 27 = some (5, 9) := by decide +kernel
theorem fl38_17 : am_fld 38 17 = some (5, 5) := by decide +kernel
theorem fl38_13 : am_fld 38 13 = some (5, 4) := by decide +kernel
theorem fl39_58 : am_fld 39 58 = some (5, 7) := by decide +kernel
theorem fl39_30 : am_fld 39 30 = some (5, 10) := by decide +kernel
theorem ml39_61 : am_mth 39 61 = some 38 := by decide +kernel
theorem fl40_33 : am_fld 40 33 = some (5, 11) := by decide +kernel
theorem fl41_36 : am_fld 41 36 = some (5, 12) := by decide +kernel
theorem ml42_65 : am_mth 42 65 = some 40 := by decide +kernel
theorem ml42_68 : am_mth 42 68 = some 41 := by decide +kernel
theorem fl43_27 : am_fld 43 27 = some (5, 9) := by decide +kernel
theorem ml43_51 : am_mth 43 51 = some 36 := by decide +kernel
theorem ml43_71 : am_mth 43 71 = some 37 := by decide +kernel
theorem fl43_30 : am_fld 43 30 = some (5, 10) := by decide +kernel
theorem ml43_75 : am_mth 43 75 = some 39 := by decide +kernel
theorem ml44_79 : am_mth 44 79 = some 34 := by decide +kernel
theorem ml44_71 : am_mth 44 71 = some 37 := by decide +kernel
theorem fl44_7 : am_fld 44 7 = some (5, 3) := by decide +kernel
theorem fl44_45 : am_fld 44 45 = some (5, 0) := by decide +kernel
theorem fl44_13 : am_fld 44 13 = some (5, 4) := by decide +kernel
theorem fl44_17 : am_fld 44 17 = some (5, 5) := by decide +kernel
theorem fl44_20 : am_fld 44 20 = some (5, 6) := by decide +kernel
theorem fl45_7 : am_fld 45 7 = some (5, 3) := by decide +kernel
theorem fl45_20 : am_fld 45 20 = some (5, 6) := by decide +kernel
theorem ml46_79 : am_mth 46 79 = some 34 := by decide +kernel
theorem fl46_20 : am_fld 46 20 = some (5, 6) := by decide +kernel
theorem ml46_83 : am_mth 46 83 = some 45 := by decide +kernel
theorem fl46_45 : am_fld 46 45 = some (5, 0) := by decide +kernel
theorem fl47_55 : am_fld 47 55 = some (5, 1) := by decide +kernel
theorem fl47_24 : am_fld 47 24 = some (5, 8) := by decide +kernel
theorem fl47_58 : am_fld 47 58 = some (5, 7) := by decide +kernel
theorem fl47_27 : am_fld 47 27 = some (5, 9) := by decide +kernel
theorem fl47_30 : am_fld 47 30 = some (5, 10) := by decide +kernel
theorem fl47_33 : am_fld 47 33 = some (5, 11) := by decide +kernel
theorem fl47_36 : am_fld 47 36 = some (5, 12) := by decide +kernel
theorem ml48_79 : am_mth 48 79 = some 34 := by decide +kernel
theorem ml48_86 : am_mth 48 86 = some 35 := by decide +kernel
theorem fl48_20 : am_fld 48 20 = some (5, 6) := by decide +kernel
theorem fl48_58 : am_fld 48 58 = some (5, 7) := by decide +kernel
theorem fl48_45 : am_fld 48 45 = some (5, 0) := by decide +kernel
theorem ml48_89 : am_mth 48 89 = some 47 := by decide +kernel
theorem fl48_55 : am_fld 48 55 = some (5, 1) := by decide +kernel
theorem ml49_79 : am_mth 49 79 = some 34 := by decide +kernel
theorem ml49_86 : am_mth 49 86 = some 35 := by decide +kernel
theorem ml49_71 : am_mth 49 71 = some 37 := by decide +kernel
theorem fl49_45 : am_fld 49 45 = some (5, 0) := by decide +kernel
theorem ml49_75 : am_mth 49 75 = some 39 := by decide +kernel
theorem ml49_65 : am_mth 49 65 = some 40 := by decide +kernel
theorem ml49_68 : am_mth 49 68 = some 41 := by decide +kernel
theorem fl49_27 : am_fld 49 27 = some (5, 9) := by decide +kernel
theorem ml50_79 : am_mth 50 79 = some 34 := by decide +kernel
theorem ml50_86 : am_mth 50 86 = some 35 := by decide +kernel
theorem fl50_45 : am_fld 50 45 = some (5, 0) := by decide +kernel
theorem fl50_58 : am_fld 50 58 = some (5, 7) := by decide +kernel
theorem fl50_30 : am_fld 50 30 = some (5, 10) := by decide +kernel
theorem ml50_93 : am_mth 50 93 = some 43 := by decide +kernel
theorem fl50_27 : am_fld 50 27 = some (5, 9) := by decide +kernel
theorem ml51_79 : am_mth 51 79 = some 34 := by decide +kernel
theorem fl51_20 : am_fld 51 20 = some (5, 6) := by decide +kernel
theorem fl51_45 : am_fld 51 45 = some (5, 0) := by decide +kernel
theorem fl51_55 : am_fld 51 55 = some (5, 1) := by decide +kernel
theorem ml51_75 : am_mth 51 75 = some 39 := by decide +kernel
theorem ml51_96 : am_mth 51 96 = some 42 := by decide +kernel
theorem fl52_13 : am_fld 52 13 = some (5, 4) := by decide +kernel
theorem fl53_55 : am_fld 53 55 = some (5, 1) := by decide +kernel
theorem fl53_17 : am_fld 53 17 = some (5, 5) := by decide +kernel
theorem fl53_13 : am_fld 53 13 = some (5, 4) := by decide +kernel
theorem ml54_99 : am_mth 54 99 = some 52 := by decide +kernel
theorem fl54_13 : am_fld 54 13 = some (5, 4) := by decide +kernel
theorem ml54_102 : am_mth 54 102 = some 53 := by decide +kernel
theorem ml55_79 : am_mth 55 79 = some 34 := by decide +kernel
theorem fl55_45 : am_fld 55 45 = some (5, 0) := by decide +kernel
theorem ml55_106 : am_mth 55 106 = some 54 := by decide +kernel
theorem fl56_55 : am_fld 56 55 = some (5, 1) := by decide +kernel
theorem ml56_75 : am_mth 56 75 = some 39 := by decide +kernel
theorem ml56_96 : am_mth 56 96 = some 42 := by decide +kernel
theorem ml57_79 : am_mth 57 79 = some 34 := by decide +kernel
theorem fl57_45 : am_fld 57 45 = some (5, 0) := by decide +kernel
theorem ml57_106 : am_mth 57 106 = some 54 := by decide +kernel
theorem fl57_20 : am_fld 57 20 = some (5, 6) := by decide +kernel
theorem fl57_48 : am_fld 57 48 = some (5, 2) := by decide +kernel
theorem ml57_109 : am_mth 57 109 = some 56 := by decide +kernel
theorem fl57_55 : am_fld 57 55 = some (5, 1) := by decide +kernel
theorem ml57_75 : am_mth 57 75 = some 39 := by decide +kernel
theorem ml57_96 : am_mth 57 96 = some 42 := by decide +kernel
theorem fl57_58 : am_fld 57 58 = some (5, 7) := by decide +kernel
theorem ml57_65 : am_mth 57 65 = some 40 := by decide +kernel
theorem ml57_68 : am_mth 57 68 = some 41 := by decide +kernel
theorem ml57_89 : am_mth 57 89 = some 47 := by decide +kernel
theorem fl58_48 : am_fld 58 48 = some (5, 2) := by decide +kernel
theorem fl58_55 : am_fld 58 55 = some (5, 1) := by decide +kernel
theorem fl58_45 : am_fld 58 45 = some (5, 0) := by decide +kernel
theorem fl58_58 : am_fld 58 58 = some (5, 7) := by decide +kernel
theorem fl58_39 : am_fld 58 39 = some (5, 13) := by decide +kernel
theorem fl58_7 : am_fld 58 7 = some (5, 3) := by decide +kernel
theorem ml58_93 : am_mth 58 93 = some 43 := by decide +kernel
theorem fl58_24 : am_fld 58 24 = some (5, 8) := by decide +kernel
theorem fl58_27 : am_fld 58 27 = some (5, 9) := by decide +kernel
theorem fl58_30 : am_fld 58 30 = some (5, 10) := by decide +kernel
theorem fl58_33 : am_fld 58 33 = some (5, 11) := by decide +kernel
theorem fl58_36 : am_fld 58 36 = some (5, 12) := by decide +kernel
theorem ml59_75 : am_mth 59 75 = some 39 := by decide +kernel
theorem ml59_65 : am_mth 59 65 = some 40 := by decide +kernel
theorem ml59_68 : am_mth 59 68 = some 41 := by decide +kernel
theorem ml60_75 : am_mth 60 75 = some 39 := by decide +kernel
theorem ml60_65 : am_mth 60 65 = some 40 := by decide +kernel
theorem ml60_68 : am_mth 60 68 = some 41 := by decide +kernel
theorem ml61_79 : am_mth 61 79 = some 34 := by decide +kernel
theorem ml61_71 : am_mth 61 71 = some 37 := by decide +kernel
theorem fl61_45 : am_fld 61 45 = some (5, 0) := by decide +kernel
theorem ml61_112 : am_mth 61 112 = some 59 := by decide +kernel
theorem fl62_116 : am_fld 62 116 = some (5, 14) := by decide +kernel
theorem fl62_45 : am_fld 62 45 = some (5, 0) := by decide +kernel
theorem fl62_42 : am_fld 62 42 = some (5, 15) := by decide +kernel
theorem fl63_45 : am_fld 63 45 = some (5, 0) := by decide +kernel
theorem fl63_116 : am_fld 63 116 = some (5, 14) := by decide +kernel
theorem fl64_119 : am_fld 64 119 = some (5, 16) := by decide +kernel
theorem fl64_116 : am_fld 64 116 = some (5, 14) := by decide +kernel
theorem fl64_42 : am_fld 64 42 = some (5, 15) := by decide +kernel
theorem ml65_122 : am_mth 65 122 = some 64 := by decide +kernel
theorem fl65_119 : am_fld 65 119 = some (5, 16) := by decide +kernel
theorem ml66_122 : am_mth 66 122 = some 64 := by decide +kernel
theorem fl66_126 : am_fld 66 126 = some (5, 17) := by decide +kernel
theorem fl66_119 : am_fld 66 119 = some (5, 16) := by decide +kernel
theorem ml67_122 : am_mth 67 122 = some 64 := by decide +kernel
theorem ml68_130 : am_mth 68 130 = some 65 := by decide +kernel
theorem ml68_133 : am_mth 68 133 = some 66 := by decide +kernel
theorem ml68_136 : am_mth 68 136 = some 67 := by decide +kernel
theorem ml69_133 : am_mth 69 133 = some 66 := by decide +kernel
theorem ml69_140 : am_mth 69 140 = some 60 := by decide +kernel
theorem ml69_112 : am_mth 69 112 = some 59 := by decide +kernel
theorem ml69_130 : am_mth 69 130 = some 65 := by decide +kernel
theorem ml70_133 : am_mth 70 133 = some 66 := by decide +kernel
theorem ml70_122 : am_mth 70 122 = some 64 := by decide +kernel
theorem fl70_126 : am_fld 70 126 = some (5, 17) := by decide +kernel
theorem fl70_119 : am_fld 70 119 = some (5, 16) := by decide +kernel
theorem ml70_143 : am_mth 70 143 = some 68 := by decide +kernel
theorem ml70_75 : am_mth 70 75 = some 39 := by decide +kernel
theorem ml70_68 : am_mth 70 68 = some 41 := by decide +kernel
theorem ml70_65 : am_mth 70 65 = some 40 := by decide +kernel
theorem ml71_133 : am_mth 71 133 = some 66 := by decide +kernel
theorem ml71_75 : am_mth 71 75 = some 39 := by decide +kernel
theorem ml71_65 : am_mth 71 65 = some 40 := by decide +kernel
theorem ml72_130 : am_mth 72 130 = some 65 := by decide +kernel
theorem ml72_146 : am_mth 72 146 = some 69 := by decide +kernel
theorem ml72_150 : am_mth 72 150 = some 70 := by decide +kernel
theorem fl72_126 : am_fld 72 126 = some (5, 17) := by decide +kernel
theorem ml72_153 : am_mth 72 153 = some 71 := by decide +kernel
theorem ml73_79 : am_mth 73 79 = some 34 := by decide +kernel
theorem ml73_71 : am_mth 73 71 = some 37 := by decide +kernel
theorem fl73_45 : am_fld 73 45 = some (5, 0) := by decide +kernel
theorem fl73_119 : am_fld 73 119 = some (5, 16) := by decide +kernel
theorem fl73_116 : am_fld 73 116 = some (5, 14) := by decide +kernel
theorem fl73_42 : am_fld 73 42 = some (5, 15) := by decide +kernel
theorem fl73_126 : am_fld 73 126 = some (5, 17) := by decide +kernel
theorem ml73_156 : am_mth 73 156 = some 72 := by decide +kernel
theorem fl74_45 : am_fld 74 45 = some (5, 0) := by decide +kernel
theorem fl74_55 : am_fld 74 55 = some (5, 1) := by decide +kernel
theorem fl74_48 : am_fld 74 48 = some (5, 2) := by decide +kernel
theorem fl74_58 : am_fld 74 58 = some (5, 7) := by decide +kernel
theorem fl74_7 : am_fld 74 7 = some (5, 3) := by decide +kernel
theorem ml75_79 : am_mth 75 79 = some 34 := by decide +kernel
theorem fl75_45 : am_fld 75 45 = some (5, 0) := by decide +kernel
theorem fl75_58 : am_fld 75 58 = some (5, 7) := by decide +kernel
theorem fl75_24 : am_fld 75 24 = some (5, 8) := by decide +kernel
theorem fl75_20 : am_fld 75 20 = some (5, 6) := by decide +kernel
theorem fl75_13 : am_fld 75 13 = some (5, 4) := by decide +kernel
theorem fl75_17 : am_fld 75 17 = some (5, 5) := by decide +kernel
theorem fl76_25 : am_fld 76 25 = some (0, 4) := by decide +kernel
theorem fl76_9 : am_fld 76 9 = some (0, 0) := by decide +kernel
theorem fl76_15 : am_fld 76 15 = some (0, 1) := by decide +kernel
theorem fl76_18 : am_fld 76 18 = some (0, 2) := by decide +kernel
theorem fl77_25 : am_fld 77 25 = some (0, 4) := by decide +kernel
theorem fl77_18 : am_fld 77 18 = some (0, 2) := by decide +kernel
theorem fl78_15 : am_fld 78 15 = some (0, 1) := by decide +kernel
theorem fl78_9 : am_fld 78 9 = some (0, 0) := by decide +kernel
theorem fl79_22 : am_fld 79 22 = some (0, 3) := by decide +kernel
theorem ml79_38 : am_mth 79 38 = some 129 := by decide +kernel
theorem fl79_9 : am_fld 79 9 = some (0, 0) := by decide +kernel
theorem fl79_15 : am_fld 79 15 = some (0, 1) := by decide +kernel
theorem ml80_25 : am_mth 80 25 = some 94 := by decide +kernel
theorem fl81_15 : am_fld 81 15 = some (1, 1) := by decide +kernel
theorem ml81_25 : am_mth 81 25 = some 94 := by decide +kernel
theorem ml82_25 : am_mth 82 25 = some 94 := by decide +kernel
theorem fl82_9 : am_fld 82 9 = some (1, 0) := by decide +kernel
theorem fl82_15 : am_fld 82 15 = some (1, 1) := by decide +kernel
theorem fl83_15 : am_fld 83 15 = some (1, 1) := by decide +kernel
theorem fl84_19 : am_fld 84 19 = some (1, 2) := by decide +kernel
theorem ml84_29 : am_mth 84 29 = some 85 := by decide +kernel
theorem fl84_15 : am_fld 84 15 = some (1, 1) := by decide +kernel
theorem ml84_33 : am_mth 84 33 = some 86 := by decide +kernel
theorem fl84_22 : am_fld 84 22 = some (1, 3) := by decide +kernel
theorem ml85_37 : am_mth 85 37 = some 91 := by decide +kernel
theorem fl85_22 : am_fld 85 22 = some (1, 3) := by decide +kernel
theorem ml85_41 : am_mth 85 41 = some 30 := by decide +kernel
theorem ml86_37 : am_mth 86 37 = some 91 := by decide +kernel
theorem ml86_45 : am_mth 86 45 = some 87 := by decide +kernel
theorem ml86_49 : am_mth 86 49 = some 89 := by decide +kernel
theorem fl86_22 : am_fld 86 22 = some (1, 3) := by decide +kernel
theorem ml86_53 : am_mth 86 53 = some 101 := by decide +kernel
theorem ml87_58 : am_mth 87 58 = some 92 := by decide +kernel
theorem ml87_62 : am_mth 87 62 = some 88 := by decide +kernel
theorem fl87_22 : am_fld 87 22 = some (1, 3) := by decide +kernel
theorem fl88_22 : am_fld 88 22 = some (1, 3) := by decide +kernel
theorem ml88_66 : am_mth 88 66 = some 97 := by decide +kernel
theorem ml88_69 : am_mth 88 69 = some 98 := by decide +kernel
theorem ml89_37 : am_mth 89 37 = some 91 := by decide +kernel
theorem ml89_72 : am_mth 89 72 = some 90 := by decide +kernel
theorem ml89_58 : am_mth 89 58 = some 92 := by decide +kernel
theorem fl89_22 : am_fld 89 22 = some (1, 3) := by decide +kernel
theorem ml89_76 : am_mth 89 76 = some 100 := by decide +kernel
theorem ml90_58 : am_mth 90 58 = some 92 := by decide +kernel
theorem fl90_19 : am_fld 90 19 = some (1, 2) := by decide +kernel
theorem fl90_15 : am_fld 90 15 = some (1, 1) := by decide +kernel
theorem fl90_9 : am_fld 90 9 = some (1, 0) := by decide +kernel
theorem ml90_80 : am_mth 90 80 = some 93 := by decide +kernel
theorem fl91_19 : am_fld 91 19 = some (1, 2) := by decide +kernel
theorem fl91_15 : am_fld 91 15 = some (1, 1) := by decide +kernel
theorem fl91_9 : am_fld 91 9 = some (1, 0) := by decide +kernel
theorem fl92_19 : am_fld 92 19 = some (1, 2) := by decide +kernel
theorem fl92_15 : am_fld 92 15 = some (1, 1) := by decide +kernel
theorem fl92_9 : am_fld 92 9 = some (1, 0) := by decide +kernel
theorem fl95_9 : am_fld 95 9 = some (2, 0) := by decide +kernel
theorem ml95_21 : am_mth 95 21 = some 129 := by decide +kernel
theorem fl95_15 : am_fld 95 15 = some (2, 1) := by decide +kernel
theorem fl95_18 : am_fld 95 18 = some (2, 2) := by decide +kernel
theorem fl96_9 : am_fld 96 9 = some (2, 0) := by decide +kernel
theorem fl96_15 : am_fld 96 15 = some (2, 1) := by decide +kernel
theorem ml97_27 : am_mth 97 27 = some 104 := by decide +kernel
theorem ml97_31 : am_mth 97 31 = some 32 := by decide +kernel
theorem ml97_35 : am_mth 97 35 = some 102 := by decide +kernel
theorem ml98_31 : am_mth 98 31 = some 32 := by decide +kernel
theorem ml98_35 : am_mth 98 35 = some 102 := by decide +kernel
theorem ml99_39 : am_mth 99 39 = some 97 := by decide +kernel
theorem ml100_31 : am_mth 100 31 = some 32 := by decide +kernel
theorem ml100_27 : am_mth 100 27 = some 104 := by decide +kernel
theorem fl100_9 : am_fld 100 9 = some (2, 0) := by decide +kernel
theorem fl100_15 : am_fld 100 15 = some (2, 1) := by decide +kernel
theorem ml100_42 : am_mth 100 42 = some 103 := by decide +kernel
theorem ml101_27 : am_mth 101 27 = some 104 := by decide +kernel
theorem fl101_9 : am_fld 101 9 = some (2, 0) := by decide +kernel
theorem ml101_31 : am_mth 101 31 = some 32 := by decide +kernel
theorem fl102_9 : am_fld 102 9 = some (2, 0) := by decide +kernel
theorem fl102_15 : am_fld 102 15 = some (2, 1) := by decide +kernel
theorem fl105_9 : am_fld 105 9 = some (3, 0) := by decide +kernel
theorem fl105_31 : am_fld 105 31 = some (3, 6) := by decide +kernel
theorem fl105_15 : am_fld 105 15 = some (3, 1) := by decide +kernel
theorem fl105_18 : am_fld 105 18 = some (3, 2) := by decide +kernel
theorem fl105_21 : am_fld 105 21 = some (3, 3) := by decide +kernel
theorem fl105_24 : am_fld 105 24 = some (3, 4) := by decide +kernel
theorem fl106_31 : am_fld 106 31 = some (3, 6) := by decide +kernel
theorem fl106_9 : am_fld 106 9 = some (3, 0) := by decide +kernel
theorem ml107_35 : am_mth 107 35 = some 95 := by decide +kernel
theorem fl107_31 : am_fld 107 31 = some (3, 6) := by decide +kernel
theorem fl107_15 : am_fld 107 15 = some (3, 1) := by decide +kernel
theorem fl107_9 : am_fld 107 9 = some (3, 0) := by decide +kernel
theorem fl107_40 : am_fld 107 40 = some (2, 0) := by decide +kernel
theorem fl107_18 : am_fld 107 18 = some (3, 2) := by decide +kernel
theorem fl107_21 : am_fld 107 21 = some (3, 3) := by decide +kernel
theorem fl107_41 : am_fld 107 41 = some (2, 1) := by decide +kernel
theorem fl107_24 : am_fld 107 24 = some (3, 4) := by decide +kernel
theorem fl107_42 : am_fld 107 42 = some (2, 2) := by decide +kernel
theorem fl108_31 : am_fld 108 31 = some (3, 6) := by decide +kernel
theorem fl108_27 : am_fld 108 27 = some (3, 5) := by decide +kernel
theorem fl109_31 : am_fld 109 31 = some (3, 6) := by decide +kernel
theorem fl109_15 : am_fld 109 15 = some (3, 1) := by decide +kernel
theorem fl109_42 : am_fld 109 42 = some (2, 2) := by decide +kernel
theorem fl109_18 : am_fld 109 18 = some (3, 2) := by decide +kernel
theorem fl109_27 : am_fld 109 27 = some (3, 5) := by decide +kernel
theorem fl110_31 : am_fld 110 31 = some (3, 6) := by decide +kernel
theorem fl110_9 : am_fld 110 9 = some (3, 0) := by decide +kernel
theorem fl110_15 : am_fld 110 15 = some (3, 1) := by decide +kernel
theorem fl110_27 : am_fld 110 27 = some (3, 5) := by decide +kernel
theorem fl111_31 : am_fld 111 31 = some (3, 6) := by decide +kernel
theorem fl111_27 : am_fld 111 27 = some (3, 5) := by decide +kernel
theorem fl111_18 : am_fld 111 18 = some (3, 2) := by decide +kernel
theorem fl111_15 : am_fld 111 15 = some (3, 1) := by decide +kernel
theorem fl112_31 : am_fld 112 31 = some (3, 6) := by decide +kernel
theorem fl112_27 : am_fld 112 27 = some (3, 5) := by decide +kernel
theorem ml112_43 : am_mth 112 43 = some 113 := by decide +kernel
theorem fl113_9 : am_fld 113 9 = some (3, 0) := by decide +kernel
theorem fl113_15 : am_fld 113 15 = some (3, 1) := by decide +kernel
theorem fl113_18 : am_fld 113 18 = some (3, 2) := by decide +kernel
theorem fl113_21 : am_fld 113 21 = some (3, 3) := by decide +kernel
theorem fl113_24 : am_fld 113 24 = some (3, 4) := by decide +kernel
theorem ml114_7 : am_mth 114 7 = some 0 := by decide +kernel
theorem ml115_19 : am_mth 115 19 = some 1 := by decide +kernel
theorem ml116_23 : am_mth 116 23 = some 2 := by decide +kernel
theorem ml117_29 : am_mth 117 29 = some 3 := by decide +kernel
theorem ml118_32 : am_mth 118 32 = some 4 := by decide +kernel
theorem ml119_36 : am_mth 119 36 = some 5 := by decide +kernel
theorem ml120_40 : am_mth 120 40 = some 6 := by decide +kernel
theorem ml121_43 : am_mth 121 43 = some 7 := by decide +kernel
theorem ml122_46 : am_mth 122 46 = some 8 := by decide +kernel
theorem ml123_50 : am_mth 123 50 = some 9 := by decide +kernel
theorem ml124_53 : am_mth 124 53 = some 10 := by decide +kernel
theorem ml125_56 : am_mth 125 56 = some 12 := by decide +kernel
theorem ml126_59 : am_mth 126 59 = some 13 := by decide +kernel
theorem ml127_62 : am_mth 127 62 = some 14 := by decide +kernel
theorem ml128_69 : am_mth 128 69 = some 114 := by decide +kernel
theorem ml128_74 : am_mth 128 74 = some 44 := by decide +kernel
theorem ml128_75 : am_mth 128 75 = some 33 := by decide +kernel
theorem ml128_79 : am_mth 128 79 = some 115 := by decide +kernel
theorem ml128_82 : am_mth 128 82 = some 46 := by decide +kernel
theorem ml128_83 : am_mth 128 83 = some 116 := by decide +kernel
theorem ml128_86 : am_mth 128 86 = some 48 := by decide +kernel
theorem ml128_87 : am_mth 128 87 = some 117 := by decide +kernel
theorem ml128_89 : am_mth 128 89 = some 49 := by decide +kernel
theorem ml128_90 : am_mth 128 90 = some 118 := by decide +kernel
theorem ml128_93 : am_mth 128 93 = some 50 := by decide +kernel
theorem ml128_94 : am_mth 128 94 = some 119 := by decide +kernel
theorem ml128_97 : am_mth 128 97 = some 51 := by decide +kernel
theorem ml128_98 : am_mth 128 98 = some 120 := by decide +kernel
theorem ml128_100 : am_mth 128 100 = some 55 := by decide +kernel
theorem ml128_101 : am_mth 128 101 = some 121 := by decide +kernel
theorem ml128_103 : am_mth 128 103 = some 57 := by decide +kernel
theorem ml128_104 : am_mth 128 104 = some 122 := by decide +kernel
theorem ml128_107 : am_mth 128 107 = some 58 := by decide +kernel
theorem ml128_108 : am_mth 128 108 = some 123 := by decide +kernel
theorem ml128_110 : am_mth 128 110 = some 61 := by decide +kernel
theorem ml128_111 : am_mth 128 111 = some 124 := by decide +kernel
theorem ml128_113 : am_mth 128 113 = some 62 := by decide +kernel
theorem ml128_114 : am_mth 128 114 = some 11 := by decide +kernel
theorem ml128_117 : am_mth 128 117 = some 63 := by decide +kernel
theorem ml128_118 : am_mth 128 118 = some 125 := by decide +kernel
theorem ml128_120 : am_mth 128 120 = some 73 := by decide +kernel
theorem ml128_121 : am_mth 128 121 = some 126 := by decide +kernel
theorem ml128_123 : am_mth 128 123 = some 74 := by decide +kernel
theorem ml128_124 : am_mth 128 124 = some 127 := by decide +kernel
theorem ml128_126 : am_mth 128 126 = some 75 := by decide +kernel
theorem sh_0 : am_sh 0 = some (.inr (4, [some 1, some 6, some 13, some 17, some 21, some 25, none, none])) := rfl
theorem sh_1 : am_sh 1 = some (.inr (0, [some 2, some 3, some 4, some 5, none])) := rfl
theorem sh_2 : am_sh 2 = some (.inl (.int, 6)) := rfl
theorem sh_3 : am_sh 3 = some (.inl (.int, 6)) := rfl
theorem sh_4 : am_sh 4 = some (.inl (.boolean, 6)) := rfl
theorem sh_5 : am_sh 5 = some (.inl (.int, 6)) := rfl
theorem sh_6 : am_sh 6 = some (.inr (3, [some 7, some 8, some 9, some 10, some 11, some 12, none])) := rfl
theorem sh_7 : am_sh 7 = some (.inl (.int, 120)) := rfl
theorem sh_8 : am_sh 8 = some (.inl (.int, 120)) := rfl
theorem sh_9 : am_sh 9 = some (.inl (.int, 120)) := rfl
theorem sh_10 : am_sh 10 = some (.inl (.int, 120)) := rfl
theorem sh_11 : am_sh 11 = some (.inl (.int, 120)) := rfl
theorem sh_12 : am_sh 12 = some (.inl (.boolean, 120)) := rfl
theorem sh_13 : am_sh 13 = some (.inr (2, [some 14, some 15, some 16])) := rfl
theorem sh_14 : am_sh 14 = some (.inl (.int, 48)) := rfl
theorem sh_15 : am_sh 15 = some (.inl (.int, 48)) := rfl
theorem sh_16 : am_sh 16 = some (.inl (.int, 48)) := rfl
theorem sh_17 : am_sh 17 = some (.inr (2, [some 18, some 19, some 20])) := rfl
theorem sh_18 : am_sh 18 = some (.inl (.int, 48)) := rfl
theorem sh_19 : am_sh 19 = some (.inl (.int, 48)) := rfl
theorem sh_20 : am_sh 20 = some (.inl (.int, 48)) := rfl
theorem sh_21 : am_sh 21 = some (.inr (2, [some 22, some 23, some 24])) := rfl
theorem sh_22 : am_sh 22 = some (.inl (.int, 48)) := rfl
theorem sh_23 : am_sh 23 = some (.inl (.int, 48)) := rfl
theorem sh_24 : am_sh 24 = some (.inl (.int, 48)) := rfl
theorem sh_25 : am_sh 25 = some (.inr (1, [some 26, none, none, none])) := rfl
theorem sh_26 : am_sh 26 = some (.inl (.char, 32)) := rfl
theorem sh_27 : am_sh 27 = some (.inr (5, [none, none, none, none, some 28, some 29, some 30, none, some 31, some 32, some 33, some 34, some 35, some 36, none, some 37, none, none])) := rfl
theorem sh_28 : am_sh 28 = some (.inl (.int, 6)) := rfl
theorem sh_29 : am_sh 29 = some (.inl (.int, 6)) := rfl
theorem sh_30 : am_sh 30 = some (.inl (.boolean, 6)) := rfl
theorem sh_31 : am_sh 31 = some (.inl (.int, 120)) := rfl
theorem sh_32 : am_sh 32 = some (.inl (.int, 120)) := rfl
theorem sh_33 : am_sh 33 = some (.inl (.int, 120)) := rfl
theorem sh_34 : am_sh 34 = some (.inl (.int, 120)) := rfl
theorem sh_35 : am_sh 35 = some (.inl (.int, 120)) := rfl
theorem sh_36 : am_sh 36 = some (.inl (.boolean, 120)) := rfl
theorem sh_37 : am_sh 37 = some (.inl (.int, 32)) := rfl
theorem sh_38 : am_sh 38 = some (.inl (.long, 1)) := rfl
