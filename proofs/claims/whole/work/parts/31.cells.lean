theorem rf_0_0 : rf 0 0 = 1 := by decide
theorem rf_0_1 : rf 0 1 = 2 := by decide
theorem rf_0_2 : rf 0 2 = 3 := by decide
theorem rf_0_4 : rf 0 4 = 4 := by decide
theorem rf_0_6 : rf 0 6 = 5 := by decide
theorem rf_0_7 : rf 0 7 = 6 := by decide
theorem rf_0_17 : rf 0 17 = 7 := by decide
theorem rf_0_18 : rf 0 18 = 8 := by decide
theorem rf_0_19 : rf 0 19 = 9 := by decide
theorem rf_0_20 : rf 0 20 = 10 := by decide
theorem rf_0_21 : rf 0 21 = 11 := by decide
theorem rf_0_22 : rf 0 22 = 12 := by decide
theorem rf_0_23 : rf 0 23 = 13 := by decide
theorem rf_0_24 : rf 0 24 = 14 := by decide
theorem rf_0_25 : rf 0 25 = 15 := by decide
theorem rf_0_26 : rf 0 26 = 16 := by decide
theorem rf_0_27 : rf 0 27 = 17 := by decide
theorem rf_0_28 : rf 0 28 = 18 := by decide
theorem rf_0_29 : rf 0 29 = 19 := by decide
theorem rf_0_30 : rf 0 30 = 20 := by decide
theorem rf_0_31 : rf 0 31 = 21 := by decide
theorem rf_0_32 : rf 0 32 = 22 := by decide
theorem len_1 : len 1 = 912 := by decide
theorem len_2 : len 2 = 912 := by decide
theorem len_3 : len 3 = 912 := by decide
theorem len_4 : len 4 = 300 := by decide
theorem len_5 : len 5 = 8 := by decide
theorem len_6 : len 6 = 8 := by decide
theorem len_7 : len 7 = 40 := by decide
theorem len_8 : len 8 = 120 := by decide
theorem len_9 : len 9 = 120 := by decide
theorem len_10 : len 10 = 16 := by decide
theorem len_11 : len 11 = 16 := by decide
theorem len_12 : len 12 = 16 := by decide
theorem len_13 : len 13 = 16 := by decide
theorem len_14 : len 14 = 144 := by decide
theorem len_15 : len 15 = 8 := by decide
theorem len_16 : len 16 = 4 := by decide
theorem len_17 : len 17 = 4 := by decide
theorem len_18 : len 18 = 160 := by decide
theorem len_19 : len 19 = 4 := by decide
theorem len_20 : len 20 = 4 := by decide
theorem len_21 : len 21 = 4 := by decide
theorem len_22 : len 22 = 30 := by decide
theorem rf_23_0 : rf 23 0 = 49 := by decide
theorem rf_23_1 : rf 23 1 = 143 := by decide
theorem rf_23_2 : rf 23 2 = 237 := by decide
theorem rf_23_4 : rf 23 4 = 24 := by decide
theorem rf_23_5 : rf 23 5 = 35 := by decide
theorem rf_23_6 : rf 23 6 = 37 := by decide
theorem rf_23_7 : rf 23 7 = 38 := by decide
theorem rf_23_11 : rf 23 11 = 39 := by decide
theorem rf_23_12 : rf 23 12 = 40 := by decide
theorem rf_23_13 : rf 23 13 = 41 := by decide
theorem rf_23_14 : rf 23 14 = 46 := by decide
theorem rf_23_15 : rf 23 15 = 47 := by decide
theorem rf_23_16 : rf 23 16 = 48 := by decide
theorem rf_24_0 : rf 24 0 = 25 := by decide
theorem rf_24_2 : rf 24 2 = 26 := by decide
theorem rf_24_3 : rf 24 3 = 32 := by decide
theorem rf_24_4 : rf 24 4 = 33 := by decide
theorem rf_24_5 : rf 24 5 = 34 := by decide
theorem len_25 : len 25 = 300 := by decide
theorem rf_26_1 : rf 26 1 = 27 := by decide
theorem rf_26_2 : rf 26 2 = 28 := by decide
theorem rf_26_3 : rf 26 3 = 29 := by decide
theorem rf_26_4 : rf 26 4 = 30 := by decide
theorem rf_26_6 : rf 26 6 = 31 := by decide
theorem len_27 : len 27 = 10 := by decide
theorem len_28 : len 28 = 10 := by decide
theorem len_29 : len 29 = 10 := by decide
theorem len_30 : len 30 = 10 := by decide
theorem len_31 : len 31 = 300 := by decide
theorem len_32 : len 32 = 301 := by decide
theorem len_33 : len 33 = 301 := by decide
theorem len_34 : len 34 = 301 := by decide
theorem rf_35_0 : rf 35 0 = 36 := by decide
theorem len_36 : len 36 = 30 := by decide
theorem len_37 : len 37 = 8 := by decide
theorem len_38 : len 38 = 8 := by decide
theorem len_39 : len 39 = 4 := by decide
theorem len_40 : len 40 = 4 := by decide
theorem rf_41_0 : rf 41 0 = 42 := by decide
theorem rf_41_1 : rf 41 1 = 43 := by decide
theorem rf_41_2 : rf 41 2 = 44 := by decide
theorem rf_41_3 : rf 41 3 = 45 := by decide
theorem len_41 : len 41 = 4 := by decide
theorem len_42 : len 42 = 40 := by decide
theorem len_43 : len 43 = 40 := by decide
theorem len_44 : len 44 = 40 := by decide
theorem len_45 : len 45 = 40 := by decide
theorem len_46 : len 46 = 4 := by decide
theorem len_47 : len 47 = 4 := by decide
theorem len_48 : len 48 = 4 := by decide
theorem rf_49_7 : rf 49 7 = 50 := by decide
theorem rf_49_8 : rf 49 8 = 57 := by decide
theorem rf_49_9 : rf 49 9 = 58 := by decide
theorem rf_49_10 : rf 49 10 = 59 := by decide
theorem rf_49_11 : rf 49 11 = 60 := by decide
theorem rf_49_12 : rf 49 12 = 61 := by decide
theorem rf_49_13 : rf 49 13 = 64 := by decide
theorem rf_49_14 : rf 49 14 = 71 := by decide
theorem rf_49_15 : rf 49 15 = 85 := by decide
theorem rf_49_16 : rf 49 16 = 98 := by decide
theorem rf_49_17 : rf 49 17 = 99 := by decide
theorem rf_49_18 : rf 49 18 = 100 := by decide
theorem rf_50_0 : rf 50 0 = 51 := by decide
theorem rf_50_1 : rf 50 1 = 52 := by decide
theorem rf_50_2 : rf 50 2 = 53 := by decide
theorem rf_50_3 : rf 50 3 = 54 := by decide
theorem rf_50_4 : rf 50 4 = 55 := by decide
theorem rf_50_5 : rf 50 5 = 56 := by decide
theorem len_50 : len 50 = 6 := by decide
theorem len_51 : len 51 = 6 := by decide
theorem len_52 : len 52 = 6 := by decide
theorem len_53 : len 53 = 6 := by decide
theorem len_54 : len 54 = 6 := by decide
theorem len_55 : len 55 = 6 := by decide
theorem len_56 : len 56 = 6 := by decide
theorem rf_57_0 : rf 57 0 = 101 := by decide
theorem rf_57_1 : rf 57 1 = 102 := by decide
theorem rf_57_2 : rf 57 2 = 103 := by decide
theorem rf_57_3 : rf 57 3 = 104 := by decide
theorem len_57 : len 57 = 4 := by decide
theorem rf_58_0 : rf 58 0 = 105 := by decide
theorem rf_58_1 : rf 58 1 = 106 := by decide
theorem rf_58_2 : rf 58 2 = 107 := by decide
theorem rf_58_3 : rf 58 3 = 108 := by decide
theorem len_58 : len 58 = 4 := by decide
theorem rf_59_0 : rf 59 0 = 109 := by decide
theorem rf_59_1 : rf 59 1 = 110 := by decide
theorem rf_59_2 : rf 59 2 = 111 := by decide
theorem rf_59_3 : rf 59 3 = 112 := by decide
theorem rf_59_4 : rf 59 4 = 113 := by decide
theorem rf_59_5 : rf 59 5 = 114 := by decide
theorem rf_59_6 : rf 59 6 = 115 := by decide
theorem rf_59_7 : rf 59 7 = 116 := by decide
theorem rf_59_8 : rf 59 8 = 117 := by decide
theorem rf_59_9 : rf 59 9 = 118 := by decide
theorem rf_59_10 : rf 59 10 = 119 := by decide
theorem rf_59_11 : rf 59 11 = 120 := by decide
theorem rf_59_12 : rf 59 12 = 121 := by decide
theorem rf_59_13 : rf 59 13 = 122 := by decide
theorem rf_59_14 : rf 59 14 = 123 := by decide
theorem rf_59_15 : rf 59 15 = 124 := by decide
theorem len_59 : len 59 = 16 := by decide
theorem rf_60_0 : rf 60 0 = 125 := by decide
theorem rf_60_1 : rf 60 1 = 131 := by decide
theorem rf_60_2 : rf 60 2 = 137 := by decide
theorem len_60 : len 60 = 3 := by decide
theorem rf_61_3 : rf 61 3 = 62 := by decide
theorem rf_61_4 : rf 61 4 = 63 := by decide
theorem len_62 : len 62 = 6 := by decide
theorem len_63 : len 63 = 6 := by decide
theorem rf_64_1 : rf 64 1 = 65 := by decide
theorem rf_64_2 : rf 64 2 = 66 := by decide
theorem rf_64_3 : rf 64 3 = 67 := by decide
theorem rf_64_5 : rf 64 5 = 68 := by decide
theorem rf_64_6 : rf 64 6 = 69 := by decide
theorem rf_64_7 : rf 64 7 = 70 := by decide
theorem len_65 : len 65 = 12 := by decide
theorem len_66 : len 66 = 12 := by decide
theorem len_67 : len 67 = 12 := by decide
theorem len_68 : len 68 = 12 := by decide
theorem len_69 : len 69 = 12 := by decide
theorem len_70 : len 70 = 12 := by decide
theorem rf_71_3 : rf 71 3 = 72 := by decide
theorem rf_71_4 : rf 71 4 = 73 := by decide
theorem rf_71_5 : rf 71 5 = 74 := by decide
theorem rf_71_6 : rf 71 6 = 75 := by decide
theorem len_72 : len 72 = 4 := by decide
theorem len_73 : len 73 = 8 := by decide
theorem len_74 : len 74 = 8 := by decide
theorem rf_75_0 : rf 75 0 = 76 := by decide
theorem rf_75_1 : rf 75 1 = 77 := by decide
theorem rf_75_2 : rf 75 2 = 78 := by decide
theorem rf_75_3 : rf 75 3 = 79 := by decide
theorem rf_75_4 : rf 75 4 = 80 := by decide
theorem rf_75_5 : rf 75 5 = 81 := by decide
theorem rf_75_6 : rf 75 6 = 82 := by decide
theorem rf_75_7 : rf 75 7 = 83 := by decide
theorem rf_75_8 : rf 75 8 = 84 := by decide
theorem len_75 : len 75 = 9 := by decide
theorem len_76 : len 76 = 16 := by decide
theorem len_77 : len 77 = 16 := by decide
theorem len_78 : len 78 = 16 := by decide
theorem len_79 : len 79 = 16 := by decide
theorem len_80 : len 80 = 16 := by decide
theorem len_81 : len 81 = 16 := by decide
theorem len_82 : len 82 = 16 := by decide
theorem len_83 : len 83 = 16 := by decide
theorem len_84 : len 84 = 16 := by decide
theorem rf_85_1 : rf 85 1 = 86 := by decide
theorem rf_85_2 : rf 85 2 = 87 := by decide
theorem rf_85_5 : rf 85 5 = 97 := by decide
theorem len_86 : len 86 = 9 := by decide
theorem rf_87_0 : rf 87 0 = 88 := by decide
theorem rf_87_1 : rf 87 1 = 89 := by decide
theorem rf_87_2 : rf 87 2 = 90 := by decide
theorem rf_87_3 : rf 87 3 = 91 := by decide
theorem rf_87_4 : rf 87 4 = 92 := by decide
theorem rf_87_5 : rf 87 5 = 93 := by decide
theorem rf_87_6 : rf 87 6 = 94 := by decide
theorem rf_87_7 : rf 87 7 = 95 := by decide
theorem rf_87_8 : rf 87 8 = 96 := by decide
theorem len_87 : len 87 = 9 := by decide
theorem len_88 : len 88 = 4 := by decide
theorem len_89 : len 89 = 4 := by decide
theorem len_90 : len 90 = 4 := by decide
theorem len_91 : len 91 = 4 := by decide
theorem len_92 : len 92 = 4 := by decide
theorem len_93 : len 93 = 4 := by decide
theorem len_94 : len 94 = 4 := by decide
theorem len_95 : len 95 = 4 := by decide
theorem len_96 : len 96 = 4 := by decide
theorem len_97 : len 97 = 4 := by decide
theorem len_98 : len 98 = 16 := by decide
theorem len_99 : len 99 = 16 := by decide
theorem len_100 : len 100 = 16 := by decide
theorem rf_125_1 : rf 125 1 = 126 := by decide
theorem rf_125_2 : rf 125 2 = 127 := by decide
theorem rf_125_3 : rf 125 3 = 128 := by decide
theorem rf_125_4 : rf 125 4 = 129 := by decide
theorem rf_125_6 : rf 125 6 = 130 := by decide
theorem len_126 : len 126 = 10 := by decide
theorem len_127 : len 127 = 10 := by decide
theorem len_128 : len 128 = 10 := by decide
theorem len_129 : len 129 = 10 := by decide
theorem len_130 : len 130 = 300 := by decide
theorem rf_131_1 : rf 131 1 = 132 := by decide
theorem rf_131_2 : rf 131 2 = 133 := by decide
theorem rf_131_3 : rf 131 3 = 134 := by decide
theorem rf_131_4 : rf 131 4 = 135 := by decide
theorem rf_131_6 : rf 131 6 = 136 := by decide
theorem len_132 : len 132 = 10 := by decide
theorem len_133 : len 133 = 10 := by decide
theorem len_134 : len 134 = 10 := by decide
theorem len_135 : len 135 = 10 := by decide
theorem len_136 : len 136 = 300 := by decide
theorem rf_137_1 : rf 137 1 = 138 := by decide
theorem rf_137_2 : rf 137 2 = 139 := by decide
theorem rf_137_3 : rf 137 3 = 140 := by decide
theorem rf_137_4 : rf 137 4 = 141 := by decide
theorem rf_137_6 : rf 137 6 = 142 := by decide
theorem len_138 : len 138 = 10 := by decide
theorem len_139 : len 139 = 10 := by decide
theorem len_140 : len 140 = 10 := by decide
theorem len_141 : len 141 = 10 := by decide
theorem len_142 : len 142 = 300 := by decide
theorem rf_143_7 : rf 143 7 = 144 := by decide
theorem rf_143_8 : rf 143 8 = 151 := by decide
theorem rf_143_9 : rf 143 9 = 152 := by decide
theorem rf_143_10 : rf 143 10 = 153 := by decide
theorem rf_143_11 : rf 143 11 = 154 := by decide
theorem rf_143_12 : rf 143 12 = 155 := by decide
theorem rf_143_13 : rf 143 13 = 158 := by decide
theorem rf_143_14 : rf 143 14 = 165 := by decide
theorem rf_143_15 : rf 143 15 = 179 := by decide
theorem rf_143_16 : rf 143 16 = 192 := by decide
theorem rf_143_17 : rf 143 17 = 193 := by decide
theorem rf_143_18 : rf 143 18 = 194 := by decide
theorem rf_144_0 : rf 144 0 = 145 := by decide
theorem rf_144_1 : rf 144 1 = 146 := by decide
theorem rf_144_2 : rf 144 2 = 147 := by decide
theorem rf_144_3 : rf 144 3 = 148 := by decide
theorem rf_144_4 : rf 144 4 = 149 := by decide
theorem rf_144_5 : rf 144 5 = 150 := by decide
theorem len_144 : len 144 = 6 := by decide
theorem len_145 : len 145 = 6 := by decide
theorem len_146 : len 146 = 6 := by decide
theorem len_147 : len 147 = 6 := by decide
theorem len_148 : len 148 = 6 := by decide
theorem len_149 : len 149 = 6 := by decide
theorem len_150 : len 150 = 6 := by decide
theorem rf_151_0 : rf 151 0 = 195 := by decide
theorem rf_151_1 : rf 151 1 = 196 := by decide
theorem rf_151_2 : rf 151 2 = 197 := by decide
theorem rf_151_3 : rf 151 3 = 198 := by decide
theorem len_151 : len 151 = 4 := by decide
theorem rf_152_0 : rf 152 0 = 199 := by decide
theorem rf_152_1 : rf 152 1 = 200 := by decide
theorem rf_152_2 : rf 152 2 = 201 := by decide
theorem rf_152_3 : rf 152 3 = 202 := by decide
theorem len_152 : len 152 = 4 := by decide
theorem rf_153_0 : rf 153 0 = 203 := by decide
theorem rf_153_1 : rf 153 1 = 204 := by decide
theorem rf_153_2 : rf 153 2 = 205 := by decide
theorem rf_153_3 : rf 153 3 = 206 := by decide
theorem rf_153_4 : rf 153 4 = 207 := by decide
theorem rf_153_5 : rf 153 5 = 208 := by decide
theorem rf_153_6 : rf 153 6 = 209 := by decide
theorem rf_153_7 : rf 153 7 = 210 := by decide
theorem rf_153_8 : rf 153 8 = 211 := by decide
theorem rf_153_9 : rf 153 9 = 212 := by decide
theorem rf_153_10 : rf 153 10 = 213 := by decide
theorem rf_153_11 : rf 153 11 = 214 := by decide
theorem rf_153_12 : rf 153 12 = 215 := by decide
theorem rf_153_13 : rf 153 13 = 216 := by decide
theorem rf_153_14 : rf 153 14 = 217 := by decide
theorem rf_153_15 : rf 153 15 = 218 := by decide
theorem len_153 : len 153 = 16 := by decide
theorem rf_154_0 : rf 154 0 = 219 := by decide
theorem rf_154_1 : rf 154 1 = 225 := by decide
theorem rf_154_2 : rf 154 2 = 231 := by decide
theorem len_154 : len 154 = 3 := by decide
theorem rf_155_3 : rf 155 3 = 156 := by decide
theorem rf_155_4 : rf 155 4 = 157 := by decide
theorem len_156 : len 156 = 6 := by decide
theorem len_157 : len 157 = 6 := by decide
theorem rf_158_1 : rf 158 1 = 159 := by decide
theorem rf_158_2 : rf 158 2 = 160 := by decide
theorem rf_158_3 : rf 158 3 = 161 := by decide
theorem rf_158_5 : rf 158 5 = 162 := by decide
theorem rf_158_6 : rf 158 6 = 163 := by decide
theorem rf_158_7 : rf 158 7 = 164 := by decide
theorem len_159 : len 159 = 12 := by decide
theorem len_160 : len 160 = 12 := by decide
theorem len_161 : len 161 = 12 := by decide
theorem len_162 : len 162 = 12 := by decide
theorem len_163 : len 163 = 12 := by decide
theorem len_164 : len 164 = 12 := by decide
theorem rf_165_3 : rf 165 3 = 166 := by decide
theorem rf_165_4 : rf 165 4 = 167 := by decide
theorem rf_165_5 : rf 165 5 = 168 := by decide
theorem rf_165_6 : rf 165 6 = 169 := by decide
theorem len_166 : len 166 = 4 := by decide
theorem len_167 : len 167 = 8 := by decide
theorem len_168 : len 168 = 8 := by decide
theorem rf_169_0 : rf 169 0 = 170 := by decide
theorem rf_169_1 : rf 169 1 = 171 := by decide
theorem rf_169_2 : rf 169 2 = 172 := by decide
theorem rf_169_3 : rf 169 3 = 173 := by decide
theorem rf_169_4 : rf 169 4 = 174 := by decide
theorem rf_169_5 : rf 169 5 = 175 := by decide
theorem rf_169_6 : rf 169 6 = 176 := by decide
theorem rf_169_7 : rf 169 7 = 177 := by decide
theorem rf_169_8 : rf 169 8 = 178 := by decide
theorem len_169 : len 169 = 9 := by decide
theorem len_170 : len 170 = 16 := by decide
theorem len_171 : len 171 = 16 := by decide
theorem len_172 : len 172 = 16 := by decide
theorem len_173 : len 173 = 16 := by decide
theorem len_174 : len 174 = 16 := by decide
theorem len_175 : len 175 = 16 := by decide
theorem len_176 : len 176 = 16 := by decide
theorem len_177 : len 177 = 16 := by decide
theorem len_178 : len 178 = 16 := by decide
theorem rf_179_1 : rf 179 1 = 180 := by decide
theorem rf_179_2 : rf 179 2 = 181 := by decide
theorem rf_179_5 : rf 179 5 = 191 := by decide
theorem len_180 : len 180 = 9 := by decide
theorem rf_181_0 : rf 181 0 = 182 := by decide
theorem rf_181_1 : rf 181 1 = 183 := by decide
theorem rf_181_2 : rf 181 2 = 184 := by decide
theorem rf_181_3 : rf 181 3 = 185 := by decide
theorem rf_181_4 : rf 181 4 = 186 := by decide
theorem rf_181_5 : rf 181 5 = 187 := by decide
theorem rf_181_6 : rf 181 6 = 188 := by decide
theorem rf_181_7 : rf 181 7 = 189 := by decide
theorem rf_181_8 : rf 181 8 = 190 := by decide
theorem len_181 : len 181 = 9 := by decide
theorem len_182 : len 182 = 4 := by decide
theorem len_183 : len 183 = 4 := by decide
theorem len_184 : len 184 = 4 := by decide
theorem len_185 : len 185 = 4 := by decide
theorem len_186 : len 186 = 4 := by decide
theorem len_187 : len 187 = 4 := by decide
theorem len_188 : len 188 = 4 := by decide
theorem len_189 : len 189 = 4 := by decide
theorem len_190 : len 190 = 4 := by decide
theorem len_191 : len 191 = 4 := by decide
theorem len_192 : len 192 = 16 := by decide
theorem len_193 : len 193 = 16 := by decide
theorem len_194 : len 194 = 16 := by decide
theorem rf_219_1 : rf 219 1 = 220 := by decide
theorem rf_219_2 : rf 219 2 = 221 := by decide
theorem rf_219_3 : rf 219 3 = 222 := by decide
theorem rf_219_4 : rf 219 4 = 223 := by decide
theorem rf_219_6 : rf 219 6 = 224 := by decide
theorem len_220 : len 220 = 10 := by decide
theorem len_221 : len 221 = 10 := by decide
theorem len_222 : len 222 = 10 := by decide
theorem len_223 : len 223 = 10 := by decide
theorem len_224 : len 224 = 300 := by decide
theorem rf_225_1 : rf 225 1 = 226 := by decide
theorem rf_225_2 : rf 225 2 = 227 := by decide
theorem rf_225_3 : rf 225 3 = 228 := by decide
theorem rf_225_4 : rf 225 4 = 229 := by decide
theorem rf_225_6 : rf 225 6 = 230 := by decide
theorem len_226 : len 226 = 10 := by decide
theorem len_227 : len 227 = 10 := by decide
theorem len_228 : len 228 = 10 := by decide
theorem len_229 : len 229 = 10 := by decide
theorem len_230 : len 230 = 300 := by decide
theorem rf_231_1 : rf 231 1 = 232 := by decide
theorem rf_231_2 : rf 231 2 = 233 := by decide
theorem rf_231_3 : rf 231 3 = 234 := by decide
theorem rf_231_4 : rf 231 4 = 235 := by decide
theorem rf_231_6 : rf 231 6 = 236 := by decide
theorem len_232 : len 232 = 10 := by decide
theorem len_233 : len 233 = 10 := by decide
theorem len_234 : len 234 = 10 := by decide
theorem len_235 : len 235 = 10 := by decide
theorem len_236 : len 236 = 300 := by decide
theorem rf_237_7 : rf 237 7 = 238 := by decide
theorem rf_237_8 : rf 237 8 = 245 := by decide
theorem rf_237_9 : rf 237 9 = 246 := by decide
theorem rf_237_10 : rf 237 10 = 247 := by decide
theorem rf_237_11 : rf 237 11 = 248 := by decide
theorem rf_237_12 : rf 237 12 = 249 := by decide
theorem rf_237_13 : rf 237 13 = 252 := by decide
theorem rf_237_14 : rf 237 14 = 259 := by decide
theorem rf_237_15 : rf 237 15 = 273 := by decide
theorem rf_237_16 : rf 237 16 = 286 := by decide
theorem rf_237_17 : rf 237 17 = 287 := by decide
theorem rf_237_18 : rf 237 18 = 288 := by decide
theorem rf_238_0 : rf 238 0 = 239 := by decide
theorem rf_238_1 : rf 238 1 = 240 := by decide
theorem rf_238_2 : rf 238 2 = 241 := by decide
theorem rf_238_3 : rf 238 3 = 242 := by decide
theorem rf_238_4 : rf 238 4 = 243 := by decide
theorem rf_238_5 : rf 238 5 = 244 := by decide
theorem len_238 : len 238 = 6 := by decide
theorem len_239 : len 239 = 6 := by decide
theorem len_240 : len 240 = 6 := by decide
theorem len_241 : len 241 = 6 := by decide
theorem len_242 : len 242 = 6 := by decide
theorem len_243 : len 243 = 6 := by decide
theorem len_244 : len 244 = 6 := by decide
theorem rf_245_0 : rf 245 0 = 289 := by decide
theorem rf_245_1 : rf 245 1 = 290 := by decide
theorem rf_245_2 : rf 245 2 = 291 := by decide
theorem rf_245_3 : rf 245 3 = 292 := by decide
theorem len_245 : len 245 = 4 := by decide
theorem rf_246_0 : rf 246 0 = 293 := by decide
theorem rf_246_1 : rf 246 1 = 294 := by decide
theorem rf_246_2 : rf 246 2 = 295 := by decide
theorem rf_246_3 : rf 246 3 = 296 := by decide
theorem len_246 : len 246 = 4 := by decide
theorem rf_247_0 : rf 247 0 = 297 := by decide
theorem rf_247_1 : rf 247 1 = 298 := by decide
theorem rf_247_2 : rf 247 2 = 299 := by decide
theorem rf_247_3 : rf 247 3 = 300 := by decide
theorem rf_247_4 : rf 247 4 = 301 := by decide
theorem rf_247_5 : rf 247 5 = 302 := by decide
theorem rf_247_6 : rf 247 6 = 303 := by decide
theorem rf_247_7 : rf 247 7 = 304 := by decide
theorem rf_247_8 : rf 247 8 = 305 := by decide
theorem rf_247_9 : rf 247 9 = 306 := by decide
theorem rf_247_10 : rf 247 10 = 307 := by decide
theorem rf_247_11 : rf 247 11 = 308 := by decide
theorem rf_247_12 : rf 247 12 = 309 := by decide
theorem rf_247_13 : rf 247 13 = 310 := by decide
theorem rf_247_14 : rf 247 14 = 311 := by decide
theorem rf_247_15 : rf 247 15 = 312 := by decide
theorem len_247 : len 247 = 16 := by decide
theorem rf_248_0 : rf 248 0 = 313 := by decide
theorem rf_248_1 : rf 248 1 = 319 := by decide
theorem rf_248_2 : rf 248 2 = 325 := by decide
theorem len_248 : len 248 = 3 := by decide
theorem rf_249_3 : rf 249 3 = 250 := by decide
theorem rf_249_4 : rf 249 4 = 251 := by decide
theorem len_250 : len 250 = 6 := by decide
theorem len_251 : len 251 = 6 := by decide
theorem rf_252_1 : rf 252 1 = 253 := by decide
theorem rf_252_2 : rf 252 2 = 254 := by decide
theorem rf_252_3 : rf 252 3 = 255 := by decide
theorem rf_252_5 : rf 252 5 = 256 := by decide
theorem rf_252_6 : rf 252 6 = 257 := by decide
theorem rf_252_7 : rf 252 7 = 258 := by decide
theorem len_253 : len 253 = 12 := by decide
theorem len_254 : len 254 = 12 := by decide
theorem len_255 : len 255 = 12 := by decide
theorem len_256 : len 256 = 12 := by decide
theorem len_257 : len 257 = 12 := by decide
theorem len_258 : len 258 = 12 := by decide
theorem rf_259_3 : rf 259 3 = 260 := by decide
theorem rf_259_4 : rf 259 4 = 261 := by decide
theorem rf_259_5 : rf 259 5 = 262 := by decide
theorem rf_259_6 : rf 259 6 = 263 := by decide
theorem len_260 : len 260 = 4 := by decide
theorem len_261 : len 261 = 8 := by decide
theorem len_262 : len 262 = 8 := by decide
theorem rf_263_0 : rf 263 0 = 264 := by decide
theorem rf_263_1 : rf 263 1 = 265 := by decide
theorem rf_263_2 : rf 263 2 = 266 := by decide
theorem rf_263_3 : rf 263 3 = 267 := by decide
theorem rf_263_4 : rf 263 4 = 268 := by decide
theorem rf_263_5 : rf 263 5 = 269 := by decide
theorem rf_263_6 : rf 263 6 = 270 := by decide
theorem rf_263_7 : rf 263 7 = 271 := by decide
theorem rf_263_8 : rf 263 8 = 272 := by decide
theorem len_263 : len 263 = 9 := by decide
theorem len_264 : len 264 = 16 := by decide
theorem len_265 : len 265 = 16 := by decide
theorem len_266 : len 266 = 16 := by decide
theorem len_267 : len 267 = 16 := by decide
theorem len_268 : len 268 = 16 := by decide
theorem len_269 : len 269 = 16 := by decide
theorem len_270 : len 270 = 16 := by decide
theorem len_271 : len 271 = 16 := by decide
theorem len_272 : len 272 = 16 := by decide
theorem rf_273_1 : rf 273 1 = 274 := by decide
theorem rf_273_2 : rf 273 2 = 275 := by decide
theorem rf_273_5 : rf 273 5 = 285 := by decide
theorem len_274 : len 274 = 9 := by decide
theorem rf_275_0 : rf 275 0 = 276 := by decide
theorem rf_275_1 : rf 275 1 = 277 := by decide
theorem rf_275_2 : rf 275 2 = 278 := by decide
theorem rf_275_3 : rf 275 3 = 279 := by decide
theorem rf_275_4 : rf 275 4 = 280 := by decide
theorem rf_275_5 : rf 275 5 = 281 := by decide
theorem rf_275_6 : rf 275 6 = 282 := by decide
theorem rf_275_7 : rf 275 7 = 283 := by decide
theorem rf_275_8 : rf 275 8 = 284 := by decide
theorem len_275 : len 275 = 9 := by decide
theorem len_276 : len 276 = 4 := by decide
theorem len_277 : len 277 = 4 := by decide
theorem len_278 : len 278 = 4 := by decide
theorem len_279 : len 279 = 4 := by decide
theorem len_280 : len 280 = 4 := by decide
theorem len_281 : len 281 = 4 := by decide
theorem len_282 : len 282 = 4 := by decide
theorem len_283 : len 283 = 4 := by decide
theorem len_284 : len 284 = 4 := by decide
theorem len_285 : len 285 = 4 := by decide
theorem len_286 : len 286 = 16 := by decide
theorem len_287 : len 287 = 16 := by decide
theorem len_288 : len 288 = 16 := by decide
theorem rf_313_1 : rf 313 1 = 314 := by decide
theorem rf_313_2 : rf 313 2 = 315 := by decide
theorem rf_313_3 : rf 313 3 = 316 := by decide
theorem rf_313_4 : rf 313 4 = 317 := by decide
theorem rf_313_6 : rf 313 6 = 318 := by decide
theorem len_314 : len 314 = 10 := by decide
theorem len_315 : len 315 = 10 := by decide
theorem len_316 : len 316 = 10 := by decide
theorem len_317 : len 317 = 10 := by decide
theorem len_318 : len 318 = 300 := by decide
theorem rf_319_1 : rf 319 1 = 320 := by decide
theorem rf_319_2 : rf 319 2 = 321 := by decide
theorem rf_319_3 : rf 319 3 = 322 := by decide
theorem rf_319_4 : rf 319 4 = 323 := by decide
theorem rf_319_6 : rf 319 6 = 324 := by decide
theorem len_320 : len 320 = 10 := by decide
theorem len_321 : len 321 = 10 := by decide
theorem len_322 : len 322 = 10 := by decide
theorem len_323 : len 323 = 10 := by decide
theorem len_324 : len 324 = 300 := by decide
theorem rf_325_1 : rf 325 1 = 326 := by decide
theorem rf_325_2 : rf 325 2 = 327 := by decide
theorem rf_325_3 : rf 325 3 = 328 := by decide
theorem rf_325_4 : rf 325 4 = 329 := by decide
theorem rf_325_6 : rf 325 6 = 330 := by decide
theorem len_326 : len 326 = 10 := by decide
theorem len_327 : len 327 = 10 := by decide
theorem len_328 : len 328 = 10 := by decide
theorem len_329 : len 329 = 10 := by decide
theorem len_330 : len 330 = 300 := by decide
theorem pf_eq (μ : mm) (a k : Nat) (v : Int32) : pf μ a k v = some (up μ a k v) := rfl
