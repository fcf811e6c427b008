theorem dX0_init_0 : decode cX0_init 0 = .ok (.aload_n 0, 1) := by decide +kernel
theorem dX0_init_1 : decode cX0_init 1 = .ok (.invokespecial 3, 3) := by decide +kernel
theorem dX0_init_4 : decode cX0_init 4 = .ok (.aload_n 0, 1) := by decide +kernel
theorem dX0_init_5 : decode cX0_init 5 = .ok (.iconst (-1), 1) := by decide +kernel
theorem dX0_init_6 : decode cX0_init 6 = .ok (.putfield 9, 3) := by decide +kernel
theorem dX0_init_9 : decode cX0_init 9 = .ok (.return_, 1) := by decide +kernel
theorem dX0_take_0 : decode cX0_take 0 = .ok (.aload_n 0, 1) := by decide +kernel
theorem dX0_take_1 : decode cX0_take 1 = .ok (.iload_n 1, 1) := by decide +kernel
theorem dX0_take_2 : decode cX0_take 2 = .ok (.putfield 15, 3) := by decide +kernel
theorem dX0_take_5 : decode cX0_take 5 = .ok (.aload_n 0, 1) := by decide +kernel
theorem dX0_take_6 : decode cX0_take 6 = .ok (.iload_n 2, 1) := by decide +kernel
theorem dX0_take_7 : decode cX0_take 7 = .ok (.putfield 18, 3) := by decide +kernel
theorem dX0_take_10 : decode cX0_take 10 = .ok (.aload_n 0, 1) := by decide +kernel
theorem dX0_take_11 : decode cX0_take 11 = .ok (.iload_n 3, 1) := by decide +kernel
theorem dX0_take_12 : decode cX0_take 12 = .ok (.putfield 21, 3) := by decide +kernel
theorem dX0_take_15 : decode cX0_take 15 = .ok (.aload_n 0, 1) := by decide +kernel
theorem dX0_take_16 : decode cX0_take 16 = .ok (.iload 4, 2) := by decide +kernel
theorem dX0_take_18 : decode cX0_take 18 = .ok (.putfield 24, 3) := by decide +kernel
theorem dX0_take_21 : decode cX0_take 21 = .ok (.aload_n 0, 1) := by decide +kernel
theorem dX0_take_22 : decode cX0_take 22 = .ok (.iload 5, 2) := by decide +kernel
theorem dX0_take_24 : decode cX0_take 24 = .ok (.putfield 27, 3) := by decide +kernel
theorem dX0_take_27 : decode cX0_take 27 = .ok (.aload_n 0, 1) := by decide +kernel
theorem dX0_take_28 : decode cX0_take 28 = .ok (.iload 6, 2) := by decide +kernel
theorem dX0_take_30 : decode cX0_take 30 = .ok (.putfield 9, 3) := by decide +kernel
theorem dX0_take_33 : decode cX0_take 33 = .ok (.return_, 1) := by decide +kernel
theorem dX1_init_0 : decode cX1_init 0 = .ok (.aload_n 0, 1) := by decide +kernel
theorem dX1_init_1 : decode cX1_init 1 = .ok (.invokespecial 3, 3) := by decide +kernel
theorem dX1_init_4 : decode cX1_init 4 = .ok (.aload_n 0, 1) := by decide +kernel
theorem dX1_init_5 : decode cX1_init 5 = .ok (.iconst 0, 1) := by decide +kernel
theorem dX1_init_6 : decode cX1_init 6 = .ok (.putfield 9, 3) := by decide +kernel
theorem dX1_init_9 : decode cX1_init 9 = .ok (.aload_n 0, 1) := by decide +kernel
theorem dX1_init_10 : decode cX1_init 10 = .ok (.iconst 0, 1) := by decide +kernel
theorem dX1_init_11 : decode cX1_init 11 = .ok (.putfield 15, 3) := by decide +kernel
theorem dX1_init_14 : decode cX1_init 14 = .ok (.aload_n 0, 1) := by decide +kernel
theorem dX1_init_15 : decode cX1_init 15 = .ok (.bipush (-4), 2) := by decide +kernel
theorem dX1_init_17 : decode cX1_init 17 = .ok (.putfield 18, 3) := by decide +kernel
theorem dX1_init_20 : decode cX1_init 20 = .ok (.aload_n 0, 1) := by decide +kernel
theorem dX1_init_21 : decode cX1_init 21 = .ok (.aload_n 1, 1) := by decide +kernel
theorem dX1_init_22 : decode cX1_init 22 = .ok (.putfield 21, 3) := by decide +kernel
theorem dX1_init_25 : decode cX1_init 25 = .ok (.aload_n 0, 1) := by decide +kernel
theorem dX1_init_26 : decode cX1_init 26 = .ok (.iload_n 2, 1) := by decide +kernel
theorem dX1_init_27 : decode cX1_init 27 = .ok (.bipush 8, 2) := by decide +kernel
theorem dX1_init_29 : decode cX1_init 29 = .ok (.imul, 1) := by decide +kernel
theorem dX1_init_30 : decode cX1_init 30 = .ok (.newarray .int, 2) := by decide +kernel
theorem dX1_init_32 : decode cX1_init 32 = .ok (.putfield 25, 3) := by decide +kernel
theorem dX1_init_35 : decode cX1_init 35 = .ok (.return_, 1) := by decide +kernel
theorem dX1_begin_0 : decode cX1_begin 0 = .ok (.aload_n 0, 1) := by decide +kernel
theorem dX1_begin_1 : decode cX1_begin 1 = .ok (.iconst 0, 1) := by decide +kernel
theorem dX1_begin_2 : decode cX1_begin 2 = .ok (.putfield 28, 3) := by decide +kernel
theorem dX1_begin_5 : decode cX1_begin 5 = .ok (.aload_n 0, 1) := by decide +kernel
theorem dX1_begin_6 : decode cX1_begin 6 = .ok (.iconst 0, 1) := by decide +kernel
theorem dX1_begin_7 : decode cX1_begin 7 = .ok (.putfield 31, 3) := by decide +kernel
theorem dX1_begin_10 : decode cX1_begin 10 = .ok (.aload_n 0, 1) := by decide +kernel
theorem dX1_begin_11 : decode cX1_begin 11 = .ok (.sipush 150, 3) := by decide +kernel
theorem dX1_begin_14 : decode cX1_begin 14 = .ok (.putfield 34, 3) := by decide +kernel
theorem dX1_begin_17 : decode cX1_begin 17 = .ok (.aload_n 0, 1) := by decide +kernel
theorem dX1_begin_18 : decode cX1_begin 18 = .ok (.iconst 0, 1) := by decide +kernel
theorem dX1_begin_19 : decode cX1_begin 19 = .ok (.putfield 37, 3) := by decide +kernel
theorem dX1_begin_22 : decode cX1_begin 22 = .ok (.aload_n 0, 1) := by decide +kernel
theorem dX1_begin_23 : decode cX1_begin 23 = .ok (.bipush 100, 2) := by decide +kernel
theorem dX1_begin_25 : decode cX1_begin 25 = .ok (.aload_n 1, 1) := by decide +kernel
theorem dX1_begin_26 : decode cX1_begin 26 = .ok (.getfield 40, 3) := by decide +kernel
theorem dX1_begin_29 : decode cX1_begin 29 = .ok (.imul, 1) := by decide +kernel
theorem dX1_begin_30 : decode cX1_begin 30 = .ok (.putfield 45, 3) := by decide +kernel
theorem dX1_begin_33 : decode cX1_begin 33 = .ok (.aload_n 0, 1) := by decide +kernel
theorem dX1_begin_34 : decode cX1_begin 34 = .ok (.aload_n 1, 1) := by decide +kernel
theorem dX1_begin_35 : decode cX1_begin 35 = .ok (.getfield 48, 3) := by decide +kernel
theorem dX1_begin_38 : decode cX1_begin 38 = .ok (.putfield 51, 3) := by decide +kernel
theorem dX1_begin_41 : decode cX1_begin 41 = .ok (.aload_n 0, 1) := by decide +kernel
theorem dX1_begin_42 : decode cX1_begin 42 = .ok (.aload_n 1, 1) := by decide +kernel
theorem dX1_begin_43 : decode cX1_begin 43 = .ok (.getfield 54, 3) := by decide +kernel
theorem dX1_begin_46 : decode cX1_begin 46 = .ok (.putfield 57, 3) := by decide +kernel
theorem dX1_begin_49 : decode cX1_begin 49 = .ok (.aload_n 0, 1) := by decide +kernel
theorem dX1_begin_50 : decode cX1_begin 50 = .ok (.aload_n 1, 1) := by decide +kernel
theorem dX1_begin_51 : decode cX1_begin 51 = .ok (.getfield 58, 3) := by decide +kernel
theorem dX1_begin_54 : decode cX1_begin 54 = .ok (.putfield 61, 3) := by decide +kernel
theorem dX1_begin_57 : decode cX1_begin 57 = .ok (.aload_n 0, 1) := by decide +kernel
theorem dX1_begin_58 : decode cX1_begin 58 = .ok (.iconst 0, 1) := by decide +kernel
theorem dX1_begin_59 : decode cX1_begin 59 = .ok (.putfield 9, 3) := by decide +kernel
theorem dX1_begin_62 : decode cX1_begin 62 = .ok (.aload_n 0, 1) := by decide +kernel
theorem dX1_begin_63 : decode cX1_begin 63 = .ok (.iconst 0, 1) := by decide +kernel
theorem dX1_begin_64 : decode cX1_begin 64 = .ok (.putfield 15, 3) := by decide +kernel
theorem dX1_begin_67 : decode cX1_begin 67 = .ok (.aload_n 0, 1) := by decide +kernel
theorem dX1_begin_68 : decode cX1_begin 68 = .ok (.bipush (-4), 2) := by decide +kernel
theorem dX1_begin_70 : decode cX1_begin 70 = .ok (.putfield 18, 3) := by decide +kernel
theorem dX1_begin_73 : decode cX1_begin 73 = .ok (.aload_n 0, 1) := by decide +kernel
theorem dX1_begin_74 : decode cX1_begin 74 = .ok (.invokevirtual 62, 3) := by decide +kernel
theorem dX1_begin_77 : decode cX1_begin 77 = .ok (.return_, 1) := by decide +kernel
theorem dX1_step_0 : decode cX1_step 0 = .ok (.aload_n 0, 1) := by decide +kernel
theorem dX1_step_1 : decode cX1_step 1 = .ok (.dup, 1) := by decide +kernel
theorem dX1_step_2 : decode cX1_step 2 = .ok (.getfield 9, 3) := by decide +kernel
theorem dX1_step_5 : decode cX1_step 5 = .ok (.iconst 1, 1) := by decide +kernel
theorem dX1_step_6 : decode cX1_step 6 = .ok (.iadd, 1) := by decide +kernel
theorem dX1_step_7 : decode cX1_step 7 = .ok (.putfield 9, 3) := by decide +kernel
theorem dX1_step_10 : decode cX1_step 10 = .ok (.aload_n 1, 1) := by decide +kernel
theorem dX1_step_11 : decode cX1_step 11 = .ok (.aload_n 0, 1) := by decide +kernel
theorem dX1_step_12 : decode cX1_step 12 = .ok (.getfield 51, 3) := by decide +kernel
theorem dX1_step_15 : decode cX1_step 15 = .ok (.aload_n 0, 1) := by decide +kernel
theorem dX1_step_16 : decode cX1_step 16 = .ok (.getfield 57, 3) := by decide +kernel
theorem dX1_step_19 : decode cX1_step 19 = .ok (.invokevirtual 65, 3) := by decide +kernel
theorem dX1_step_22 : decode cX1_step 22 = .ok (.aload_n 0, 1) := by decide +kernel
theorem dX1_step_23 : decode cX1_step 23 = .ok (.getfield 21, 3) := by decide +kernel
theorem dX1_step_26 : decode cX1_step 26 = .ok (.aload_n 0, 1) := by decide +kernel
theorem dX1_step_27 : decode cX1_step 27 = .ok (.getfield 61, 3) := by decide +kernel
theorem dX1_step_30 : decode cX1_step 30 = .ok (.bipush 90, 2) := by decide +kernel
theorem dX1_step_32 : decode cX1_step 32 = .ok (.iadd, 1) := by decide +kernel
theorem dX1_step_33 : decode cX1_step 33 = .ok (.iaload, 1) := by decide +kernel
theorem dX1_step_34 : decode cX1_step 34 = .ok (.imul, 1) := by decide +kernel
theorem dX1_step_35 : decode cX1_step 35 = .ok (.sipush 1000, 3) := by decide +kernel
theorem dX1_step_38 : decode cX1_step 38 = .ok (.idiv, 1) := by decide +kernel
theorem dX1_step_39 : decode cX1_step 39 = .ok (.aload_n 1, 1) := by decide +kernel
theorem dX1_step_40 : decode cX1_step 40 = .ok (.getfield 71, 3) := by decide +kernel
theorem dX1_step_43 : decode cX1_step 43 = .ok (.isub, 1) := by decide +kernel
theorem dX1_step_44 : decode cX1_step 44 = .ok (.bipush 10, 2) := by decide +kernel
theorem dX1_step_46 : decode cX1_step 46 = .ok (.idiv, 1) := by decide +kernel
theorem dX1_step_47 : decode cX1_step 47 = .ok (.istore 4, 2) := by decide +kernel
theorem dX1_step_49 : decode cX1_step 49 = .ok (.aload_n 0, 1) := by decide +kernel
theorem dX1_step_50 : decode cX1_step 50 = .ok (.bipush (-80), 2) := by decide +kernel
theorem dX1_step_52 : decode cX1_step 52 = .ok (.bipush 80, 2) := by decide +kernel
theorem dX1_step_54 : decode cX1_step 54 = .ok (.aload_n 0, 1) := by decide +kernel
theorem dX1_step_55 : decode cX1_step 55 = .ok (.getfield 37, 3) := by decide +kernel
theorem dX1_step_58 : decode cX1_step 58 = .ok (.iload 4, 2) := by decide +kernel
theorem dX1_step_60 : decode cX1_step 60 = .ok (.iadd, 1) := by decide +kernel
theorem dX1_step_61 : decode cX1_step 61 = .ok (.invokestatic 74, 3) := by decide +kernel
theorem dX1_step_64 : decode cX1_step 64 = .ok (.invokestatic 79, 3) := by decide +kernel
theorem dX1_step_67 : decode cX1_step 67 = .ok (.putfield 37, 3) := by decide +kernel
theorem dX1_step_70 : decode cX1_step 70 = .ok (.aload_n 0, 1) := by decide +kernel
theorem dX1_step_71 : decode cX1_step 71 = .ok (.dup, 1) := by decide +kernel
theorem dX1_step_72 : decode cX1_step 72 = .ok (.getfield 34, 3) := by decide +kernel
theorem dX1_step_75 : decode cX1_step 75 = .ok (.aload_n 0, 1) := by decide +kernel
theorem dX1_step_76 : decode cX1_step 76 = .ok (.getfield 37, 3) := by decide +kernel
theorem dX1_step_79 : decode cX1_step 79 = .ok (.iadd, 1) := by decide +kernel
theorem dX1_step_80 : decode cX1_step 80 = .ok (.putfield 34, 3) := by decide +kernel
theorem dX1_step_83 : decode cX1_step 83 = .ok (.aload_n 0, 1) := by decide +kernel
theorem dX1_step_84 : decode cX1_step 84 = .ok (.aload_n 0, 1) := by decide +kernel
theorem dX1_step_85 : decode cX1_step 85 = .ok (.getfield 45, 3) := by decide +kernel
theorem dX1_step_88 : decode cX1_step 88 = .ok (.aload_n 1, 1) := by decide +kernel
theorem dX1_step_89 : decode cX1_step 89 = .ok (.getfield 82, 3) := by decide +kernel
theorem dX1_step_92 : decode cX1_step 92 = .ok (.iload_n 2, 1) := by decide +kernel
theorem dX1_step_93 : decode cX1_step 93 = .ok (.iadd, 1) := by decide +kernel
theorem dX1_step_94 : decode cX1_step 94 = .ok (.aload_n 0, 1) := by decide +kernel
theorem dX1_step_95 : decode cX1_step 95 = .ok (.getfield 57, 3) := by decide +kernel
theorem dX1_step_98 : decode cX1_step 98 = .ok (.imul, 1) := by decide +kernel
theorem dX1_step_99 : decode cX1_step 99 = .ok (.aload_n 0, 1) := by decide +kernel
theorem dX1_step_100 : decode cX1_step 100 = .ok (.getfield 21, 3) := by decide +kernel
theorem dX1_step_103 : decode cX1_step 103 = .ok (.aload_n 0, 1) := by decide +kernel
theorem dX1_step_104 : decode cX1_step 104 = .ok (.getfield 61, 3) := by decide +kernel
theorem dX1_step_107 : decode cX1_step 107 = .ok (.iaload, 1) := by decide +kernel
theorem dX1_step_108 : decode cX1_step 108 = .ok (.imul, 1) := by decide +kernel
theorem dX1_step_109 : decode cX1_step 109 = .ok (.ldc 85, 2) := by decide +kernel
theorem dX1_step_111 : decode cX1_step 111 = .ok (.idiv, 1) := by decide +kernel
theorem dX1_step_112 : decode cX1_step 112 = .ok (.iadd, 1) := by decide +kernel
theorem dX1_step_113 : decode cX1_step 113 = .ok (.ldc 86, 2) := by decide +kernel
theorem dX1_step_115 : decode cX1_step 115 = .ok (.invokestatic 87, 3) := by decide +kernel
theorem dX1_step_118 : decode cX1_step 118 = .ok (.putfield 45, 3) := by decide +kernel
theorem dX1_step_121 : decode cX1_step 121 = .ok (.aload_n 0, 1) := by decide +kernel
theorem dX1_step_122 : decode cX1_step 122 = .ok (.dup, 1) := by decide +kernel
theorem dX1_step_123 : decode cX1_step 123 = .ok (.getfield 28, 3) := by decide +kernel
theorem dX1_step_126 : decode cX1_step 126 = .ok (.aload_n 0, 1) := by decide +kernel
theorem dX1_step_127 : decode cX1_step 127 = .ok (.getfield 51, 3) := by decide +kernel
theorem dX1_step_130 : decode cX1_step 130 = .ok (.aload_n 0, 1) := by decide +kernel
theorem dX1_step_131 : decode cX1_step 131 = .ok (.getfield 21, 3) := by decide +kernel
theorem dX1_step_134 : decode cX1_step 134 = .ok (.aload_n 0, 1) := by decide +kernel
theorem dX1_step_135 : decode cX1_step 135 = .ok (.getfield 45, 3) := by decide +kernel
theorem dX1_step_138 : decode cX1_step 138 = .ok (.bipush 100, 2) := by decide +kernel
theorem dX1_step_140 : decode cX1_step 140 = .ok (.idiv, 1) := by decide +kernel
theorem dX1_step_141 : decode cX1_step 141 = .ok (.iaload, 1) := by decide +kernel
theorem dX1_step_142 : decode cX1_step 142 = .ok (.imul, 1) := by decide +kernel
theorem dX1_step_143 : decode cX1_step 143 = .ok (.sipush 1000, 3) := by decide +kernel
theorem dX1_step_146 : decode cX1_step 146 = .ok (.idiv, 1) := by decide +kernel
theorem dX1_step_147 : decode cX1_step 147 = .ok (.iadd, 1) := by decide +kernel
theorem dX1_step_148 : decode cX1_step 148 = .ok (.putfield 28, 3) := by decide +kernel
theorem dX1_step_151 : decode cX1_step 151 = .ok (.aload_n 0, 1) := by decide +kernel
theorem dX1_step_152 : decode cX1_step 152 = .ok (.dup, 1) := by decide +kernel
theorem dX1_step_153 : decode cX1_step 153 = .ok (.getfield 31, 3) := by decide +kernel
theorem dX1_step_156 : decode cX1_step 156 = .ok (.aload_n 0, 1) := by decide +kernel
theorem dX1_step_157 : decode cX1_step 157 = .ok (.getfield 51, 3) := by decide +kernel
theorem dX1_step_160 : decode cX1_step 160 = .ok (.aload_n 0, 1) := by decide +kernel
theorem dX1_step_161 : decode cX1_step 161 = .ok (.getfield 21, 3) := by decide +kernel
theorem dX1_step_164 : decode cX1_step 164 = .ok (.aload_n 0, 1) := by decide +kernel
theorem dX1_step_165 : decode cX1_step 165 = .ok (.getfield 45, 3) := by decide +kernel
theorem dX1_step_168 : decode cX1_step 168 = .ok (.bipush 100, 2) := by decide +kernel
theorem dX1_step_170 : decode cX1_step 170 = .ok (.idiv, 1) := by decide +kernel
theorem dX1_step_171 : decode cX1_step 171 = .ok (.bipush 90, 2) := by decide +kernel
theorem dX1_step_173 : decode cX1_step 173 = .ok (.iadd, 1) := by decide +kernel
theorem dX1_step_174 : decode cX1_step 174 = .ok (.iaload, 1) := by decide +kernel
theorem dX1_step_175 : decode cX1_step 175 = .ok (.imul, 1) := by decide +kernel
theorem dX1_step_176 : decode cX1_step 176 = .ok (.sipush 1000, 3) := by decide +kernel
theorem dX1_step_179 : decode cX1_step 179 = .ok (.idiv, 1) := by decide +kernel
theorem dX1_step_180 : decode cX1_step 180 = .ok (.iadd, 1) := by decide +kernel
theorem dX1_step_181 : decode cX1_step 181 = .ok (.putfield 31, 3) := by decide +kernel
theorem dX1_step_184 : decode cX1_step 184 = .ok (.aload_n 0, 1) := by decide +kernel
theorem dX1_step_185 : decode cX1_step 185 = .ok (.getfield 34, 3) := by decide +kernel
theorem dX1_step_188 : decode cX1_step 188 = .ok (.invokestatic 90, 3) := by decide +kernel
theorem dX1_step_191 : decode cX1_step 191 = .ok (.istore 5, 2) := by decide +kernel
theorem dX1_step_193 : decode cX1_step 193 = .ok (.aload_n 0, 1) := by decide +kernel
theorem dX1_step_194 : decode cX1_step 194 = .ok (.dup, 1) := by decide +kernel
theorem dX1_step_195 : decode cX1_step 195 = .ok (.getfield 28, 3) := by decide +kernel
theorem dX1_step_198 : decode cX1_step 198 = .ok (.aload_n 3, 1) := by decide +kernel
theorem dX1_step_199 : decode cX1_step 199 = .ok (.getfield 96, 3) := by decide +kernel
theorem dX1_step_202 : decode cX1_step 202 = .ok (.iload 5, 2) := by decide +kernel
theorem dX1_step_204 : decode cX1_step 204 = .ok (.iaload, 1) := by decide +kernel
theorem dX1_step_205 : decode cX1_step 205 = .ok (.aload_n 0, 1) := by decide +kernel
theorem dX1_step_206 : decode cX1_step 206 = .ok (.getfield 21, 3) := by decide +kernel
theorem dX1_step_209 : decode cX1_step 209 = .ok (.aload_n 3, 1) := by decide +kernel
theorem dX1_step_210 : decode cX1_step 210 = .ok (.getfield 99, 3) := by decide +kernel
theorem dX1_step_213 : decode cX1_step 213 = .ok (.iload 5, 2) := by decide +kernel
theorem dX1_step_215 : decode cX1_step 215 = .ok (.iaload, 1) := by decide +kernel
theorem dX1_step_216 : decode cX1_step 216 = .ok (.iaload, 1) := by decide +kernel
theorem dX1_step_217 : decode cX1_step 217 = .ok (.imul, 1) := by decide +kernel
theorem dX1_step_218 : decode cX1_step 218 = .ok (.sipush 1000, 3) := by decide +kernel
theorem dX1_step_221 : decode cX1_step 221 = .ok (.idiv, 1) := by decide +kernel
theorem dX1_step_222 : decode cX1_step 222 = .ok (.iadd, 1) := by decide +kernel
theorem dX1_step_223 : decode cX1_step 223 = .ok (.putfield 28, 3) := by decide +kernel
theorem dX1_step_226 : decode cX1_step 226 = .ok (.aload_n 0, 1) := by decide +kernel
theorem dX1_step_227 : decode cX1_step 227 = .ok (.dup, 1) := by decide +kernel
theorem dX1_step_228 : decode cX1_step 228 = .ok (.getfield 31, 3) := by decide +kernel
theorem dX1_step_231 : decode cX1_step 231 = .ok (.aload_n 3, 1) := by decide +kernel
theorem dX1_step_232 : decode cX1_step 232 = .ok (.getfield 96, 3) := by decide +kernel
theorem dX1_step_235 : decode cX1_step 235 = .ok (.iload 5, 2) := by decide +kernel
theorem dX1_step_237 : decode cX1_step 237 = .ok (.iaload, 1) := by decide +kernel
theorem dX1_step_238 : decode cX1_step 238 = .ok (.aload_n 0, 1) := by decide +kernel
theorem dX1_step_239 : decode cX1_step 239 = .ok (.getfield 21, 3) := by decide +kernel
theorem dX1_step_242 : decode cX1_step 242 = .ok (.aload_n 3, 1) := by decide +kernel
theorem dX1_step_243 : decode cX1_step 243 = .ok (.getfield 99, 3) := by decide +kernel
theorem dX1_step_246 : decode cX1_step 246 = .ok (.iload 5, 2) := by decide +kernel
theorem dX1_step_248 : decode cX1_step 248 = .ok (.iaload, 1) := by decide +kernel
theorem dX1_step_249 : decode cX1_step 249 = .ok (.bipush 90, 2) := by decide +kernel
theorem dX1_step_251 : decode cX1_step 251 = .ok (.iadd, 1) := by decide +kernel
theorem dX1_step_252 : decode cX1_step 252 = .ok (.iaload, 1) := by decide +kernel
theorem dX1_step_253 : decode cX1_step 253 = .ok (.imul, 1) := by decide +kernel
theorem dX1_step_254 : decode cX1_step 254 = .ok (.sipush 1000, 3) := by decide +kernel
theorem dX1_step_257 : decode cX1_step 257 = .ok (.idiv, 1) := by decide +kernel
theorem dX1_step_258 : decode cX1_step 258 = .ok (.iadd, 1) := by decide +kernel
theorem dX1_step_259 : decode cX1_step 259 = .ok (.putfield 31, 3) := by decide +kernel
theorem dX1_step_262 : decode cX1_step 262 = .ok (.aload_n 0, 1) := by decide +kernel
theorem dX1_step_263 : decode cX1_step 263 = .ok (.iconst 0, 1) := by decide +kernel
theorem dX1_step_264 : decode cX1_step 264 = .ok (.aload_n 0, 1) := by decide +kernel
theorem dX1_step_265 : decode cX1_step 265 = .ok (.getfield 57, 3) := by decide +kernel
theorem dX1_step_268 : decode cX1_step 268 = .ok (.aload_n 1, 1) := by decide +kernel
theorem dX1_step_269 : decode cX1_step 269 = .ok (.getfield 102, 3) := by decide +kernel
theorem dX1_step_272 : decode cX1_step 272 = .ok (.isub, 1) := by decide +kernel
theorem dX1_step_273 : decode cX1_step 273 = .ok (.invokestatic 79, 3) := by decide +kernel
theorem dX1_step_276 : decode cX1_step 276 = .ok (.putfield 57, 3) := by decide +kernel
theorem dX1_step_279 : decode cX1_step 279 = .ok (.aload_n 0, 1) := by decide +kernel
theorem dX1_step_280 : decode cX1_step 280 = .ok (.bipush 20, 2) := by decide +kernel
theorem dX1_step_282 : decode cX1_step 282 = .ok (.aload_n 0, 1) := by decide +kernel
theorem dX1_step_283 : decode cX1_step 283 = .ok (.getfield 51, 3) := by decide +kernel
theorem dX1_step_286 : decode cX1_step 286 = .ok (.aload_n 1, 1) := by decide +kernel
theorem dX1_step_287 : decode cX1_step 287 = .ok (.getfield 105, 3) := by decide +kernel
theorem dX1_step_290 : decode cX1_step 290 = .ok (.isub, 1) := by decide +kernel
theorem dX1_step_291 : decode cX1_step 291 = .ok (.invokestatic 79, 3) := by decide +kernel
theorem dX1_step_294 : decode cX1_step 294 = .ok (.putfield 51, 3) := by decide +kernel
theorem dX1_step_297 : decode cX1_step 297 = .ok (.aload_n 0, 1) := by decide +kernel
theorem dX1_step_298 : decode cX1_step 298 = .ok (.getfield 9, 3) := by decide +kernel
theorem dX1_step_301 : decode cX1_step 301 = .ok (.iconst 4, 1) := by decide +kernel
theorem dX1_step_302 : decode cX1_step 302 = .ok (.irem, 1) := by decide +kernel
theorem dX1_step_303 : decode cX1_step 303 = .ok (.ifCond .ne 17, 3) := by decide +kernel
theorem dX1_step_306 : decode cX1_step 306 = .ok (.aload_n 0, 1) := by decide +kernel
theorem dX1_step_307 : decode cX1_step 307 = .ok (.iconst 0, 1) := by decide +kernel
theorem dX1_step_308 : decode cX1_step 308 = .ok (.aload_n 0, 1) := by decide +kernel
theorem dX1_step_309 : decode cX1_step 309 = .ok (.getfield 61, 3) := by decide +kernel
theorem dX1_step_312 : decode cX1_step 312 = .ok (.iconst 1, 1) := by decide +kernel
theorem dX1_step_313 : decode cX1_step 313 = .ok (.isub, 1) := by decide +kernel
theorem dX1_step_314 : decode cX1_step 314 = .ok (.invokestatic 79, 3) := by decide +kernel
theorem dX1_step_317 : decode cX1_step 317 = .ok (.putfield 61, 3) := by decide +kernel
theorem dX1_step_320 : decode cX1_step 320 = .ok (.return_, 1) := by decide +kernel
theorem dX1_endIn_0 : decode cX1_endIn 0 = .ok (.iconst 0, 1) := by decide +kernel
theorem dX1_endIn_1 : decode cX1_endIn 1 = .ok (.istore_n 2, 1) := by decide +kernel
theorem dX1_endIn_2 : decode cX1_endIn 2 = .ok (.iload_n 2, 1) := by decide +kernel
theorem dX1_endIn_3 : decode cX1_endIn 3 = .ok (.aload_n 1, 1) := by decide +kernel
theorem dX1_endIn_4 : decode cX1_endIn 4 = .ok (.getfield 108, 3) := by decide +kernel
theorem dX1_endIn_7 : decode cX1_endIn 7 = .ok (.if_icmp .ge 61, 3) := by decide +kernel
theorem dX1_endIn_10 : decode cX1_endIn 10 = .ok (.aload_n 0, 1) := by decide +kernel
theorem dX1_endIn_11 : decode cX1_endIn 11 = .ok (.getfield 18, 3) := by decide +kernel
theorem dX1_endIn_14 : decode cX1_endIn 14 = .ok (.bipush (-4), 2) := by decide +kernel
theorem dX1_endIn_16 : decode cX1_endIn 16 = .ok (.if_icmp .ne 52, 3) := by decide +kernel
theorem dX1_endIn_19 : decode cX1_endIn 19 = .ok (.aload_n 1, 1) := by decide +kernel
theorem dX1_endIn_20 : decode cX1_endIn 20 = .ok (.getfield 113, 3) := by decide +kernel
theorem dX1_endIn_23 : decode cX1_endIn 23 = .ok (.iload_n 2, 1) := by decide +kernel
theorem dX1_endIn_24 : decode cX1_endIn 24 = .ok (.aaload, 1) := by decide +kernel
theorem dX1_endIn_25 : decode cX1_endIn 25 = .ok (.astore_n 3, 1) := by decide +kernel
theorem dX1_endIn_26 : decode cX1_endIn 26 = .ok (.aload_n 0, 1) := by decide +kernel
theorem dX1_endIn_27 : decode cX1_endIn 27 = .ok (.getfield 34, 3) := by decide +kernel
theorem dX1_endIn_30 : decode cX1_endIn 30 = .ok (.aload_n 3, 1) := by decide +kernel
theorem dX1_endIn_31 : decode cX1_endIn 31 = .ok (.getfield 117, 3) := by decide +kernel
theorem dX1_endIn_34 : decode cX1_endIn 34 = .ok (.if_icmp .gt 28, 3) := by decide +kernel
theorem dX1_endIn_37 : decode cX1_endIn 37 = .ok (.aload_n 0, 1) := by decide +kernel
theorem dX1_endIn_38 : decode cX1_endIn 38 = .ok (.aload_n 3, 1) := by decide +kernel
theorem dX1_endIn_39 : decode cX1_endIn 39 = .ok (.getfield 122, 3) := by decide +kernel
theorem dX1_endIn_42 : decode cX1_endIn 42 = .ok (.aload_n 3, 1) := by decide +kernel
theorem dX1_endIn_43 : decode cX1_endIn 43 = .ok (.getfield 123, 3) := by decide +kernel
theorem dX1_endIn_46 : decode cX1_endIn 46 = .ok (.aload_n 3, 1) := by decide +kernel
theorem dX1_endIn_47 : decode cX1_endIn 47 = .ok (.getfield 124, 3) := by decide +kernel
theorem dX1_endIn_50 : decode cX1_endIn 50 = .ok (.i2l, 1) := by decide +kernel
theorem dX1_endIn_51 : decode cX1_endIn 51 = .ok (.invokevirtual 127, 3) := by decide +kernel
theorem dX1_endIn_54 : decode cX1_endIn 54 = .ok (.ifCond .eq 8, 3) := by decide +kernel
theorem dX1_endIn_57 : decode cX1_endIn 57 = .ok (.aload_n 0, 1) := by decide +kernel
theorem dX1_endIn_58 : decode cX1_endIn 58 = .ok (.iload_n 2, 1) := by decide +kernel
theorem dX1_endIn_59 : decode cX1_endIn 59 = .ok (.putfield 18, 3) := by decide +kernel
theorem dX1_endIn_62 : decode cX1_endIn 62 = .ok (.iinc 2 1, 3) := by decide +kernel
theorem dX1_endIn_65 : decode cX1_endIn 65 = .ok (.goto (-63), 3) := by decide +kernel
theorem dX1_endIn_68 : decode cX1_endIn 68 = .ok (.aload_n 0, 1) := by decide +kernel
theorem dX1_endIn_69 : decode cX1_endIn 69 = .ok (.getfield 18, 3) := by decide +kernel
theorem dX1_endIn_72 : decode cX1_endIn 72 = .ok (.bipush (-4), 2) := by decide +kernel
theorem dX1_endIn_74 : decode cX1_endIn 74 = .ok (.if_icmp .eq 11, 3) := by decide +kernel
theorem dX1_endIn_77 : decode cX1_endIn 77 = .ok (.aload_n 0, 1) := by decide +kernel
theorem dX1_endIn_78 : decode cX1_endIn 78 = .ok (.iconst 3, 1) := by decide +kernel
theorem dX1_endIn_79 : decode cX1_endIn 79 = .ok (.putfield 15, 3) := by decide +kernel
theorem dX1_endIn_82 : decode cX1_endIn 82 = .ok (.goto 79, 3) := by decide +kernel
theorem dX1_endIn_85 : decode cX1_endIn 85 = .ok (.aload_n 0, 1) := by decide +kernel
theorem dX1_endIn_86 : decode cX1_endIn 86 = .ok (.getfield 34, 3) := by decide +kernel
theorem dX1_endIn_89 : decode cX1_endIn 89 = .ok (.ifCond .gt 11, 3) := by decide +kernel
theorem dX1_endIn_92 : decode cX1_endIn 92 = .ok (.aload_n 0, 1) := by decide +kernel
theorem dX1_endIn_93 : decode cX1_endIn 93 = .ok (.iconst 1, 1) := by decide +kernel
theorem dX1_endIn_94 : decode cX1_endIn 94 = .ok (.putfield 15, 3) := by decide +kernel
theorem dX1_endIn_97 : decode cX1_endIn 97 = .ok (.goto 64, 3) := by decide +kernel
theorem dX1_endIn_100 : decode cX1_endIn 100 = .ok (.aload_n 0, 1) := by decide +kernel
theorem dX1_endIn_101 : decode cX1_endIn 101 = .ok (.getfield 9, 3) := by decide +kernel
theorem dX1_endIn_104 : decode cX1_endIn 104 = .ok (.bipush 20, 2) := by decide +kernel
theorem dX1_endIn_106 : decode cX1_endIn 106 = .ok (.if_icmp .lt 40, 3) := by decide +kernel
theorem dX1_endIn_109 : decode cX1_endIn 109 = .ok (.aload_n 0, 1) := by decide +kernel
theorem dX1_endIn_110 : decode cX1_endIn 110 = .ok (.getfield 34, 3) := by decide +kernel
theorem dX1_endIn_113 : decode cX1_endIn 113 = .ok (.bipush 50, 2) := by decide +kernel
theorem dX1_endIn_115 : decode cX1_endIn 115 = .ok (.sipush 250, 3) := by decide +kernel
theorem dX1_endIn_118 : decode cX1_endIn 118 = .ok (.invokestatic 131, 3) := by decide +kernel
theorem dX1_endIn_121 : decode cX1_endIn 121 = .ok (.ifCond .eq 25, 3) := by decide +kernel
theorem dX1_endIn_124 : decode cX1_endIn 124 = .ok (.aload_n 0, 1) := by decide +kernel
theorem dX1_endIn_125 : decode cX1_endIn 125 = .ok (.iconst 0, 1) := by decide +kernel
theorem dX1_endIn_126 : decode cX1_endIn 126 = .ok (.iconst 0, 1) := by decide +kernel
theorem dX1_endIn_127 : decode cX1_endIn 127 = .ok (.aload_n 1, 1) := by decide +kernel
theorem dX1_endIn_128 : decode cX1_endIn 128 = .ok (.getfield 135, 3) := by decide +kernel
theorem dX1_endIn_131 : decode cX1_endIn 131 = .ok (.i2l, 1) := by decide +kernel
theorem dX1_endIn_132 : decode cX1_endIn 132 = .ok (.invokevirtual 127, 3) := by decide +kernel
theorem dX1_endIn_135 : decode cX1_endIn 135 = .ok (.ifCond .eq 11, 3) := by decide +kernel
theorem dX1_endIn_138 : decode cX1_endIn 138 = .ok (.aload_n 0, 1) := by decide +kernel
theorem dX1_endIn_139 : decode cX1_endIn 139 = .ok (.iconst 2, 1) := by decide +kernel
theorem dX1_endIn_140 : decode cX1_endIn 140 = .ok (.putfield 15, 3) := by decide +kernel
theorem dX1_endIn_143 : decode cX1_endIn 143 = .ok (.goto 18, 3) := by decide +kernel
theorem dX1_endIn_146 : decode cX1_endIn 146 = .ok (.aload_n 0, 1) := by decide +kernel
theorem dX1_endIn_147 : decode cX1_endIn 147 = .ok (.getfield 9, 3) := by decide +kernel
theorem dX1_endIn_150 : decode cX1_endIn 150 = .ok (.sipush 400, 3) := by decide +kernel
theorem dX1_endIn_153 : decode cX1_endIn 153 = .ok (.if_icmp .lt 8, 3) := by decide +kernel
theorem dX1_endIn_156 : decode cX1_endIn 156 = .ok (.aload_n 0, 1) := by decide +kernel
theorem dX1_endIn_157 : decode cX1_endIn 157 = .ok (.iconst 4, 1) := by decide +kernel
theorem dX1_endIn_158 : decode cX1_endIn 158 = .ok (.putfield 15, 3) := by decide +kernel
theorem dX1_endIn_161 : decode cX1_endIn 161 = .ok (.return_, 1) := by decide +kernel
theorem dX1_isNear_0 : decode cX1_isNear 0 = .ok (.aload_n 0, 1) := by decide +kernel
theorem dX1_isNear_1 : decode cX1_isNear 1 = .ok (.getfield 28, 3) := by decide +kernel
theorem dX1_isNear_4 : decode cX1_isNear 4 = .ok (.iload_n 1, 1) := by decide +kernel
theorem dX1_isNear_5 : decode cX1_isNear 5 = .ok (.isub, 1) := by decide +kernel
theorem dX1_isNear_6 : decode cX1_isNear 6 = .ok (.i2l, 1) := by decide +kernel
theorem dX1_isNear_7 : decode cX1_isNear 7 = .ok (.lstore 5, 2) := by decide +kernel
theorem dX1_isNear_9 : decode cX1_isNear 9 = .ok (.aload_n 0, 1) := by decide +kernel
theorem dX1_isNear_10 : decode cX1_isNear 10 = .ok (.getfield 31, 3) := by decide +kernel
theorem dX1_isNear_13 : decode cX1_isNear 13 = .ok (.iload_n 2, 1) := by decide +kernel
theorem dX1_isNear_14 : decode cX1_isNear 14 = .ok (.isub, 1) := by decide +kernel
theorem dX1_isNear_15 : decode cX1_isNear 15 = .ok (.i2l, 1) := by decide +kernel
theorem dX1_isNear_16 : decode cX1_isNear 16 = .ok (.lstore 7, 2) := by decide +kernel
theorem dX1_isNear_18 : decode cX1_isNear 18 = .ok (.lload 5, 2) := by decide +kernel
theorem dX1_isNear_20 : decode cX1_isNear 20 = .ok (.lload 5, 2) := by decide +kernel
theorem dX1_isNear_22 : decode cX1_isNear 22 = .ok (.lmul, 1) := by decide +kernel
theorem dX1_isNear_23 : decode cX1_isNear 23 = .ok (.lload 7, 2) := by decide +kernel
theorem dX1_isNear_25 : decode cX1_isNear 25 = .ok (.lload 7, 2) := by decide +kernel
theorem dX1_isNear_27 : decode cX1_isNear 27 = .ok (.lmul, 1) := by decide +kernel
theorem dX1_isNear_28 : decode cX1_isNear 28 = .ok (.ladd, 1) := by decide +kernel
theorem dX1_isNear_29 : decode cX1_isNear 29 = .ok (.lload_n 3, 1) := by decide +kernel
theorem dX1_isNear_30 : decode cX1_isNear 30 = .ok (.lload_n 3, 1) := by decide +kernel
theorem dX1_isNear_31 : decode cX1_isNear 31 = .ok (.lmul, 1) := by decide +kernel
theorem dX1_isNear_32 : decode cX1_isNear 32 = .ok (.lcmp, 1) := by decide +kernel
theorem dX1_isNear_33 : decode cX1_isNear 33 = .ok (.ifCond .gt 7, 3) := by decide +kernel
theorem dX1_isNear_36 : decode cX1_isNear 36 = .ok (.iconst 1, 1) := by decide +kernel
theorem dX1_isNear_37 : decode cX1_isNear 37 = .ok (.goto 4, 3) := by decide +kernel
theorem dX1_isNear_40 : decode cX1_isNear 40 = .ok (.iconst 0, 1) := by decide +kernel
theorem dX1_isNear_41 : decode cX1_isNear 41 = .ok (.ireturn, 1) := by decide +kernel
theorem dX1_distance_0 : decode cX1_distance 0 = .ok (.aload_n 0, 1) := by decide +kernel
theorem dX1_distance_1 : decode cX1_distance 1 = .ok (.getfield 28, 3) := by decide +kernel
theorem dX1_distance_4 : decode cX1_distance 4 = .ok (.i2l, 1) := by decide +kernel
theorem dX1_distance_5 : decode cX1_distance 5 = .ok (.aload_n 0, 1) := by decide +kernel
theorem dX1_distance_6 : decode cX1_distance 6 = .ok (.getfield 28, 3) := by decide +kernel
theorem dX1_distance_9 : decode cX1_distance 9 = .ok (.i2l, 1) := by decide +kernel
theorem dX1_distance_10 : decode cX1_distance 10 = .ok (.lmul, 1) := by decide +kernel
theorem dX1_distance_11 : decode cX1_distance 11 = .ok (.aload_n 0, 1) := by decide +kernel
theorem dX1_distance_12 : decode cX1_distance 12 = .ok (.getfield 31, 3) := by decide +kernel
theorem dX1_distance_15 : decode cX1_distance 15 = .ok (.i2l, 1) := by decide +kernel
theorem dX1_distance_16 : decode cX1_distance 16 = .ok (.aload_n 0, 1) := by decide +kernel
theorem dX1_distance_17 : decode cX1_distance 17 = .ok (.getfield 31, 3) := by decide +kernel
theorem dX1_distance_20 : decode cX1_distance 20 = .ok (.i2l, 1) := by decide +kernel
theorem dX1_distance_21 : decode cX1_distance 21 = .ok (.lmul, 1) := by decide +kernel
theorem dX1_distance_22 : decode cX1_distance 22 = .ok (.ladd, 1) := by decide +kernel
theorem dX1_distance_23 : decode cX1_distance 23 = .ok (.lstore_n 1, 1) := by decide +kernel
theorem dX1_distance_24 : decode cX1_distance 24 = .ok (.lconst 0, 1) := by decide +kernel
theorem dX1_distance_25 : decode cX1_distance 25 = .ok (.lstore_n 3, 1) := by decide +kernel
theorem dX1_distance_26 : decode cX1_distance 26 = .ok (.ldc 138, 2) := by decide +kernel
theorem dX1_distance_28 : decode cX1_distance 28 = .ok (.istore 5, 2) := by decide +kernel
theorem dX1_distance_30 : decode cX1_distance 30 = .ok (.iload 5, 2) := by decide +kernel
theorem dX1_distance_32 : decode cX1_distance 32 = .ok (.ifCond .le 34, 3) := by decide +kernel
theorem dX1_distance_35 : decode cX1_distance 35 = .ok (.lload_n 3, 1) := by decide +kernel
theorem dX1_distance_36 : decode cX1_distance 36 = .ok (.iload 5, 2) := by decide +kernel
theorem dX1_distance_38 : decode cX1_distance 38 = .ok (.i2l, 1) := by decide +kernel
theorem dX1_distance_39 : decode cX1_distance 39 = .ok (.ladd, 1) := by decide +kernel
theorem dX1_distance_40 : decode cX1_distance 40 = .ok (.lload_n 3, 1) := by decide +kernel
theorem dX1_distance_41 : decode cX1_distance 41 = .ok (.iload 5, 2) := by decide +kernel
theorem dX1_distance_43 : decode cX1_distance 43 = .ok (.i2l, 1) := by decide +kernel
theorem dX1_distance_44 : decode cX1_distance 44 = .ok (.ladd, 1) := by decide +kernel
theorem dX1_distance_45 : decode cX1_distance 45 = .ok (.lmul, 1) := by decide +kernel
theorem dX1_distance_46 : decode cX1_distance 46 = .ok (.lload_n 1, 1) := by decide +kernel
theorem dX1_distance_47 : decode cX1_distance 47 = .ok (.lcmp, 1) := by decide +kernel
theorem dX1_distance_48 : decode cX1_distance 48 = .ok (.ifCond .gt 9, 3) := by decide +kernel
theorem dX1_distance_51 : decode cX1_distance 51 = .ok (.lload_n 3, 1) := by decide +kernel
theorem dX1_distance_52 : decode cX1_distance 52 = .ok (.iload 5, 2) := by decide +kernel
theorem dX1_distance_54 : decode cX1_distance 54 = .ok (.i2l, 1) := by decide +kernel
theorem dX1_distance_55 : decode cX1_distance 55 = .ok (.ladd, 1) := by decide +kernel
theorem dX1_distance_56 : decode cX1_distance 56 = .ok (.lstore_n 3, 1) := by decide +kernel
theorem dX1_distance_57 : decode cX1_distance 57 = .ok (.iload 5, 2) := by decide +kernel
theorem dX1_distance_59 : decode cX1_distance 59 = .ok (.iconst 1, 1) := by decide +kernel
theorem dX1_distance_60 : decode cX1_distance 60 = .ok (.ishr, 1) := by decide +kernel
theorem dX1_distance_61 : decode cX1_distance 61 = .ok (.istore 5, 2) := by decide +kernel
theorem dX1_distance_63 : decode cX1_distance 63 = .ok (.goto (-33), 3) := by decide +kernel
theorem dX1_distance_66 : decode cX1_distance 66 = .ok (.lload_n 3, 1) := by decide +kernel
theorem dX1_distance_67 : decode cX1_distance 67 = .ok (.l2i, 1) := by decide +kernel
theorem dX1_distance_68 : decode cX1_distance 68 = .ok (.ireturn, 1) := by decide +kernel
theorem dX1_note_0 : decode cX1_note 0 = .ok (.aload_n 0, 1) := by decide +kernel
theorem dX1_note_1 : decode cX1_note 1 = .ok (.getfield 9, 3) := by decide +kernel
theorem dX1_note_4 : decode cX1_note 4 = .ok (.bipush 8, 2) := by decide +kernel
theorem dX1_note_6 : decode cX1_note 6 = .ok (.imul, 1) := by decide +kernel
theorem dX1_note_7 : decode cX1_note 7 = .ok (.istore_n 1, 1) := by decide +kernel
theorem dX1_note_8 : decode cX1_note 8 = .ok (.iload_n 1, 1) := by decide +kernel
theorem dX1_note_9 : decode cX1_note 9 = .ok (.ifCond .lt 15, 3) := by decide +kernel
theorem dX1_note_12 : decode cX1_note 12 = .ok (.iload_n 1, 1) := by decide +kernel
theorem dX1_note_13 : decode cX1_note 13 = .ok (.aload_n 0, 1) := by decide +kernel
theorem dX1_note_14 : decode cX1_note 14 = .ok (.getfield 25, 3) := by decide +kernel
theorem dX1_note_17 : decode cX1_note 17 = .ok (.arraylength, 1) := by decide +kernel
theorem dX1_note_18 : decode cX1_note 18 = .ok (.bipush 8, 2) := by decide +kernel
theorem dX1_note_20 : decode cX1_note 20 = .ok (.isub, 1) := by decide +kernel
theorem dX1_note_21 : decode cX1_note 21 = .ok (.if_icmp .le 4, 3) := by decide +kernel
theorem dX1_note_24 : decode cX1_note 24 = .ok (.return_, 1) := by decide +kernel
theorem dX1_note_25 : decode cX1_note 25 = .ok (.aload_n 0, 1) := by decide +kernel
theorem dX1_note_26 : decode cX1_note 26 = .ok (.getfield 25, 3) := by decide +kernel
theorem dX1_note_29 : decode cX1_note 29 = .ok (.iload_n 1, 1) := by decide +kernel
theorem dX1_note_30 : decode cX1_note 30 = .ok (.aload_n 0, 1) := by decide +kernel
theorem dX1_note_31 : decode cX1_note 31 = .ok (.getfield 28, 3) := by decide +kernel
theorem dX1_note_34 : decode cX1_note 34 = .ok (.iastore, 1) := by decide +kernel
theorem dX1_note_35 : decode cX1_note 35 = .ok (.aload_n 0, 1) := by decide +kernel
theorem dX1_note_36 : decode cX1_note 36 = .ok (.getfield 25, 3) := by decide +kernel
theorem dX1_note_39 : decode cX1_note 39 = .ok (.iload_n 1, 1) := by decide +kernel
theorem dX1_note_40 : decode cX1_note 40 = .ok (.iconst 1, 1) := by decide +kernel
theorem dX1_note_41 : decode cX1_note 41 = .ok (.iadd, 1) := by decide +kernel
theorem dX1_note_42 : decode cX1_note 42 = .ok (.aload_n 0, 1) := by decide +kernel
theorem dX1_note_43 : decode cX1_note 43 = .ok (.getfield 31, 3) := by decide +kernel
theorem dX1_note_46 : decode cX1_note 46 = .ok (.iastore, 1) := by decide +kernel
theorem dX1_note_47 : decode cX1_note 47 = .ok (.aload_n 0, 1) := by decide +kernel
theorem dX1_note_48 : decode cX1_note 48 = .ok (.getfield 25, 3) := by decide +kernel
theorem dX1_note_51 : decode cX1_note 51 = .ok (.iload_n 1, 1) := by decide +kernel
theorem dX1_note_52 : decode cX1_note 52 = .ok (.iconst 2, 1) := by decide +kernel
theorem dX1_note_53 : decode cX1_note 53 = .ok (.iadd, 1) := by decide +kernel
theorem dX1_note_54 : decode cX1_note 54 = .ok (.aload_n 0, 1) := by decide +kernel
theorem dX1_note_55 : decode cX1_note 55 = .ok (.getfield 34, 3) := by decide +kernel
theorem dX1_note_58 : decode cX1_note 58 = .ok (.iastore, 1) := by decide +kernel
theorem dX1_note_59 : decode cX1_note 59 = .ok (.aload_n 0, 1) := by decide +kernel
theorem dX1_note_60 : decode cX1_note 60 = .ok (.getfield 25, 3) := by decide +kernel
theorem dX1_note_63 : decode cX1_note 63 = .ok (.iload_n 1, 1) := by decide +kernel
theorem dX1_note_64 : decode cX1_note 64 = .ok (.iconst 3, 1) := by decide +kernel
theorem dX1_note_65 : decode cX1_note 65 = .ok (.iadd, 1) := by decide +kernel
theorem dX1_note_66 : decode cX1_note 66 = .ok (.aload_n 0, 1) := by decide +kernel
theorem dX1_note_67 : decode cX1_note 67 = .ok (.getfield 37, 3) := by decide +kernel
theorem dX1_note_70 : decode cX1_note 70 = .ok (.iastore, 1) := by decide +kernel
theorem dX1_note_71 : decode cX1_note 71 = .ok (.aload_n 0, 1) := by decide +kernel
theorem dX1_note_72 : decode cX1_note 72 = .ok (.getfield 25, 3) := by decide +kernel
theorem dX1_note_75 : decode cX1_note 75 = .ok (.iload_n 1, 1) := by decide +kernel
theorem dX1_note_76 : decode cX1_note 76 = .ok (.iconst 4, 1) := by decide +kernel
theorem dX1_note_77 : decode cX1_note 77 = .ok (.iadd, 1) := by decide +kernel
theorem dX1_note_78 : decode cX1_note 78 = .ok (.aload_n 0, 1) := by decide +kernel
theorem dX1_note_79 : decode cX1_note 79 = .ok (.getfield 45, 3) := by decide +kernel
theorem dX1_note_82 : decode cX1_note 82 = .ok (.iastore, 1) := by decide +kernel
theorem dX1_note_83 : decode cX1_note 83 = .ok (.aload_n 0, 1) := by decide +kernel
theorem dX1_note_84 : decode cX1_note 84 = .ok (.getfield 25, 3) := by decide +kernel
theorem dX1_note_87 : decode cX1_note 87 = .ok (.iload_n 1, 1) := by decide +kernel
theorem dX1_note_88 : decode cX1_note 88 = .ok (.iconst 5, 1) := by decide +kernel
theorem dX1_note_89 : decode cX1_note 89 = .ok (.iadd, 1) := by decide +kernel
theorem dX1_note_90 : decode cX1_note 90 = .ok (.aload_n 0, 1) := by decide +kernel
theorem dX1_note_91 : decode cX1_note 91 = .ok (.getfield 51, 3) := by decide +kernel
theorem dX1_note_94 : decode cX1_note 94 = .ok (.iastore, 1) := by decide +kernel
theorem dX1_note_95 : decode cX1_note 95 = .ok (.aload_n 0, 1) := by decide +kernel
theorem dX1_note_96 : decode cX1_note 96 = .ok (.getfield 25, 3) := by decide +kernel
theorem dX1_note_99 : decode cX1_note 99 = .ok (.iload_n 1, 1) := by decide +kernel
theorem dX1_note_100 : decode cX1_note 100 = .ok (.bipush 6, 2) := by decide +kernel
theorem dX1_note_102 : decode cX1_note 102 = .ok (.iadd, 1) := by decide +kernel
theorem dX1_note_103 : decode cX1_note 103 = .ok (.aload_n 0, 1) := by decide +kernel
theorem dX1_note_104 : decode cX1_note 104 = .ok (.getfield 57, 3) := by decide +kernel
theorem dX1_note_107 : decode cX1_note 107 = .ok (.iastore, 1) := by decide +kernel
theorem dX1_note_108 : decode cX1_note 108 = .ok (.aload_n 0, 1) := by decide +kernel
theorem dX1_note_109 : decode cX1_note 109 = .ok (.getfield 25, 3) := by decide +kernel
theorem dX1_note_112 : decode cX1_note 112 = .ok (.iload_n 1, 1) := by decide +kernel
theorem dX1_note_113 : decode cX1_note 113 = .ok (.bipush 7, 2) := by decide +kernel
theorem dX1_note_115 : decode cX1_note 115 = .ok (.iadd, 1) := by decide +kernel
theorem dX1_note_116 : decode cX1_note 116 = .ok (.aload_n 0, 1) := by decide +kernel
theorem dX1_note_117 : decode cX1_note 117 = .ok (.getfield 61, 3) := by decide +kernel
theorem dX1_note_120 : decode cX1_note 120 = .ok (.iastore, 1) := by decide +kernel
theorem dX1_note_121 : decode cX1_note 121 = .ok (.return_, 1) := by decide +kernel
theorem dX1_partAt_0 : decode cX1_partAt 0 = .ok (.aload_n 0, 1) := by decide +kernel
theorem dX1_partAt_1 : decode cX1_partAt 1 = .ok (.getfield 25, 3) := by decide +kernel
theorem dX1_partAt_4 : decode cX1_partAt 4 = .ok (.iload_n 1, 1) := by decide +kernel
theorem dX1_partAt_5 : decode cX1_partAt 5 = .ok (.bipush 8, 2) := by decide +kernel
theorem dX1_partAt_7 : decode cX1_partAt 7 = .ok (.imul, 1) := by decide +kernel
theorem dX1_partAt_8 : decode cX1_partAt 8 = .ok (.iload_n 2, 1) := by decide +kernel
theorem dX1_partAt_9 : decode cX1_partAt 9 = .ok (.iadd, 1) := by decide +kernel
theorem dX1_partAt_10 : decode cX1_partAt 10 = .ok (.iaload, 1) := by decide +kernel
theorem dX1_partAt_11 : decode cX1_partAt 11 = .ok (.ireturn, 1) := by decide +kernel
theorem dX2_init_0 : decode cX2_init 0 = .ok (.aload_n 0, 1) := by decide +kernel
theorem dX2_init_1 : decode cX2_init 1 = .ok (.invokespecial 3, 3) := by decide +kernel
theorem dX2_init_4 : decode cX2_init 4 = .ok (.aload_n 0, 1) := by decide +kernel
theorem dX2_init_5 : decode cX2_init 5 = .ok (.bipush 25, 2) := by decide +kernel
theorem dX2_init_7 : decode cX2_init 7 = .ok (.newarray .int, 2) := by decide +kernel
theorem dX2_init_9 : decode cX2_init 9 = .ok (.putfield 11, 3) := by decide +kernel
theorem dX2_init_12 : decode cX2_init 12 = .ok (.aload_n 0, 1) := by decide +kernel
theorem dX2_init_13 : decode cX2_init 13 = .ok (.bipush 25, 2) := by decide +kernel
theorem dX2_init_15 : decode cX2_init 15 = .ok (.newarray .int, 2) := by decide +kernel
theorem dX2_init_17 : decode cX2_init 17 = .ok (.putfield 15, 3) := by decide +kernel
theorem dX2_init_20 : decode cX2_init 20 = .ok (.aload_n 0, 1) := by decide +kernel
theorem dX2_init_21 : decode cX2_init 21 = .ok (.getfield 15, 3) := by decide +kernel
theorem dX2_init_24 : decode cX2_init 24 = .ok (.iconst 5, 1) := by decide +kernel
theorem dX2_init_25 : decode cX2_init 25 = .ok (.invokestatic 18, 3) := by decide +kernel
theorem dX2_init_28 : decode cX2_init 28 = .ok (.return_, 1) := by decide +kernel
theorem dX2_lineOf_0 : decode cX2_lineOf 0 = .ok (.iload_n 0, 1) := by decide +kernel
theorem dX2_lineOf_1 : decode cX2_lineOf 1 = .ok (.sipush 1000, 3) := by decide +kernel
theorem dX2_lineOf_4 : decode cX2_lineOf 4 = .ok (.iadd, 1) := by decide +kernel
theorem dX2_lineOf_5 : decode cX2_lineOf 5 = .ok (.sipush 400, 3) := by decide +kernel
theorem dX2_lineOf_8 : decode cX2_lineOf 8 = .ok (.invokestatic 24, 3) := by decide +kernel
theorem dX2_lineOf_11 : decode cX2_lineOf 11 = .ok (.istore_n 1, 1) := by decide +kernel
theorem dX2_lineOf_12 : decode cX2_lineOf 12 = .ok (.iconst 0, 1) := by decide +kernel
theorem dX2_lineOf_13 : decode cX2_lineOf 13 = .ok (.iconst 4, 1) := by decide +kernel
theorem dX2_lineOf_14 : decode cX2_lineOf 14 = .ok (.iload_n 1, 1) := by decide +kernel
theorem dX2_lineOf_15 : decode cX2_lineOf 15 = .ok (.invokestatic 30, 3) := by decide +kernel
theorem dX2_lineOf_18 : decode cX2_lineOf 18 = .ok (.invokestatic 33, 3) := by decide +kernel
theorem dX2_lineOf_21 : decode cX2_lineOf 21 = .ok (.ireturn, 1) := by decide +kernel
theorem dX2_spreadFrom_0 : decode cX2_spreadFrom 0 = .ok (.iconst 0, 1) := by decide +kernel
theorem dX2_spreadFrom_1 : decode cX2_spreadFrom 1 = .ok (.istore_n 3, 1) := by decide +kernel
theorem dX2_spreadFrom_2 : decode cX2_spreadFrom 2 = .ok (.iload_n 3, 1) := by decide +kernel
theorem dX2_spreadFrom_3 : decode cX2_spreadFrom 3 = .ok (.bipush 25, 2) := by decide +kernel
theorem dX2_spreadFrom_5 : decode cX2_spreadFrom 5 = .ok (.if_icmp .ge 42, 3) := by decide +kernel
theorem dX2_spreadFrom_8 : decode cX2_spreadFrom 8 = .ok (.iload_n 3, 1) := by decide +kernel
theorem dX2_spreadFrom_9 : decode cX2_spreadFrom 9 = .ok (.iconst 5, 1) := by decide +kernel
theorem dX2_spreadFrom_10 : decode cX2_spreadFrom 10 = .ok (.irem, 1) := by decide +kernel
theorem dX2_spreadFrom_11 : decode cX2_spreadFrom 11 = .ok (.iload_n 1, 1) := by decide +kernel
theorem dX2_spreadFrom_12 : decode cX2_spreadFrom 12 = .ok (.isub, 1) := by decide +kernel
theorem dX2_spreadFrom_13 : decode cX2_spreadFrom 13 = .ok (.invokestatic 36, 3) := by decide +kernel
theorem dX2_spreadFrom_16 : decode cX2_spreadFrom 16 = .ok (.iload_n 3, 1) := by decide +kernel
theorem dX2_spreadFrom_17 : decode cX2_spreadFrom 17 = .ok (.iconst 5, 1) := by decide +kernel
theorem dX2_spreadFrom_18 : decode cX2_spreadFrom 18 = .ok (.idiv, 1) := by decide +kernel
theorem dX2_spreadFrom_19 : decode cX2_spreadFrom 19 = .ok (.iload_n 2, 1) := by decide +kernel
theorem dX2_spreadFrom_20 : decode cX2_spreadFrom 20 = .ok (.isub, 1) := by decide +kernel
theorem dX2_spreadFrom_21 : decode cX2_spreadFrom 21 = .ok (.invokestatic 36, 3) := by decide +kernel
theorem dX2_spreadFrom_24 : decode cX2_spreadFrom 24 = .ok (.iadd, 1) := by decide +kernel
theorem dX2_spreadFrom_25 : decode cX2_spreadFrom 25 = .ok (.istore 4, 2) := by decide +kernel
theorem dX2_spreadFrom_27 : decode cX2_spreadFrom 27 = .ok (.aload_n 0, 1) := by decide +kernel
theorem dX2_spreadFrom_28 : decode cX2_spreadFrom 28 = .ok (.getfield 11, 3) := by decide +kernel
theorem dX2_spreadFrom_31 : decode cX2_spreadFrom 31 = .ok (.iload_n 3, 1) := by decide +kernel
theorem dX2_spreadFrom_32 : decode cX2_spreadFrom 32 = .ok (.sipush 1000, 3) := by decide +kernel
theorem dX2_spreadFrom_35 : decode cX2_spreadFrom 35 = .ok (.iconst 1, 1) := by decide +kernel
theorem dX2_spreadFrom_36 : decode cX2_spreadFrom 36 = .ok (.iload 4, 2) := by decide +kernel
theorem dX2_spreadFrom_38 : decode cX2_spreadFrom 38 = .ok (.iadd, 1) := by decide +kernel
theorem dX2_spreadFrom_39 : decode cX2_spreadFrom 39 = .ok (.idiv, 1) := by decide +kernel
theorem dX2_spreadFrom_40 : decode cX2_spreadFrom 40 = .ok (.iastore, 1) := by decide +kernel
theorem dX2_spreadFrom_41 : decode cX2_spreadFrom 41 = .ok (.iinc 3 1, 3) := by decide +kernel
theorem dX2_spreadFrom_44 : decode cX2_spreadFrom 44 = .ok (.goto (-42), 3) := by decide +kernel
theorem dX2_spreadFrom_47 : decode cX2_spreadFrom 47 = .ok (.iload_n 2, 1) := by decide +kernel
theorem dX2_spreadFrom_48 : decode cX2_spreadFrom 48 = .ok (.iconst 5, 1) := by decide +kernel
theorem dX2_spreadFrom_49 : decode cX2_spreadFrom 49 = .ok (.imul, 1) := by decide +kernel
theorem dX2_spreadFrom_50 : decode cX2_spreadFrom 50 = .ok (.iload_n 1, 1) := by decide +kernel
theorem dX2_spreadFrom_51 : decode cX2_spreadFrom 51 = .ok (.iadd, 1) := by decide +kernel
theorem dX2_spreadFrom_52 : decode cX2_spreadFrom 52 = .ok (.ireturn, 1) := by decide +kernel
theorem dX2_likeliest_0 : decode cX2_likeliest 0 = .ok (.bipush (-4), 2) := by decide +kernel
theorem dX2_likeliest_2 : decode cX2_likeliest 2 = .ok (.istore_n 1, 1) := by decide +kernel
theorem dX2_likeliest_3 : decode cX2_likeliest 3 = .ok (.iconst 0, 1) := by decide +kernel
theorem dX2_likeliest_4 : decode cX2_likeliest 4 = .ok (.istore_n 2, 1) := by decide +kernel
theorem dX2_likeliest_5 : decode cX2_likeliest 5 = .ok (.iconst 0, 1) := by decide +kernel
theorem dX2_likeliest_6 : decode cX2_likeliest 6 = .ok (.istore_n 3, 1) := by decide +kernel
theorem dX2_likeliest_7 : decode cX2_likeliest 7 = .ok (.iload_n 3, 1) := by decide +kernel
theorem dX2_likeliest_8 : decode cX2_likeliest 8 = .ok (.bipush 25, 2) := by decide +kernel
theorem dX2_likeliest_10 : decode cX2_likeliest 10 = .ok (.if_icmp .ge 42, 3) := by decide +kernel
theorem dX2_likeliest_13 : decode cX2_likeliest 13 = .ok (.aload_n 0, 1) := by decide +kernel
theorem dX2_likeliest_14 : decode cX2_likeliest 14 = .ok (.getfield 11, 3) := by decide +kernel
theorem dX2_likeliest_17 : decode cX2_likeliest 17 = .ok (.iload_n 3, 1) := by decide +kernel
theorem dX2_likeliest_18 : decode cX2_likeliest 18 = .ok (.iaload, 1) := by decide +kernel
theorem dX2_likeliest_19 : decode cX2_likeliest 19 = .ok (.aload_n 0, 1) := by decide +kernel
theorem dX2_likeliest_20 : decode cX2_likeliest 20 = .ok (.getfield 15, 3) := by decide +kernel
theorem dX2_likeliest_23 : decode cX2_likeliest 23 = .ok (.iload_n 3, 1) := by decide +kernel
theorem dX2_likeliest_24 : decode cX2_likeliest 24 = .ok (.iaload, 1) := by decide +kernel
theorem dX2_likeliest_25 : decode cX2_likeliest 25 = .ok (.imul, 1) := by decide +kernel
theorem dX2_likeliest_26 : decode cX2_likeliest 26 = .ok (.iload_n 2, 1) := by decide +kernel
theorem dX2_likeliest_27 : decode cX2_likeliest 27 = .ok (.if_icmp .le 19, 3) := by decide +kernel
theorem dX2_likeliest_30 : decode cX2_likeliest 30 = .ok (.aload_n 0, 1) := by decide +kernel
theorem dX2_likeliest_31 : decode cX2_likeliest 31 = .ok (.getfield 11, 3) := by decide +kernel
theorem dX2_likeliest_34 : decode cX2_likeliest 34 = .ok (.iload_n 3, 1) := by decide +kernel
theorem dX2_likeliest_35 : decode cX2_likeliest 35 = .ok (.iaload, 1) := by decide +kernel
theorem dX2_likeliest_36 : decode cX2_likeliest 36 = .ok (.aload_n 0, 1) := by decide +kernel
theorem dX2_likeliest_37 : decode cX2_likeliest 37 = .ok (.getfield 15, 3) := by decide +kernel
theorem dX2_likeliest_40 : decode cX2_likeliest 40 = .ok (.iload_n 3, 1) := by decide +kernel
theorem dX2_likeliest_41 : decode cX2_likeliest 41 = .ok (.iaload, 1) := by decide +kernel
theorem dX2_likeliest_42 : decode cX2_likeliest 42 = .ok (.imul, 1) := by decide +kernel
theorem dX2_likeliest_43 : decode cX2_likeliest 43 = .ok (.istore_n 2, 1) := by decide +kernel
theorem dX2_likeliest_44 : decode cX2_likeliest 44 = .ok (.iload_n 3, 1) := by decide +kernel
theorem dX2_likeliest_45 : decode cX2_likeliest 45 = .ok (.istore_n 1, 1) := by decide +kernel
theorem dX2_likeliest_46 : decode cX2_likeliest 46 = .ok (.iinc 3 1, 3) := by decide +kernel
theorem dX2_likeliest_49 : decode cX2_likeliest 49 = .ok (.goto (-42), 3) := by decide +kernel
theorem dX2_likeliest_52 : decode cX2_likeliest 52 = .ok (.iload_n 1, 1) := by decide +kernel
theorem dX2_likeliest_53 : decode cX2_likeliest 53 = .ok (.ireturn, 1) := by decide +kernel
theorem dX2_lighten_0 : decode cX2_lighten 0 = .ok (.aload_n 0, 1) := by decide +kernel
theorem dX2_lighten_1 : decode cX2_lighten 1 = .ok (.getfield 11, 3) := by decide +kernel
theorem dX2_lighten_4 : decode cX2_lighten 4 = .ok (.iload_n 1, 1) := by decide +kernel
theorem dX2_lighten_5 : decode cX2_lighten 5 = .ok (.bipush 10, 2) := by decide +kernel
theorem dX2_lighten_7 : decode cX2_lighten 7 = .ok (.aload_n 0, 1) := by decide +kernel
theorem dX2_lighten_8 : decode cX2_lighten 8 = .ok (.getfield 15, 3) := by decide +kernel
theorem dX2_lighten_11 : decode cX2_lighten 11 = .ok (.iload_n 1, 1) := by decide +kernel
theorem dX2_lighten_12 : decode cX2_lighten 12 = .ok (.iaload, 1) := by decide +kernel
theorem dX2_lighten_13 : decode cX2_lighten 13 = .ok (.isub, 1) := by decide +kernel
theorem dX2_lighten_14 : decode cX2_lighten 14 = .ok (.aload_n 0, 1) := by decide +kernel
theorem dX2_lighten_15 : decode cX2_lighten 15 = .ok (.getfield 11, 3) := by decide +kernel
theorem dX2_lighten_18 : decode cX2_lighten 18 = .ok (.iload_n 1, 1) := by decide +kernel
theorem dX2_lighten_19 : decode cX2_lighten 19 = .ok (.iaload, 1) := by decide +kernel
theorem dX2_lighten_20 : decode cX2_lighten 20 = .ok (.imul, 1) := by decide +kernel
theorem dX2_lighten_21 : decode cX2_lighten 21 = .ok (.bipush 10, 2) := by decide +kernel
theorem dX2_lighten_23 : decode cX2_lighten 23 = .ok (.idiv, 1) := by decide +kernel
theorem dX2_lighten_24 : decode cX2_lighten 24 = .ok (.iastore, 1) := by decide +kernel
theorem dX2_lighten_25 : decode cX2_lighten 25 = .ok (.aload_n 0, 1) := by decide +kernel
theorem dX2_lighten_26 : decode cX2_lighten 26 = .ok (.getfield 11, 3) := by decide +kernel
theorem dX2_lighten_29 : decode cX2_lighten 29 = .ok (.iload_n 1, 1) := by decide +kernel
theorem dX2_lighten_30 : decode cX2_lighten 30 = .ok (.iaload, 1) := by decide +kernel
theorem dX2_lighten_31 : decode cX2_lighten 31 = .ok (.ireturn, 1) := by decide +kernel
theorem dX3_init_0 : decode cX3_init 0 = .ok (.aload_n 0, 1) := by decide +kernel
theorem dX3_init_1 : decode cX3_init 1 = .ok (.invokespecial 3, 3) := by decide +kernel
theorem dX3_init_4 : decode cX3_init 4 = .ok (.aload_n 0, 1) := by decide +kernel
theorem dX3_init_5 : decode cX3_init 5 = .ok (.iconst 5, 1) := by decide +kernel
theorem dX3_init_6 : decode cX3_init 6 = .ok (.newarray .int, 2) := by decide +kernel
theorem dX3_init_8 : decode cX3_init 8 = .ok (.putfield 11, 3) := by decide +kernel
theorem dX3_init_11 : decode cX3_init 11 = .ok (.aload_n 0, 1) := by decide +kernel
theorem dX3_init_12 : decode cX3_init 12 = .ok (.new 15, 3) := by decide +kernel
theorem dX3_init_15 : decode cX3_init 15 = .ok (.dup, 1) := by decide +kernel
theorem dX3_init_16 : decode cX3_init 16 = .ok (.invokespecial 17, 3) := by decide +kernel
theorem dX3_init_19 : decode cX3_init 19 = .ok (.putfield 18, 3) := by decide +kernel
theorem dX3_init_22 : decode cX3_init 22 = .ok (.aload_n 0, 1) := by decide +kernel
theorem dX3_init_23 : decode cX3_init 23 = .ok (.iconst 5, 1) := by decide +kernel
theorem dX3_init_24 : decode cX3_init 24 = .ok (.bipush 9, 2) := by decide +kernel
theorem dX3_init_26 : decode cX3_init 26 = .ok (.multianewarray 22 2, 4) := by decide +kernel
theorem dX3_init_30 : decode cX3_init 30 = .ok (.putfield 24, 3) := by decide +kernel
theorem dX3_init_33 : decode cX3_init 33 = .ok (.aload_n 0, 1) := by decide +kernel
theorem dX3_init_34 : decode cX3_init 34 = .ok (.iconst 5, 1) := by decide +kernel
theorem dX3_init_35 : decode cX3_init 35 = .ok (.newarray .int, 2) := by decide +kernel
theorem dX3_init_37 : decode cX3_init 37 = .ok (.putfield 27, 3) := by decide +kernel
theorem dX3_init_40 : decode cX3_init 40 = .ok (.aload_n 0, 1) := by decide +kernel
theorem dX3_init_41 : decode cX3_init 41 = .ok (.iconst 5, 1) := by decide +kernel
theorem dX3_init_42 : decode cX3_init 42 = .ok (.newarray .int, 2) := by decide +kernel
theorem dX3_init_44 : decode cX3_init 44 = .ok (.putfield 30, 3) := by decide +kernel
theorem dX3_init_47 : decode cX3_init 47 = .ok (.aload_n 0, 1) := by decide +kernel
theorem dX3_init_48 : decode cX3_init 48 = .ok (.getfield 11, 3) := by decide +kernel
theorem dX3_init_51 : decode cX3_init 51 = .ok (.bipush (-2), 2) := by decide +kernel
theorem dX3_init_53 : decode cX3_init 53 = .ok (.invokestatic 33, 3) := by decide +kernel
theorem dX3_init_56 : decode cX3_init 56 = .ok (.aload_n 0, 1) := by decide +kernel
theorem dX3_init_57 : decode cX3_init 57 = .ok (.getfield 18, 3) := by decide +kernel
theorem dX3_init_60 : decode cX3_init 60 = .ok (.iconst 0, 1) := by decide +kernel
theorem dX3_init_61 : decode cX3_init 61 = .ok (.bipush 45, 2) := by decide +kernel
theorem dX3_init_63 : decode cX3_init 63 = .ok (.iconst 0, 1) := by decide +kernel
theorem dX3_init_64 : decode cX3_init 64 = .ok (.bipush 120, 2) := by decide +kernel
theorem dX3_init_66 : decode cX3_init 66 = .ok (.sipush 800, 3) := by decide +kernel
theorem dX3_init_69 : decode cX3_init 69 = .ok (.iconst (-1), 1) := by decide +kernel
theorem dX3_init_70 : decode cX3_init 70 = .ok (.invokevirtual 39, 3) := by decide +kernel
theorem dX3_init_73 : decode cX3_init 73 = .ok (.return_, 1) := by decide +kernel
theorem dX3_throwCount_0 : decode cX3_throwCount 0 = .ok (.iconst 0, 1) := by decide +kernel
theorem dX3_throwCount_1 : decode cX3_throwCount 1 = .ok (.istore_n 1, 1) := by decide +kernel
theorem dX3_throwCount_2 : decode cX3_throwCount 2 = .ok (.iconst 0, 1) := by decide +kernel
theorem dX3_throwCount_3 : decode cX3_throwCount 3 = .ok (.istore_n 2, 1) := by decide +kernel
theorem dX3_throwCount_4 : decode cX3_throwCount 4 = .ok (.iload_n 2, 1) := by decide +kernel
theorem dX3_throwCount_5 : decode cX3_throwCount 5 = .ok (.iconst 5, 1) := by decide +kernel
theorem dX3_throwCount_6 : decode cX3_throwCount 6 = .ok (.if_icmp .ge 23, 3) := by decide +kernel
theorem dX3_throwCount_9 : decode cX3_throwCount 9 = .ok (.aload_n 0, 1) := by decide +kernel
theorem dX3_throwCount_10 : decode cX3_throwCount 10 = .ok (.getfield 11, 3) := by decide +kernel
theorem dX3_throwCount_13 : decode cX3_throwCount 13 = .ok (.iload_n 2, 1) := by decide +kernel
theorem dX3_throwCount_14 : decode cX3_throwCount 14 = .ok (.iaload, 1) := by decide +kernel
theorem dX3_throwCount_15 : decode cX3_throwCount 15 = .ok (.bipush (-2), 2) := by decide +kernel
theorem dX3_throwCount_17 : decode cX3_throwCount 17 = .ok (.if_icmp .eq 6, 3) := by decide +kernel
theorem dX3_throwCount_20 : decode cX3_throwCount 20 = .ok (.iinc 1 1, 3) := by decide +kernel
theorem dX3_throwCount_23 : decode cX3_throwCount 23 = .ok (.iinc 2 1, 3) := by decide +kernel
theorem dX3_throwCount_26 : decode cX3_throwCount 26 = .ok (.goto (-22), 3) := by decide +kernel
theorem dX3_throwCount_29 : decode cX3_throwCount 29 = .ok (.iload_n 1, 1) := by decide +kernel
theorem dX3_throwCount_30 : decode cX3_throwCount 30 = .ok (.ireturn, 1) := by decide +kernel
theorem dX3_findBest_0 : decode cX3_findBest 0 = .ok (.aload_n 0, 1) := by decide +kernel
theorem dX3_findBest_1 : decode cX3_findBest 1 = .ok (.iconst (-1), 1) := by decide +kernel
theorem dX3_findBest_2 : decode cX3_findBest 2 = .ok (.putfield 43, 3) := by decide +kernel
theorem dX3_findBest_5 : decode cX3_findBest 5 = .ok (.aload_n 0, 1) := by decide +kernel
theorem dX3_findBest_6 : decode cX3_findBest 6 = .ok (.iconst 0, 1) := by decide +kernel
theorem dX3_findBest_7 : decode cX3_findBest 7 = .ok (.iload_n 1, 1) := by decide +kernel
theorem dX3_findBest_8 : decode cX3_findBest 8 = .ok (.iconst 0, 1) := by decide +kernel
theorem dX3_findBest_9 : decode cX3_findBest 9 = .ok (.invokevirtual 47, 3) := by decide +kernel
theorem dX3_findBest_12 : decode cX3_findBest 12 = .ok (.return_, 1) := by decide +kernel
theorem dX3_tryThrow_0 : decode cX3_tryThrow 0 = .ok (.iload_n 3, 1) := by decide +kernel
theorem dX3_tryThrow_1 : decode cX3_tryThrow 1 = .ok (.iconst 5, 1) := by decide +kernel
theorem dX3_tryThrow_2 : decode cX3_tryThrow 2 = .ok (.iload_n 1, 1) := by decide +kernel
theorem dX3_tryThrow_3 : decode cX3_tryThrow 3 = .ok (.isub, 1) := by decide +kernel
theorem dX3_tryThrow_4 : decode cX3_tryThrow 4 = .ok (.bipush 50, 2) := by decide +kernel
theorem dX3_tryThrow_6 : decode cX3_tryThrow 6 = .ok (.imul, 1) := by decide +kernel
theorem dX3_tryThrow_7 : decode cX3_tryThrow 7 = .ok (.iadd, 1) := by decide +kernel
theorem dX3_tryThrow_8 : decode cX3_tryThrow 8 = .ok (.aload_n 0, 1) := by decide +kernel
theorem dX3_tryThrow_9 : decode cX3_tryThrow 9 = .ok (.getfield 43, 3) := by decide +kernel
theorem dX3_tryThrow_12 : decode cX3_tryThrow 12 = .ok (.if_icmp .gt 4, 3) := by decide +kernel
theorem dX3_tryThrow_15 : decode cX3_tryThrow 15 = .ok (.return_, 1) := by decide +kernel
theorem dX3_tryThrow_16 : decode cX3_tryThrow 16 = .ok (.iload_n 1, 1) := by decide +kernel
theorem dX3_tryThrow_17 : decode cX3_tryThrow 17 = .ok (.iconst 5, 1) := by decide +kernel
theorem dX3_tryThrow_18 : decode cX3_tryThrow 18 = .ok (.if_icmp .lt 23, 3) := by decide +kernel
theorem dX3_tryThrow_21 : decode cX3_tryThrow 21 = .ok (.aload_n 0, 1) := by decide +kernel
theorem dX3_tryThrow_22 : decode cX3_tryThrow 22 = .ok (.iload_n 3, 1) := by decide +kernel
theorem dX3_tryThrow_23 : decode cX3_tryThrow 23 = .ok (.putfield 43, 3) := by decide +kernel
theorem dX3_tryThrow_26 : decode cX3_tryThrow 26 = .ok (.aload_n 0, 1) := by decide +kernel
theorem dX3_tryThrow_27 : decode cX3_tryThrow 27 = .ok (.getfield 27, 3) := by decide +kernel
theorem dX3_tryThrow_30 : decode cX3_tryThrow 30 = .ok (.iconst 0, 1) := by decide +kernel
theorem dX3_tryThrow_31 : decode cX3_tryThrow 31 = .ok (.aload_n 0, 1) := by decide +kernel
theorem dX3_tryThrow_32 : decode cX3_tryThrow 32 = .ok (.getfield 30, 3) := by decide +kernel
theorem dX3_tryThrow_35 : decode cX3_tryThrow 35 = .ok (.iconst 0, 1) := by decide +kernel
theorem dX3_tryThrow_36 : decode cX3_tryThrow 36 = .ok (.iconst 5, 1) := by decide +kernel
theorem dX3_tryThrow_37 : decode cX3_tryThrow 37 = .ok (.invokestatic 51, 3) := by decide +kernel
theorem dX3_tryThrow_40 : decode cX3_tryThrow 40 = .ok (.return_, 1) := by decide +kernel
theorem dX3_tryThrow_41 : decode cX3_tryThrow 41 = .ok (.aload_n 0, 1) := by decide +kernel
theorem dX3_tryThrow_42 : decode cX3_tryThrow 42 = .ok (.getfield 11, 3) := by decide +kernel
theorem dX3_tryThrow_45 : decode cX3_tryThrow 45 = .ok (.iload_n 1, 1) := by decide +kernel
theorem dX3_tryThrow_46 : decode cX3_tryThrow 46 = .ok (.iaload, 1) := by decide +kernel
theorem dX3_tryThrow_47 : decode cX3_tryThrow 47 = .ok (.bipush (-2), 2) := by decide +kernel
theorem dX3_tryThrow_49 : decode cX3_tryThrow 49 = .ok (.if_icmp .ne 13, 3) := by decide +kernel
theorem dX3_tryThrow_52 : decode cX3_tryThrow 52 = .ok (.aload_n 0, 1) := by decide +kernel
theorem dX3_tryThrow_53 : decode cX3_tryThrow 53 = .ok (.iload_n 1, 1) := by decide +kernel
theorem dX3_tryThrow_54 : decode cX3_tryThrow 54 = .ok (.iconst 1, 1) := by decide +kernel
theorem dX3_tryThrow_55 : decode cX3_tryThrow 55 = .ok (.iadd, 1) := by decide +kernel
theorem dX3_tryThrow_56 : decode cX3_tryThrow 56 = .ok (.iload_n 2, 1) := by decide +kernel
theorem dX3_tryThrow_57 : decode cX3_tryThrow 57 = .ok (.iload_n 3, 1) := by decide +kernel
theorem dX3_tryThrow_58 : decode cX3_tryThrow 58 = .ok (.invokevirtual 47, 3) := by decide +kernel
theorem dX3_tryThrow_61 : decode cX3_tryThrow 61 = .ok (.return_, 1) := by decide +kernel
theorem dX3_tryThrow_62 : decode cX3_tryThrow 62 = .ok (.iconst 0, 1) := by decide +kernel
theorem dX3_tryThrow_63 : decode cX3_tryThrow 63 = .ok (.istore 4, 2) := by decide +kernel
theorem dX3_tryThrow_65 : decode cX3_tryThrow 65 = .ok (.iload 4, 2) := by decide +kernel
theorem dX3_tryThrow_67 : decode cX3_tryThrow 67 = .ok (.bipush 9, 2) := by decide +kernel
theorem dX3_tryThrow_69 : decode cX3_tryThrow 69 = .ok (.if_icmp .ge 53, 3) := by decide +kernel
theorem dX3_tryThrow_72 : decode cX3_tryThrow 72 = .ok (.iload_n 2, 1) := by decide +kernel
theorem dX3_tryThrow_73 : decode cX3_tryThrow 73 = .ok (.iload 4, 2) := by decide +kernel
theorem dX3_tryThrow_75 : decode cX3_tryThrow 75 = .ok (.ishr, 1) := by decide +kernel
theorem dX3_tryThrow_76 : decode cX3_tryThrow 76 = .ok (.iconst 1, 1) := by decide +kernel
theorem dX3_tryThrow_77 : decode cX3_tryThrow 77 = .ok (.iand, 1) := by decide +kernel
theorem dX3_tryThrow_78 : decode cX3_tryThrow 78 = .ok (.iconst 1, 1) := by decide +kernel
theorem dX3_tryThrow_79 : decode cX3_tryThrow 79 = .ok (.if_icmp .ne 37, 3) := by decide +kernel
theorem dX3_tryThrow_82 : decode cX3_tryThrow 82 = .ok (.aload_n 0, 1) := by decide +kernel
theorem dX3_tryThrow_83 : decode cX3_tryThrow 83 = .ok (.getfield 27, 3) := by decide +kernel
theorem dX3_tryThrow_86 : decode cX3_tryThrow 86 = .ok (.iload_n 1, 1) := by decide +kernel
theorem dX3_tryThrow_87 : decode cX3_tryThrow 87 = .ok (.iload 4, 2) := by decide +kernel
theorem dX3_tryThrow_89 : decode cX3_tryThrow 89 = .ok (.iastore, 1) := by decide +kernel
theorem dX3_tryThrow_90 : decode cX3_tryThrow 90 = .ok (.aload_n 0, 1) := by decide +kernel
theorem dX3_tryThrow_91 : decode cX3_tryThrow 91 = .ok (.iload_n 1, 1) := by decide +kernel
theorem dX3_tryThrow_92 : decode cX3_tryThrow 92 = .ok (.iconst 1, 1) := by decide +kernel
theorem dX3_tryThrow_93 : decode cX3_tryThrow 93 = .ok (.iadd, 1) := by decide +kernel
theorem dX3_tryThrow_94 : decode cX3_tryThrow 94 = .ok (.iload_n 2, 1) := by decide +kernel
theorem dX3_tryThrow_95 : decode cX3_tryThrow 95 = .ok (.iconst 1, 1) := by decide +kernel
theorem dX3_tryThrow_96 : decode cX3_tryThrow 96 = .ok (.iload 4, 2) := by decide +kernel
theorem dX3_tryThrow_98 : decode cX3_tryThrow 98 = .ok (.ishl, 1) := by decide +kernel
theorem dX3_tryThrow_99 : decode cX3_tryThrow 99 = .ok (.iconst (-1), 1) := by decide +kernel
theorem dX3_tryThrow_100 : decode cX3_tryThrow 100 = .ok (.ixor, 1) := by decide +kernel
theorem dX3_tryThrow_101 : decode cX3_tryThrow 101 = .ok (.iand, 1) := by decide +kernel
theorem dX3_tryThrow_102 : decode cX3_tryThrow 102 = .ok (.iload_n 3, 1) := by decide +kernel
theorem dX3_tryThrow_103 : decode cX3_tryThrow 103 = .ok (.aload_n 0, 1) := by decide +kernel
theorem dX3_tryThrow_104 : decode cX3_tryThrow 104 = .ok (.getfield 24, 3) := by decide +kernel
theorem dX3_tryThrow_107 : decode cX3_tryThrow 107 = .ok (.iload_n 1, 1) := by decide +kernel
theorem dX3_tryThrow_108 : decode cX3_tryThrow 108 = .ok (.aaload, 1) := by decide +kernel
theorem dX3_tryThrow_109 : decode cX3_tryThrow 109 = .ok (.iload 4, 2) := by decide +kernel
theorem dX3_tryThrow_111 : decode cX3_tryThrow 111 = .ok (.iaload, 1) := by decide +kernel
theorem dX3_tryThrow_112 : decode cX3_tryThrow 112 = .ok (.iadd, 1) := by decide +kernel
theorem dX3_tryThrow_113 : decode cX3_tryThrow 113 = .ok (.invokevirtual 47, 3) := by decide +kernel
theorem dX3_tryThrow_116 : decode cX3_tryThrow 116 = .ok (.iinc 4 1, 3) := by decide +kernel
theorem dX3_tryThrow_119 : decode cX3_tryThrow 119 = .ok (.goto (-54), 3) := by decide +kernel
theorem dX3_tryThrow_122 : decode cX3_tryThrow 122 = .ok (.return_, 1) := by decide +kernel
theorem dX4_init_0 : decode cX4_init 0 = .ok (.aload_n 0, 1) := by decide +kernel
theorem dX4_init_1 : decode cX4_init 1 = .ok (.invokespecial 3, 3) := by decide +kernel
theorem dX4_init_4 : decode cX4_init 4 = .ok (.aload_n 0, 1) := by decide +kernel
theorem dX4_init_5 : decode cX4_init 5 = .ok (.bipush 6, 2) := by decide +kernel
theorem dX4_init_7 : decode cX4_init 7 = .ok (.anewarray 9, 3) := by decide +kernel
theorem dX4_init_10 : decode cX4_init 10 = .ok (.putfield 11, 3) := by decide +kernel
theorem dX4_init_13 : decode cX4_init 13 = .ok (.aload_n 0, 1) := by decide +kernel
theorem dX4_init_14 : decode cX4_init 14 = .ok (.iconst 0, 1) := by decide +kernel
theorem dX4_init_15 : decode cX4_init 15 = .ok (.putfield 17, 3) := by decide +kernel
theorem dX4_init_18 : decode cX4_init 18 = .ok (.aload_n 0, 1) := by decide +kernel
theorem dX4_init_19 : decode cX4_init 19 = .ok (.sipush 300, 3) := by decide +kernel
theorem dX4_init_22 : decode cX4_init 22 = .ok (.putfield 21, 3) := by decide +kernel
theorem dX4_init_25 : decode cX4_init 25 = .ok (.iconst 0, 1) := by decide +kernel
theorem dX4_init_26 : decode cX4_init 26 = .ok (.istore_n 1, 1) := by decide +kernel
theorem dX4_init_27 : decode cX4_init 27 = .ok (.iload_n 1, 1) := by decide +kernel
theorem dX4_init_28 : decode cX4_init 28 = .ok (.bipush 6, 2) := by decide +kernel
theorem dX4_init_30 : decode cX4_init 30 = .ok (.if_icmp .ge 22, 3) := by decide +kernel
theorem dX4_init_33 : decode cX4_init 33 = .ok (.aload_n 0, 1) := by decide +kernel
theorem dX4_init_34 : decode cX4_init 34 = .ok (.getfield 11, 3) := by decide +kernel
theorem dX4_init_37 : decode cX4_init 37 = .ok (.iload_n 1, 1) := by decide +kernel
theorem dX4_init_38 : decode cX4_init 38 = .ok (.new 9, 3) := by decide +kernel
theorem dX4_init_41 : decode cX4_init 41 = .ok (.dup, 1) := by decide +kernel
theorem dX4_init_42 : decode cX4_init 42 = .ok (.invokespecial 24, 3) := by decide +kernel
theorem dX4_init_45 : decode cX4_init 45 = .ok (.aastore, 1) := by decide +kernel
theorem dX4_init_46 : decode cX4_init 46 = .ok (.iinc 1 1, 3) := by decide +kernel
theorem dX4_init_49 : decode cX4_init 49 = .ok (.goto (-22), 3) := by decide +kernel
theorem dX4_init_52 : decode cX4_init 52 = .ok (.return_, 1) := by decide +kernel
theorem dX4_plant_0 : decode cX4_plant 0 = .ok (.aload_n 0, 1) := by decide +kernel
theorem dX4_plant_1 : decode cX4_plant 1 = .ok (.getfield 17, 3) := by decide +kernel
theorem dX4_plant_4 : decode cX4_plant 4 = .ok (.bipush 6, 2) := by decide +kernel
theorem dX4_plant_6 : decode cX4_plant 6 = .ok (.if_icmp .lt 6, 3) := by decide +kernel
theorem dX4_plant_9 : decode cX4_plant 9 = .ok (.bipush (-3), 2) := by decide +kernel
theorem dX4_plant_11 : decode cX4_plant 11 = .ok (.ireturn, 1) := by decide +kernel
theorem dX4_plant_12 : decode cX4_plant 12 = .ok (.aload_n 0, 1) := by decide +kernel
theorem dX4_plant_13 : decode cX4_plant 13 = .ok (.getfield 11, 3) := by decide +kernel
theorem dX4_plant_16 : decode cX4_plant 16 = .ok (.aload_n 0, 1) := by decide +kernel
theorem dX4_plant_17 : decode cX4_plant 17 = .ok (.getfield 17, 3) := by decide +kernel
theorem dX4_plant_20 : decode cX4_plant 20 = .ok (.aaload, 1) := by decide +kernel
theorem dX4_plant_21 : decode cX4_plant 21 = .ok (.astore 5, 2) := by decide +kernel
theorem dX4_plant_23 : decode cX4_plant 23 = .ok (.aload 5, 2) := by decide +kernel
theorem dX4_plant_25 : decode cX4_plant 25 = .ok (.iload_n 1, 1) := by decide +kernel
theorem dX4_plant_26 : decode cX4_plant 26 = .ok (.putfield 25, 3) := by decide +kernel
theorem dX4_plant_29 : decode cX4_plant 29 = .ok (.aload 5, 2) := by decide +kernel
theorem dX4_plant_31 : decode cX4_plant 31 = .ok (.iload_n 2, 1) := by decide +kernel
theorem dX4_plant_32 : decode cX4_plant 32 = .ok (.putfield 28, 3) := by decide +kernel
theorem dX4_plant_35 : decode cX4_plant 35 = .ok (.aload 5, 2) := by decide +kernel
theorem dX4_plant_37 : decode cX4_plant 37 = .ok (.iload_n 3, 1) := by decide +kernel
theorem dX4_plant_38 : decode cX4_plant 38 = .ok (.putfield 31, 3) := by decide +kernel
theorem dX4_plant_41 : decode cX4_plant 41 = .ok (.aload 5, 2) := by decide +kernel
theorem dX4_plant_43 : decode cX4_plant 43 = .ok (.iload 4, 2) := by decide +kernel
theorem dX4_plant_45 : decode cX4_plant 45 = .ok (.putfield 34, 3) := by decide +kernel
theorem dX4_plant_48 : decode cX4_plant 48 = .ok (.aload_n 0, 1) := by decide +kernel
theorem dX4_plant_49 : decode cX4_plant 49 = .ok (.dup, 1) := by decide +kernel
theorem dX4_plant_50 : decode cX4_plant 50 = .ok (.getfield 17, 3) := by decide +kernel
theorem dX4_plant_53 : decode cX4_plant 53 = .ok (.iconst 1, 1) := by decide +kernel
theorem dX4_plant_54 : decode cX4_plant 54 = .ok (.iadd, 1) := by decide +kernel
theorem dX4_plant_55 : decode cX4_plant 55 = .ok (.putfield 17, 3) := by decide +kernel
theorem dX4_plant_58 : decode cX4_plant 58 = .ok (.aload_n 0, 1) := by decide +kernel
theorem dX4_plant_59 : decode cX4_plant 59 = .ok (.getfield 17, 3) := by decide +kernel
theorem dX4_plant_62 : decode cX4_plant 62 = .ok (.iconst 1, 1) := by decide +kernel
theorem dX4_plant_63 : decode cX4_plant 63 = .ok (.isub, 1) := by decide +kernel
theorem dX4_plant_64 : decode cX4_plant 64 = .ok (.ireturn, 1) := by decide +kernel
theorem dX5_init_0 : decode cX5_init 0 = .ok (.aload_n 0, 1) := by decide +kernel
theorem dX5_init_1 : decode cX5_init 1 = .ok (.invokespecial 1, 3) := by decide +kernel
theorem dX5_init_4 : decode cX5_init 4 = .ok (.aload_n 0, 1) := by decide +kernel
theorem dX5_init_5 : decode cX5_init 5 = .ok (.new 7, 3) := by decide +kernel
theorem dX5_init_8 : decode cX5_init 8 = .ok (.dup, 1) := by decide +kernel
theorem dX5_init_9 : decode cX5_init 9 = .ok (.invokespecial 9, 3) := by decide +kernel
theorem dX5_init_12 : decode cX5_init 12 = .ok (.putfield 10, 3) := by decide +kernel
theorem dX5_init_15 : decode cX5_init 15 = .ok (.return_, 1) := by decide +kernel
theorem dX6_init_0 : decode cX6_init 0 = .ok (.aload_n 0, 1) := by decide +kernel
theorem dX6_init_1 : decode cX6_init 1 = .ok (.invokespecial 1, 3) := by decide +kernel
theorem dX6_init_4 : decode cX6_init 4 = .ok (.aload_n 0, 1) := by decide +kernel
theorem dX6_init_5 : decode cX6_init 5 = .ok (.iconst (-1), 1) := by decide +kernel
theorem dX6_init_6 : decode cX6_init 6 = .ok (.putfield 9, 3) := by decide +kernel
theorem dX6_init_9 : decode cX6_init 9 = .ok (.aload_n 0, 1) := by decide +kernel
theorem dX6_init_10 : decode cX6_init 10 = .ok (.iconst 0, 1) := by decide +kernel
theorem dX6_init_11 : decode cX6_init 11 = .ok (.putfield 13, 3) := by decide +kernel
theorem dX6_init_14 : decode cX6_init 14 = .ok (.aload_n 0, 1) := by decide +kernel
theorem dX6_init_15 : decode cX6_init 15 = .ok (.bipush 60, 2) := by decide +kernel
theorem dX6_init_17 : decode cX6_init 17 = .ok (.newarray .int, 2) := by decide +kernel
theorem dX6_init_19 : decode cX6_init 19 = .ok (.putfield 16, 3) := by decide +kernel
theorem dX6_init_22 : decode cX6_init 22 = .ok (.return_, 1) := by decide +kernel
theorem dX6_hold_0 : decode cX6_hold 0 = .ok (.aload_n 0, 1) := by decide +kernel
theorem dX6_hold_1 : decode cX6_hold 1 = .ok (.iload_n 1, 1) := by decide +kernel
theorem dX6_hold_2 : decode cX6_hold 2 = .ok (.putfield 9, 3) := by decide +kernel
theorem dX6_hold_5 : decode cX6_hold 5 = .ok (.aload_n 0, 1) := by decide +kernel
theorem dX6_hold_6 : decode cX6_hold 6 = .ok (.iload_n 2, 1) := by decide +kernel
theorem dX6_hold_7 : decode cX6_hold 7 = .ok (.putfield 13, 3) := by decide +kernel
theorem dX6_hold_10 : decode cX6_hold 10 = .ok (.aload_n 0, 1) := by decide +kernel
theorem dX6_hold_11 : decode cX6_hold 11 = .ok (.getfield 16, 3) := by decide +kernel
theorem dX6_hold_14 : decode cX6_hold 14 = .ok (.iconst 0, 1) := by decide +kernel
theorem dX6_hold_15 : decode cX6_hold 15 = .ok (.invokestatic 20, 3) := by decide +kernel
theorem dX6_hold_18 : decode cX6_hold 18 = .ok (.return_, 1) := by decide +kernel
theorem dX6_isEmptyHanded_0 : decode cX6_isEmptyHanded 0 = .ok (.aload_n 0, 1) := by decide +kernel
theorem dX6_isEmptyHanded_1 : decode cX6_isEmptyHanded 1 = .ok (.getfield 9, 3) := by decide +kernel
theorem dX6_isEmptyHanded_4 : decode cX6_isEmptyHanded 4 = .ok (.iconst (-1), 1) := by decide +kernel
theorem dX6_isEmptyHanded_5 : decode cX6_isEmptyHanded 5 = .ok (.if_icmp .ne 7, 3) := by decide +kernel
theorem dX6_isEmptyHanded_8 : decode cX6_isEmptyHanded 8 = .ok (.iconst 1, 1) := by decide +kernel
theorem dX6_isEmptyHanded_9 : decode cX6_isEmptyHanded 9 = .ok (.goto 4, 3) := by decide +kernel
theorem dX6_isEmptyHanded_12 : decode cX6_isEmptyHanded 12 = .ok (.iconst 0, 1) := by decide +kernel
theorem dX6_isEmptyHanded_13 : decode cX6_isEmptyHanded 13 = .ok (.ireturn, 1) := by decide +kernel
theorem dX6_has_0 : decode cX6_has 0 = .ok (.iload_n 2, 1) := by decide +kernel
theorem dX6_has_1 : decode cX6_has 1 = .ok (.ifCond .lt 29, 3) := by decide +kernel
theorem dX6_has_4 : decode cX6_has 4 = .ok (.iload_n 2, 1) := by decide +kernel
theorem dX6_has_5 : decode cX6_has 5 = .ok (.aload_n 0, 1) := by decide +kernel
theorem dX6_has_6 : decode cX6_has 6 = .ok (.getfield 13, 3) := by decide +kernel
theorem dX6_has_9 : decode cX6_has 9 = .ok (.if_icmp .gt 21, 3) := by decide +kernel
theorem dX6_has_12 : decode cX6_has 12 = .ok (.iload_n 1, 1) := by decide +kernel
theorem dX6_has_13 : decode cX6_has 13 = .ok (.ifCond .lt 17, 3) := by decide +kernel
theorem dX6_has_16 : decode cX6_has 16 = .ok (.iload_n 1, 1) := by decide +kernel
theorem dX6_has_17 : decode cX6_has 17 = .ok (.aload_n 0, 1) := by decide +kernel
theorem dX6_has_18 : decode cX6_has 18 = .ok (.getfield 13, 3) := by decide +kernel
theorem dX6_has_21 : decode cX6_has 21 = .ok (.iload_n 2, 1) := by decide +kernel
theorem dX6_has_22 : decode cX6_has 22 = .ok (.isub, 1) := by decide +kernel
theorem dX6_has_23 : decode cX6_has 23 = .ok (.if_icmp .gt 7, 3) := by decide +kernel
theorem dX6_has_26 : decode cX6_has 26 = .ok (.iconst 1, 1) := by decide +kernel
theorem dX6_has_27 : decode cX6_has 27 = .ok (.goto 4, 3) := by decide +kernel
theorem dX6_has_30 : decode cX6_has 30 = .ok (.iconst 0, 1) := by decide +kernel
theorem dX6_has_31 : decode cX6_has 31 = .ok (.ireturn, 1) := by decide +kernel
theorem dX6_put_0 : decode cX6_put 0 = .ok (.aload_n 0, 1) := by decide +kernel
theorem dX6_put_1 : decode cX6_put 1 = .ok (.getfield 9, 3) := by decide +kernel
theorem dX6_put_4 : decode cX6_put 4 = .ok (.ifCond .ne 14, 3) := by decide +kernel
theorem dX6_put_7 : decode cX6_put 7 = .ok (.aload_n 0, 1) := by decide +kernel
theorem dX6_put_8 : decode cX6_put 8 = .ok (.getfield 16, 3) := by decide +kernel
theorem dX6_put_11 : decode cX6_put 11 = .ok (.iload_n 1, 1) := by decide +kernel
theorem dX6_put_12 : decode cX6_put 12 = .ok (.iload_n 2, 1) := by decide +kernel
theorem dX6_put_13 : decode cX6_put 13 = .ok (.i2b, 1) := by decide +kernel
theorem dX6_put_14 : decode cX6_put 14 = .ok (.iastore, 1) := by decide +kernel
theorem dX6_put_15 : decode cX6_put 15 = .ok (.goto 29, 3) := by decide +kernel
theorem dX6_put_18 : decode cX6_put 18 = .ok (.aload_n 0, 1) := by decide +kernel
theorem dX6_put_19 : decode cX6_put 19 = .ok (.getfield 9, 3) := by decide +kernel
theorem dX6_put_22 : decode cX6_put 22 = .ok (.iconst 1, 1) := by decide +kernel
theorem dX6_put_23 : decode cX6_put 23 = .ok (.if_icmp .ne 14, 3) := by decide +kernel
theorem dX6_put_26 : decode cX6_put 26 = .ok (.aload_n 0, 1) := by decide +kernel
theorem dX6_put_27 : decode cX6_put 27 = .ok (.getfield 16, 3) := by decide +kernel
theorem dX6_put_30 : decode cX6_put 30 = .ok (.iload_n 1, 1) := by decide +kernel
theorem dX6_put_31 : decode cX6_put 31 = .ok (.iload_n 2, 1) := by decide +kernel
theorem dX6_put_32 : decode cX6_put 32 = .ok (.i2s, 1) := by decide +kernel
theorem dX6_put_33 : decode cX6_put 33 = .ok (.iastore, 1) := by decide +kernel
theorem dX6_put_34 : decode cX6_put 34 = .ok (.goto 10, 3) := by decide +kernel
theorem dX6_put_37 : decode cX6_put 37 = .ok (.aload_n 0, 1) := by decide +kernel
theorem dX6_put_38 : decode cX6_put 38 = .ok (.getfield 16, 3) := by decide +kernel
theorem dX6_put_41 : decode cX6_put 41 = .ok (.iload_n 1, 1) := by decide +kernel
theorem dX6_put_42 : decode cX6_put 42 = .ok (.iload_n 2, 1) := by decide +kernel
theorem dX6_put_43 : decode cX6_put 43 = .ok (.iastore, 1) := by decide +kernel
theorem dX6_put_44 : decode cX6_put 44 = .ok (.return_, 1) := by decide +kernel
theorem dX7_init_0 : decode cX7_init 0 = .ok (.aload_n 0, 1) := by decide +kernel
theorem dX7_init_1 : decode cX7_init 1 = .ok (.invokespecial 3, 3) := by decide +kernel
theorem dX7_init_4 : decode cX7_init 4 = .ok (.aload_n 0, 1) := by decide +kernel
theorem dX7_init_5 : decode cX7_init 5 = .ok (.iconst 0, 1) := by decide +kernel
theorem dX7_init_6 : decode cX7_init 6 = .ok (.putfield 11, 3) := by decide +kernel
theorem dX7_init_9 : decode cX7_init 9 = .ok (.aload_n 0, 1) := by decide +kernel
theorem dX7_init_10 : decode cX7_init 10 = .ok (.iconst 0, 1) := by decide +kernel
theorem dX7_init_11 : decode cX7_init 11 = .ok (.putfield 15, 3) := by decide +kernel
theorem dX7_init_14 : decode cX7_init 14 = .ok (.aload_n 0, 1) := by decide +kernel
theorem dX7_init_15 : decode cX7_init 15 = .ok (.iconst 0, 1) := by decide +kernel
theorem dX7_init_16 : decode cX7_init 16 = .ok (.putfield 18, 3) := by decide +kernel
theorem dX7_init_19 : decode cX7_init 19 = .ok (.aload_n 0, 1) := by decide +kernel
theorem dX7_init_20 : decode cX7_init 20 = .ok (.iconst 4, 1) := by decide +kernel
theorem dX7_init_21 : decode cX7_init 21 = .ok (.newarray .int, 2) := by decide +kernel
theorem dX7_init_23 : decode cX7_init 23 = .ok (.putfield 22, 3) := by decide +kernel
theorem dX7_init_26 : decode cX7_init 26 = .ok (.return_, 1) := by decide +kernel
theorem dX7_make_0 : decode cX7_make 0 = .ok (.aload_n 0, 1) := by decide +kernel
theorem dX7_make_1 : decode cX7_make 1 = .ok (.iload_n 1, 1) := by decide +kernel
theorem dX7_make_2 : decode cX7_make 2 = .ok (.putfield 26, 3) := by decide +kernel
theorem dX7_make_5 : decode cX7_make 5 = .ok (.aload_n 0, 1) := by decide +kernel
theorem dX7_make_6 : decode cX7_make 6 = .ok (.iload_n 2, 1) := by decide +kernel
theorem dX7_make_7 : decode cX7_make 7 = .ok (.putfield 29, 3) := by decide +kernel
theorem dX7_make_10 : decode cX7_make 10 = .ok (.aload_n 0, 1) := by decide +kernel
theorem dX7_make_11 : decode cX7_make 11 = .ok (.iload_n 3, 1) := by decide +kernel
theorem dX7_make_12 : decode cX7_make 12 = .ok (.putfield 32, 3) := by decide +kernel
theorem dX7_make_15 : decode cX7_make 15 = .ok (.aload_n 0, 1) := by decide +kernel
theorem dX7_make_16 : decode cX7_make 16 = .ok (.iload 4, 2) := by decide +kernel
theorem dX7_make_18 : decode cX7_make 18 = .ok (.putfield 35, 3) := by decide +kernel
theorem dX7_make_21 : decode cX7_make 21 = .ok (.aload_n 0, 1) := by decide +kernel
theorem dX7_make_22 : decode cX7_make 22 = .ok (.iload 5, 2) := by decide +kernel
theorem dX7_make_24 : decode cX7_make 24 = .ok (.putfield 11, 3) := by decide +kernel
theorem dX7_make_27 : decode cX7_make 27 = .ok (.aload_n 0, 1) := by decide +kernel
theorem dX7_make_28 : decode cX7_make 28 = .ok (.iconst 1, 1) := by decide +kernel
theorem dX7_make_29 : decode cX7_make 29 = .ok (.putfield 18, 3) := by decide +kernel
theorem dX7_make_32 : decode cX7_make 32 = .ok (.return_, 1) := by decide +kernel
theorem dX7_isWinged_0 : decode cX7_isWinged 0 = .ok (.aload_n 0, 1) := by decide +kernel
theorem dX7_isWinged_1 : decode cX7_isWinged 1 = .ok (.getfield 11, 3) := by decide +kernel
theorem dX7_isWinged_4 : decode cX7_isWinged 4 = .ok (.ifCond .eq 7, 3) := by decide +kernel
theorem dX7_isWinged_7 : decode cX7_isWinged 7 = .ok (.iconst 1, 1) := by decide +kernel
theorem dX7_isWinged_8 : decode cX7_isWinged 8 = .ok (.goto 4, 3) := by decide +kernel
theorem dX7_isWinged_11 : decode cX7_isWinged 11 = .ok (.iconst 0, 1) := by decide +kernel
theorem dX7_isWinged_12 : decode cX7_isWinged 12 = .ok (.ireturn, 1) := by decide +kernel
theorem dX7_liftAt_0 : decode cX7_liftAt 0 = .ok (.iload_n 1, 1) := by decide +kernel
theorem dX7_liftAt_1 : decode cX7_liftAt 1 = .ok (.bipush 60, 2) := by decide +kernel
theorem dX7_liftAt_3 : decode cX7_liftAt 3 = .ok (.if_icmp .ge 7, 3) := by decide +kernel
theorem dX7_liftAt_6 : decode cX7_liftAt 6 = .ok (.iconst 0, 1) := by decide +kernel
theorem dX7_liftAt_7 : decode cX7_liftAt 7 = .ok (.goto 25, 3) := by decide +kernel
theorem dX7_liftAt_10 : decode cX7_liftAt 10 = .ok (.iload_n 1, 1) := by decide +kernel
theorem dX7_liftAt_11 : decode cX7_liftAt 11 = .ok (.bipush 120, 2) := by decide +kernel
theorem dX7_liftAt_13 : decode cX7_liftAt 13 = .ok (.if_icmp .ge 7, 3) := by decide +kernel
theorem dX7_liftAt_16 : decode cX7_liftAt 16 = .ok (.iconst 1, 1) := by decide +kernel
theorem dX7_liftAt_17 : decode cX7_liftAt 17 = .ok (.goto 15, 3) := by decide +kernel
theorem dX7_liftAt_20 : decode cX7_liftAt 20 = .ok (.iload_n 1, 1) := by decide +kernel
theorem dX7_liftAt_21 : decode cX7_liftAt 21 = .ok (.sipush 180, 3) := by decide +kernel
theorem dX7_liftAt_24 : decode cX7_liftAt 24 = .ok (.if_icmp .ge 7, 3) := by decide +kernel
theorem dX7_liftAt_27 : decode cX7_liftAt 27 = .ok (.iconst 2, 1) := by decide +kernel
theorem dX7_liftAt_28 : decode cX7_liftAt 28 = .ok (.goto 4, 3) := by decide +kernel
theorem dX7_liftAt_31 : decode cX7_liftAt 31 = .ok (.iconst 3, 1) := by decide +kernel
theorem dX7_liftAt_32 : decode cX7_liftAt 32 = .ok (.istore_n 3, 1) := by decide +kernel
theorem dX7_liftAt_33 : decode cX7_liftAt 33 = .ok (.aload_n 0, 1) := by decide +kernel
theorem dX7_liftAt_34 : decode cX7_liftAt 34 = .ok (.getfield 22, 3) := by decide +kernel
theorem dX7_liftAt_37 : decode cX7_liftAt 37 = .ok (.iload_n 3, 1) := by decide +kernel
theorem dX7_liftAt_38 : decode cX7_liftAt 38 = .ok (.iaload, 1) := by decide +kernel
theorem dX7_liftAt_39 : decode cX7_liftAt 39 = .ok (.iload_n 2, 1) := by decide +kernel
theorem dX7_liftAt_40 : decode cX7_liftAt 40 = .ok (.imul, 1) := by decide +kernel
theorem dX7_liftAt_41 : decode cX7_liftAt 41 = .ok (.sipush 1000, 3) := by decide +kernel
theorem dX7_liftAt_44 : decode cX7_liftAt 44 = .ok (.idiv, 1) := by decide +kernel
theorem dX7_liftAt_45 : decode cX7_liftAt 45 = .ok (.istore 4, 2) := by decide +kernel
theorem dX7_liftAt_47 : decode cX7_liftAt 47 = .ok (.aload_n 0, 1) := by decide +kernel
theorem dX7_liftAt_48 : decode cX7_liftAt 48 = .ok (.getfield 11, 3) := by decide +kernel
theorem dX7_liftAt_51 : decode cX7_liftAt 51 = .ok (.ifCond .eq 23, 3) := by decide +kernel
theorem dX7_liftAt_54 : decode cX7_liftAt 54 = .ok (.iload_n 2, 1) := by decide +kernel
theorem dX7_liftAt_55 : decode cX7_liftAt 55 = .ok (.sipush 300, 3) := by decide +kernel
theorem dX7_liftAt_58 : decode cX7_liftAt 58 = .ok (.if_icmp .ge 13, 3) := by decide +kernel
theorem dX7_liftAt_61 : decode cX7_liftAt 61 = .ok (.iload 4, 2) := by decide +kernel
theorem dX7_liftAt_63 : decode cX7_liftAt 63 = .ok (.aload_n 0, 1) := by decide +kernel
theorem dX7_liftAt_64 : decode cX7_liftAt 64 = .ok (.getfield 11, 3) := by decide +kernel
theorem dX7_liftAt_67 : decode cX7_liftAt 67 = .ok (.iadd, 1) := by decide +kernel
theorem dX7_liftAt_68 : decode cX7_liftAt 68 = .ok (.goto 5, 3) := by decide +kernel
theorem dX7_liftAt_71 : decode cX7_liftAt 71 = .ok (.iload 4, 2) := by decide +kernel
theorem dX7_liftAt_73 : decode cX7_liftAt 73 = .ok (.ireturn, 1) := by decide +kernel
theorem dX7_liftAt_74 : decode cX7_liftAt 74 = .ok (.iload_n 2, 1) := by decide +kernel
theorem dX7_liftAt_75 : decode cX7_liftAt 75 = .ok (.bipush 100, 2) := by decide +kernel
theorem dX7_liftAt_77 : decode cX7_liftAt 77 = .ok (.if_icmp .ge 7, 3) := by decide +kernel
theorem dX7_liftAt_80 : decode cX7_liftAt 80 = .ok (.iconst 0, 1) := by decide +kernel
theorem dX7_liftAt_81 : decode cX7_liftAt 81 = .ok (.goto 5, 3) := by decide +kernel
theorem dX7_liftAt_84 : decode cX7_liftAt 84 = .ok (.iload 4, 2) := by decide +kernel
theorem dX7_liftAt_86 : decode cX7_liftAt 86 = .ok (.ireturn, 1) := by decide +kernel
theorem dX8_init_0 : decode cX8_init 0 = .ok (.aload_n 0, 1) := by decide +kernel
theorem dX8_init_1 : decode cX8_init 1 = .ok (.invokespecial 1, 3) := by decide +kernel
theorem dX8_init_4 : decode cX8_init 4 = .ok (.return_, 1) := by decide +kernel
theorem dX9_init_0 : decode cX9_init 0 = .ok (.aload_n 0, 1) := by decide +kernel
theorem dX9_init_1 : decode cX9_init 1 = .ok (.invokespecial 3, 3) := by decide +kernel
theorem dX9_init_4 : decode cX9_init 4 = .ok (.aload_n 0, 1) := by decide +kernel
theorem dX9_init_5 : decode cX9_init 5 = .ok (.iconst 4, 1) := by decide +kernel
theorem dX9_init_6 : decode cX9_init 6 = .ok (.newarray .int, 2) := by decide +kernel
theorem dX9_init_8 : decode cX9_init 8 = .ok (.putfield 9, 3) := by decide +kernel
theorem dX9_init_11 : decode cX9_init 11 = .ok (.aload_n 0, 1) := by decide +kernel
theorem dX9_init_12 : decode cX9_init 12 = .ok (.iconst 4, 1) := by decide +kernel
theorem dX9_init_13 : decode cX9_init 13 = .ok (.newarray .int, 2) := by decide +kernel
theorem dX9_init_15 : decode cX9_init 15 = .ok (.putfield 15, 3) := by decide +kernel
theorem dX9_init_18 : decode cX9_init 18 = .ok (.return_, 1) := by decide +kernel
theorem dX9_turnBy_0 : decode cX9_turnBy 0 = .ok (.iconst 0, 1) := by decide +kernel
theorem dX9_turnBy_1 : decode cX9_turnBy 1 = .ok (.istore_n 2, 1) := by decide +kernel
theorem dX9_turnBy_2 : decode cX9_turnBy 2 = .ok (.iload_n 2, 1) := by decide +kernel
theorem dX9_turnBy_3 : decode cX9_turnBy 3 = .ok (.iconst 4, 1) := by decide +kernel
theorem dX9_turnBy_4 : decode cX9_turnBy 4 = .ok (.if_icmp .ge 29, 3) := by decide +kernel
theorem dX9_turnBy_7 : decode cX9_turnBy 7 = .ok (.aload_n 0, 1) := by decide +kernel
theorem dX9_turnBy_8 : decode cX9_turnBy 8 = .ok (.getfield 15, 3) := by decide +kernel
theorem dX9_turnBy_11 : decode cX9_turnBy 11 = .ok (.iload_n 2, 1) := by decide +kernel
theorem dX9_turnBy_12 : decode cX9_turnBy 12 = .ok (.aload_n 0, 1) := by decide +kernel
theorem dX9_turnBy_13 : decode cX9_turnBy 13 = .ok (.getfield 15, 3) := by decide +kernel
theorem dX9_turnBy_16 : decode cX9_turnBy 16 = .ok (.iload_n 2, 1) := by decide +kernel
theorem dX9_turnBy_17 : decode cX9_turnBy 17 = .ok (.iaload, 1) := by decide +kernel
theorem dX9_turnBy_18 : decode cX9_turnBy 18 = .ok (.iload_n 1, 1) := by decide +kernel
theorem dX9_turnBy_19 : decode cX9_turnBy 19 = .ok (.iadd, 1) := by decide +kernel
theorem dX9_turnBy_20 : decode cX9_turnBy 20 = .ok (.sipush 360, 3) := by decide +kernel
theorem dX9_turnBy_23 : decode cX9_turnBy 23 = .ok (.invokestatic 18, 3) := by decide +kernel
theorem dX9_turnBy_26 : decode cX9_turnBy 26 = .ok (.iastore, 1) := by decide +kernel
theorem dX9_turnBy_27 : decode cX9_turnBy 27 = .ok (.iinc 2 1, 3) := by decide +kernel
theorem dX9_turnBy_30 : decode cX9_turnBy 30 = .ok (.goto (-28), 3) := by decide +kernel
theorem dX9_turnBy_33 : decode cX9_turnBy 33 = .ok (.return_, 1) := by decide +kernel
theorem dX9_bandAt_0 : decode cX9_bandAt 0 = .ok (.iload_n 0, 1) := by decide +kernel
theorem dX9_bandAt_1 : decode cX9_bandAt 1 = .ok (.sipush 200, 3) := by decide +kernel
theorem dX9_bandAt_4 : decode cX9_bandAt 4 = .ok (.if_icmp .ge 7, 3) := by decide +kernel
theorem dX9_bandAt_7 : decode cX9_bandAt 7 = .ok (.iconst 0, 1) := by decide +kernel
theorem dX9_bandAt_8 : decode cX9_bandAt 8 = .ok (.goto 26, 3) := by decide +kernel
theorem dX9_bandAt_11 : decode cX9_bandAt 11 = .ok (.iload_n 0, 1) := by decide +kernel
theorem dX9_bandAt_12 : decode cX9_bandAt 12 = .ok (.sipush 500, 3) := by decide +kernel
theorem dX9_bandAt_15 : decode cX9_bandAt 15 = .ok (.if_icmp .ge 7, 3) := by decide +kernel
theorem dX9_bandAt_18 : decode cX9_bandAt 18 = .ok (.iconst 1, 1) := by decide +kernel
theorem dX9_bandAt_19 : decode cX9_bandAt 19 = .ok (.goto 15, 3) := by decide +kernel
theorem dX9_bandAt_22 : decode cX9_bandAt 22 = .ok (.iload_n 0, 1) := by decide +kernel
theorem dX9_bandAt_23 : decode cX9_bandAt 23 = .ok (.sipush 1000, 3) := by decide +kernel
theorem dX9_bandAt_26 : decode cX9_bandAt 26 = .ok (.if_icmp .ge 7, 3) := by decide +kernel
theorem dX9_bandAt_29 : decode cX9_bandAt 29 = .ok (.iconst 2, 1) := by decide +kernel
theorem dX9_bandAt_30 : decode cX9_bandAt 30 = .ok (.goto 4, 3) := by decide +kernel
theorem dX9_bandAt_33 : decode cX9_bandAt 33 = .ok (.iconst 3, 1) := by decide +kernel
theorem dX9_bandAt_34 : decode cX9_bandAt 34 = .ok (.ireturn, 1) := by decide +kernel
theorem dX10_init_0 : decode cX10_init 0 = .ok (.aload_n 0, 1) := by decide +kernel
theorem dX10_init_1 : decode cX10_init 1 = .ok (.invokespecial 1, 3) := by decide +kernel
theorem dX10_init_4 : decode cX10_init 4 = .ok (.aload_n 0, 1) := by decide +kernel
theorem dX10_init_5 : decode cX10_init 5 = .ok (.invokestatic 7, 3) := by decide +kernel
theorem dX10_init_8 : decode cX10_init 8 = .ok (.putfield 13, 3) := by decide +kernel
theorem dX10_init_11 : decode cX10_init 11 = .ok (.aload_n 0, 1) := by decide +kernel
theorem dX10_init_12 : decode cX10_init 12 = .ok (.bipush 9, 2) := by decide +kernel
theorem dX10_init_14 : decode cX10_init 14 = .ok (.anewarray 17, 3) := by decide +kernel
theorem dX10_init_17 : decode cX10_init 17 = .ok (.putfield 19, 3) := by decide +kernel
theorem dX10_init_20 : decode cX10_init 20 = .ok (.aload_n 0, 1) := by decide +kernel
theorem dX10_init_21 : decode cX10_init 21 = .ok (.iconst 0, 1) := by decide +kernel
theorem dX10_init_22 : decode cX10_init 22 = .ok (.putfield 23, 3) := by decide +kernel
theorem dX10_init_25 : decode cX10_init 25 = .ok (.aload_n 0, 1) := by decide +kernel
theorem dX10_init_26 : decode cX10_init 26 = .ok (.bipush 8, 2) := by decide +kernel
theorem dX10_init_28 : decode cX10_init 28 = .ok (.anewarray 27, 3) := by decide +kernel
theorem dX10_init_31 : decode cX10_init 31 = .ok (.putfield 29, 3) := by decide +kernel
theorem dX10_init_34 : decode cX10_init 34 = .ok (.aload_n 0, 1) := by decide +kernel
theorem dX10_init_35 : decode cX10_init 35 = .ok (.iconst 0, 1) := by decide +kernel
theorem dX10_init_36 : decode cX10_init 36 = .ok (.putfield 33, 3) := by decide +kernel
theorem dX10_init_39 : decode cX10_init 39 = .ok (.aload_n 0, 1) := by decide +kernel
theorem dX10_init_40 : decode cX10_init 40 = .ok (.new 27, 3) := by decide +kernel
theorem dX10_init_43 : decode cX10_init 43 = .ok (.dup, 1) := by decide +kernel
theorem dX10_init_44 : decode cX10_init 44 = .ok (.invokespecial 36, 3) := by decide +kernel
theorem dX10_init_47 : decode cX10_init 47 = .ok (.putfield 37, 3) := by decide +kernel
theorem dX10_init_50 : decode cX10_init 50 = .ok (.aload_n 0, 1) := by decide +kernel
theorem dX10_init_51 : decode cX10_init 51 = .ok (.new 41, 3) := by decide +kernel
theorem dX10_init_54 : decode cX10_init 54 = .ok (.dup, 1) := by decide +kernel
theorem dX10_init_55 : decode cX10_init 55 = .ok (.invokespecial 43, 3) := by decide +kernel
theorem dX10_init_58 : decode cX10_init 58 = .ok (.putfield 44, 3) := by decide +kernel
theorem dX10_init_61 : decode cX10_init 61 = .ok (.aload_n 0, 1) := by decide +kernel
theorem dX10_init_62 : decode cX10_init 62 = .ok (.new 48, 3) := by decide +kernel
theorem dX10_init_65 : decode cX10_init 65 = .ok (.dup, 1) := by decide +kernel
theorem dX10_init_66 : decode cX10_init 66 = .ok (.aload_n 0, 1) := by decide +kernel
theorem dX10_init_67 : decode cX10_init 67 = .ok (.getfield 13, 3) := by decide +kernel
theorem dX10_init_70 : decode cX10_init 70 = .ok (.sipush 401, 3) := by decide +kernel
theorem dX10_init_73 : decode cX10_init 73 = .ok (.invokespecial 50, 3) := by decide +kernel
theorem dX10_init_76 : decode cX10_init 76 = .ok (.putfield 53, 3) := by decide +kernel
theorem dX10_init_79 : decode cX10_init 79 = .ok (.aload_n 0, 1) := by decide +kernel
theorem dX10_init_80 : decode cX10_init 80 = .ok (.new 48, 3) := by decide +kernel
theorem dX10_init_83 : decode cX10_init 83 = .ok (.dup, 1) := by decide +kernel
theorem dX10_init_84 : decode cX10_init 84 = .ok (.aload_n 0, 1) := by decide +kernel
theorem dX10_init_85 : decode cX10_init 85 = .ok (.getfield 13, 3) := by decide +kernel
theorem dX10_init_88 : decode cX10_init 88 = .ok (.iconst 0, 1) := by decide +kernel
theorem dX10_init_89 : decode cX10_init 89 = .ok (.invokespecial 50, 3) := by decide +kernel
theorem dX10_init_92 : decode cX10_init 92 = .ok (.putfield 57, 3) := by decide +kernel
theorem dX10_init_95 : decode cX10_init 95 = .ok (.aload_n 0, 1) := by decide +kernel
theorem dX10_init_96 : decode cX10_init 96 = .ok (.new 60, 3) := by decide +kernel
theorem dX10_init_99 : decode cX10_init 99 = .ok (.dup, 1) := by decide +kernel
theorem dX10_init_100 : decode cX10_init 100 = .ok (.invokespecial 62, 3) := by decide +kernel
theorem dX10_init_103 : decode cX10_init 103 = .ok (.putfield 63, 3) := by decide +kernel
theorem dX10_init_106 : decode cX10_init 106 = .ok (.aload_n 0, 1) := by decide +kernel
theorem dX10_init_107 : decode cX10_init 107 = .ok (.iconst 4, 1) := by decide +kernel
theorem dX10_init_108 : decode cX10_init 108 = .ok (.newarray .int, 2) := by decide +kernel
theorem dX10_init_110 : decode cX10_init 110 = .ok (.putfield 67, 3) := by decide +kernel
theorem dX10_init_113 : decode cX10_init 113 = .ok (.aload_n 0, 1) := by decide +kernel
theorem dX10_init_114 : decode cX10_init 114 = .ok (.iconst 0, 1) := by decide +kernel
theorem dX10_init_115 : decode cX10_init 115 = .ok (.putfield 70, 3) := by decide +kernel
theorem dX10_init_118 : decode cX10_init 118 = .ok (.aload_n 0, 1) := by decide +kernel
theorem dX10_init_119 : decode cX10_init 119 = .ok (.iconst 2, 1) := by decide +kernel
theorem dX10_init_120 : decode cX10_init 120 = .ok (.anewarray 60, 3) := by decide +kernel
theorem dX10_init_123 : decode cX10_init 123 = .ok (.dup, 1) := by decide +kernel
theorem dX10_init_124 : decode cX10_init 124 = .ok (.iconst 0, 1) := by decide +kernel
theorem dX10_init_125 : decode cX10_init 125 = .ok (.new 60, 3) := by decide +kernel
theorem dX10_init_128 : decode cX10_init 128 = .ok (.dup, 1) := by decide +kernel
theorem dX10_init_129 : decode cX10_init 129 = .ok (.invokespecial 62, 3) := by decide +kernel
theorem dX10_init_132 : decode cX10_init 132 = .ok (.aastore, 1) := by decide +kernel
theorem dX10_init_133 : decode cX10_init 133 = .ok (.dup, 1) := by decide +kernel
theorem dX10_init_134 : decode cX10_init 134 = .ok (.iconst 1, 1) := by decide +kernel
theorem dX10_init_135 : decode cX10_init 135 = .ok (.new 60, 3) := by decide +kernel
theorem dX10_init_138 : decode cX10_init 138 = .ok (.dup, 1) := by decide +kernel
theorem dX10_init_139 : decode cX10_init 139 = .ok (.invokespecial 62, 3) := by decide +kernel
theorem dX10_init_142 : decode cX10_init 142 = .ok (.aastore, 1) := by decide +kernel
theorem dX10_init_143 : decode cX10_init 143 = .ok (.putfield 74, 3) := by decide +kernel
theorem dX10_init_146 : decode cX10_init 146 = .ok (.aload_n 0, 1) := by decide +kernel
theorem dX10_init_147 : decode cX10_init 147 = .ok (.iconst 2, 1) := by decide +kernel
theorem dX10_init_148 : decode cX10_init 148 = .ok (.newarray .boolean, 2) := by decide +kernel
theorem dX10_init_150 : decode cX10_init 150 = .ok (.dup, 1) := by decide +kernel
theorem dX10_init_151 : decode cX10_init 151 = .ok (.iconst 0, 1) := by decide +kernel
theorem dX10_init_152 : decode cX10_init 152 = .ok (.iconst 0, 1) := by decide +kernel
theorem dX10_init_153 : decode cX10_init 153 = .ok (.bastore, 1) := by decide +kernel
theorem dX10_init_154 : decode cX10_init 154 = .ok (.dup, 1) := by decide +kernel
theorem dX10_init_155 : decode cX10_init 155 = .ok (.iconst 1, 1) := by decide +kernel
theorem dX10_init_156 : decode cX10_init 156 = .ok (.iconst 0, 1) := by decide +kernel
theorem dX10_init_157 : decode cX10_init 157 = .ok (.bastore, 1) := by decide +kernel
theorem dX10_init_158 : decode cX10_init 158 = .ok (.putfield 78, 3) := by decide +kernel
theorem dX10_init_161 : decode cX10_init 161 = .ok (.aload_n 0, 1) := by decide +kernel
theorem dX10_init_162 : decode cX10_init 162 = .ok (.new 82, 3) := by decide +kernel
theorem dX10_init_165 : decode cX10_init 165 = .ok (.dup, 1) := by decide +kernel
theorem dX10_init_166 : decode cX10_init 166 = .ok (.invokespecial 84, 3) := by decide +kernel
theorem dX10_init_169 : decode cX10_init 169 = .ok (.putfield 85, 3) := by decide +kernel
theorem dX10_init_172 : decode cX10_init 172 = .ok (.aload_n 0, 1) := by decide +kernel
theorem dX10_init_173 : decode cX10_init 173 = .ok (.bipush 30, 2) := by decide +kernel
theorem dX10_init_175 : decode cX10_init 175 = .ok (.anewarray 89, 3) := by decide +kernel
theorem dX10_init_178 : decode cX10_init 178 = .ok (.putfield 91, 3) := by decide +kernel
theorem dX10_init_181 : decode cX10_init 181 = .ok (.aload_n 0, 1) := by decide +kernel
theorem dX10_init_182 : decode cX10_init 182 = .ok (.iconst 0, 1) := by decide +kernel
theorem dX10_init_183 : decode cX10_init 183 = .ok (.putfield 95, 3) := by decide +kernel
theorem dX10_init_186 : decode cX10_init 186 = .ok (.aload_n 0, 1) := by decide +kernel
theorem dX10_init_187 : decode cX10_init 187 = .ok (.new 98, 3) := by decide +kernel
theorem dX10_init_190 : decode cX10_init 190 = .ok (.dup, 1) := by decide +kernel
theorem dX10_init_191 : decode cX10_init 191 = .ok (.invokespecial 100, 3) := by decide +kernel
theorem dX10_init_194 : decode cX10_init 194 = .ok (.putfield 101, 3) := by decide +kernel
theorem dX10_init_197 : decode cX10_init 197 = .ok (.aload_n 0, 1) := by decide +kernel
theorem dX10_init_198 : decode cX10_init 198 = .ok (.iconst 4, 1) := by decide +kernel
theorem dX10_init_199 : decode cX10_init 199 = .ok (.anewarray 105, 3) := by decide +kernel
theorem dX10_init_202 : decode cX10_init 202 = .ok (.putfield 107, 3) := by decide +kernel
theorem dX10_init_205 : decode cX10_init 205 = .ok (.iconst 0, 1) := by decide +kernel
theorem dX10_init_206 : decode cX10_init 206 = .ok (.istore_n 1, 1) := by decide +kernel
theorem dX10_init_207 : decode cX10_init 207 = .ok (.iload_n 1, 1) := by decide +kernel
theorem dX10_init_208 : decode cX10_init 208 = .ok (.bipush 9, 2) := by decide +kernel
theorem dX10_init_210 : decode cX10_init 210 = .ok (.if_icmp .ge 22, 3) := by decide +kernel
theorem dX10_init_213 : decode cX10_init 213 = .ok (.aload_n 0, 1) := by decide +kernel
theorem dX10_init_214 : decode cX10_init 214 = .ok (.getfield 19, 3) := by decide +kernel
theorem dX10_init_217 : decode cX10_init 217 = .ok (.iload_n 1, 1) := by decide +kernel
theorem dX10_init_218 : decode cX10_init 218 = .ok (.new 17, 3) := by decide +kernel
theorem dX10_init_221 : decode cX10_init 221 = .ok (.dup, 1) := by decide +kernel
theorem dX10_init_222 : decode cX10_init 222 = .ok (.invokespecial 111, 3) := by decide +kernel
theorem dX10_init_225 : decode cX10_init 225 = .ok (.aastore, 1) := by decide +kernel
theorem dX10_init_226 : decode cX10_init 226 = .ok (.iinc 1 1, 3) := by decide +kernel
theorem dX10_init_229 : decode cX10_init 229 = .ok (.goto (-22), 3) := by decide +kernel
theorem dX10_init_232 : decode cX10_init 232 = .ok (.iconst 0, 1) := by decide +kernel
theorem dX10_init_233 : decode cX10_init 233 = .ok (.istore_n 1, 1) := by decide +kernel
theorem dX10_init_234 : decode cX10_init 234 = .ok (.iload_n 1, 1) := by decide +kernel
theorem dX10_init_235 : decode cX10_init 235 = .ok (.bipush 8, 2) := by decide +kernel
theorem dX10_init_237 : decode cX10_init 237 = .ok (.if_icmp .ge 22, 3) := by decide +kernel
theorem dX10_init_240 : decode cX10_init 240 = .ok (.aload_n 0, 1) := by decide +kernel
theorem dX10_init_241 : decode cX10_init 241 = .ok (.getfield 29, 3) := by decide +kernel
theorem dX10_init_244 : decode cX10_init 244 = .ok (.iload_n 1, 1) := by decide +kernel
theorem dX10_init_245 : decode cX10_init 245 = .ok (.new 27, 3) := by decide +kernel
theorem dX10_init_248 : decode cX10_init 248 = .ok (.dup, 1) := by decide +kernel
theorem dX10_init_249 : decode cX10_init 249 = .ok (.invokespecial 36, 3) := by decide +kernel
theorem dX10_init_252 : decode cX10_init 252 = .ok (.aastore, 1) := by decide +kernel
theorem dX10_init_253 : decode cX10_init 253 = .ok (.iinc 1 1, 3) := by decide +kernel
theorem dX10_init_256 : decode cX10_init 256 = .ok (.goto (-22), 3) := by decide +kernel
theorem dX10_init_259 : decode cX10_init 259 = .ok (.iconst 0, 1) := by decide +kernel
theorem dX10_init_260 : decode cX10_init 260 = .ok (.istore_n 1, 1) := by decide +kernel
theorem dX10_init_261 : decode cX10_init 261 = .ok (.iload_n 1, 1) := by decide +kernel
theorem dX10_init_262 : decode cX10_init 262 = .ok (.bipush 30, 2) := by decide +kernel
theorem dX10_init_264 : decode cX10_init 264 = .ok (.if_icmp .ge 22, 3) := by decide +kernel
theorem dX10_init_267 : decode cX10_init 267 = .ok (.aload_n 0, 1) := by decide +kernel
theorem dX10_init_268 : decode cX10_init 268 = .ok (.getfield 91, 3) := by decide +kernel
theorem dX10_init_271 : decode cX10_init 271 = .ok (.iload_n 1, 1) := by decide +kernel
theorem dX10_init_272 : decode cX10_init 272 = .ok (.new 89, 3) := by decide +kernel
theorem dX10_init_275 : decode cX10_init 275 = .ok (.dup, 1) := by decide +kernel
theorem dX10_init_276 : decode cX10_init 276 = .ok (.invokespecial 112, 3) := by decide +kernel
theorem dX10_init_279 : decode cX10_init 279 = .ok (.aastore, 1) := by decide +kernel
theorem dX10_init_280 : decode cX10_init 280 = .ok (.iinc 1 1, 3) := by decide +kernel
theorem dX10_init_283 : decode cX10_init 283 = .ok (.goto (-22), 3) := by decide +kernel
theorem dX10_init_286 : decode cX10_init 286 = .ok (.iconst 0, 1) := by decide +kernel
theorem dX10_init_287 : decode cX10_init 287 = .ok (.istore_n 1, 1) := by decide +kernel
theorem dX10_init_288 : decode cX10_init 288 = .ok (.iload_n 1, 1) := by decide +kernel
theorem dX10_init_289 : decode cX10_init 289 = .ok (.iconst 4, 1) := by decide +kernel
theorem dX10_init_290 : decode cX10_init 290 = .ok (.if_icmp .ge 22, 3) := by decide +kernel
theorem dX10_init_293 : decode cX10_init 293 = .ok (.aload_n 0, 1) := by decide +kernel
theorem dX10_init_294 : decode cX10_init 294 = .ok (.getfield 107, 3) := by decide +kernel
theorem dX10_init_297 : decode cX10_init 297 = .ok (.iload_n 1, 1) := by decide +kernel
theorem dX10_init_298 : decode cX10_init 298 = .ok (.new 105, 3) := by decide +kernel
theorem dX10_init_301 : decode cX10_init 301 = .ok (.dup, 1) := by decide +kernel
theorem dX10_init_302 : decode cX10_init 302 = .ok (.invokespecial 113, 3) := by decide +kernel
theorem dX10_init_305 : decode cX10_init 305 = .ok (.aastore, 1) := by decide +kernel
theorem dX10_init_306 : decode cX10_init 306 = .ok (.iinc 1 1, 3) := by decide +kernel
theorem dX10_init_309 : decode cX10_init 309 = .ok (.goto (-21), 3) := by decide +kernel
theorem dX10_init_312 : decode cX10_init 312 = .ok (.return_, 1) := by decide +kernel
theorem dX10_plain_0 : decode cX10_plain 0 = .ok (.aload_n 0, 1) := by decide +kernel
theorem dX10_plain_1 : decode cX10_plain 1 = .ok (.iload_n 1, 1) := by decide +kernel
theorem dX10_plain_2 : decode cX10_plain 2 = .ok (.iload_n 2, 1) := by decide +kernel
theorem dX10_plain_3 : decode cX10_plain 3 = .ok (.iload_n 3, 1) := by decide +kernel
theorem dX10_plain_4 : decode cX10_plain 4 = .ok (.iload 4, 2) := by decide +kernel
theorem dX10_plain_6 : decode cX10_plain 6 = .ok (.iconst 0, 1) := by decide +kernel
theorem dX10_plain_7 : decode cX10_plain 7 = .ok (.invokevirtual 114, 3) := by decide +kernel
theorem dX10_plain_10 : decode cX10_plain 10 = .ok (.ireturn, 1) := by decide +kernel
theorem dX10_winged_0 : decode cX10_winged 0 = .ok (.iload 5, 2) := by decide +kernel
theorem dX10_winged_2 : decode cX10_winged 2 = .ok (.iconst 1, 1) := by decide +kernel
theorem dX10_winged_3 : decode cX10_winged 3 = .ok (.sipush 200, 3) := by decide +kernel
theorem dX10_winged_6 : decode cX10_winged 6 = .ok (.invokestatic 118, 3) := by decide +kernel
theorem dX10_winged_9 : decode cX10_winged 9 = .ok (.ifCond .ne 5, 3) := by decide +kernel
theorem dX10_winged_12 : decode cX10_winged 12 = .ok (.iconst (-1), 1) := by decide +kernel
theorem dX10_winged_13 : decode cX10_winged 13 = .ok (.ireturn, 1) := by decide +kernel
theorem dX10_winged_14 : decode cX10_winged 14 = .ok (.aload_n 0, 1) := by decide +kernel
theorem dX10_winged_15 : decode cX10_winged 15 = .ok (.iload_n 1, 1) := by decide +kernel
theorem dX10_winged_16 : decode cX10_winged 16 = .ok (.iload_n 2, 1) := by decide +kernel
theorem dX10_winged_17 : decode cX10_winged 17 = .ok (.iload_n 3, 1) := by decide +kernel
theorem dX10_winged_18 : decode cX10_winged 18 = .ok (.iload 4, 2) := by decide +kernel
theorem dX10_winged_20 : decode cX10_winged 20 = .ok (.iload 5, 2) := by decide +kernel
theorem dX10_winged_22 : decode cX10_winged 22 = .ok (.invokevirtual 114, 3) := by decide +kernel
theorem dX10_winged_25 : decode cX10_winged 25 = .ok (.ireturn, 1) := by decide +kernel
theorem dX10_newStick_0 : decode cX10_newStick 0 = .ok (.iload_n 1, 1) := by decide +kernel
theorem dX10_newStick_1 : decode cX10_newStick 1 = .ok (.iconst 1, 1) := by decide +kernel
theorem dX10_newStick_2 : decode cX10_newStick 2 = .ok (.bipush 100, 2) := by decide +kernel
theorem dX10_newStick_4 : decode cX10_newStick 4 = .ok (.invokestatic 118, 3) := by decide +kernel
theorem dX10_newStick_7 : decode cX10_newStick 7 = .ok (.ifCond .eq 38, 3) := by decide +kernel
theorem dX10_newStick_10 : decode cX10_newStick 10 = .ok (.iload_n 2, 1) := by decide +kernel
theorem dX10_newStick_11 : decode cX10_newStick 11 = .ok (.iconst 0, 1) := by decide +kernel
theorem dX10_newStick_12 : decode cX10_newStick 12 = .ok (.bipush 60, 2) := by decide +kernel
theorem dX10_newStick_14 : decode cX10_newStick 14 = .ok (.invokestatic 118, 3) := by decide +kernel
theorem dX10_newStick_17 : decode cX10_newStick 17 = .ok (.ifCond .eq 28, 3) := by decide +kernel
theorem dX10_newStick_20 : decode cX10_newStick 20 = .ok (.iload_n 3, 1) := by decide +kernel
theorem dX10_newStick_21 : decode cX10_newStick 21 = .ok (.iconst 1, 1) := by decide +kernel
theorem dX10_newStick_22 : decode cX10_newStick 22 = .ok (.bipush 20, 2) := by decide +kernel
theorem dX10_newStick_24 : decode cX10_newStick 24 = .ok (.invokestatic 118, 3) := by decide +kernel
theorem dX10_newStick_27 : decode cX10_newStick 27 = .ok (.ifCond .eq 18, 3) := by decide +kernel
theorem dX10_newStick_30 : decode cX10_newStick 30 = .ok (.iload 4, 2) := by decide +kernel
theorem dX10_newStick_32 : decode cX10_newStick 32 = .ok (.iconst 0, 1) := by decide +kernel
theorem dX10_newStick_33 : decode cX10_newStick 33 = .ok (.bipush 10, 2) := by decide +kernel
theorem dX10_newStick_35 : decode cX10_newStick 35 = .ok (.invokestatic 118, 3) := by decide +kernel
theorem dX10_newStick_38 : decode cX10_newStick 38 = .ok (.ifCond .eq 7, 3) := by decide +kernel
theorem dX10_newStick_41 : decode cX10_newStick 41 = .ok (.iconst 1, 1) := by decide +kernel
theorem dX10_newStick_42 : decode cX10_newStick 42 = .ok (.goto 4, 3) := by decide +kernel
theorem dX10_newStick_45 : decode cX10_newStick 45 = .ok (.iconst 0, 1) := by decide +kernel
theorem dX10_newStick_46 : decode cX10_newStick 46 = .ok (.istore 6, 2) := by decide +kernel
theorem dX10_newStick_48 : decode cX10_newStick 48 = .ok (.iload 6, 2) := by decide +kernel
theorem dX10_newStick_50 : decode cX10_newStick 50 = .ok (.ifCond .ne 5, 3) := by decide +kernel
theorem dX10_newStick_53 : decode cX10_newStick 53 = .ok (.iconst (-1), 1) := by decide +kernel
theorem dX10_newStick_54 : decode cX10_newStick 54 = .ok (.ireturn, 1) := by decide +kernel
theorem dX10_newStick_55 : decode cX10_newStick 55 = .ok (.aload_n 0, 1) := by decide +kernel
theorem dX10_newStick_56 : decode cX10_newStick 56 = .ok (.getfield 23, 3) := by decide +kernel
theorem dX10_newStick_59 : decode cX10_newStick 59 = .ok (.bipush 9, 2) := by decide +kernel
theorem dX10_newStick_61 : decode cX10_newStick 61 = .ok (.if_icmp .lt 6, 3) := by decide +kernel
theorem dX10_newStick_64 : decode cX10_newStick 64 = .ok (.bipush (-3), 2) := by decide +kernel
theorem dX10_newStick_66 : decode cX10_newStick 66 = .ok (.ireturn, 1) := by decide +kernel
theorem dX10_newStick_67 : decode cX10_newStick 67 = .ok (.aload_n 0, 1) := by decide +kernel
theorem dX10_newStick_68 : decode cX10_newStick 68 = .ok (.getfield 19, 3) := by decide +kernel
theorem dX10_newStick_71 : decode cX10_newStick 71 = .ok (.aload_n 0, 1) := by decide +kernel
theorem dX10_newStick_72 : decode cX10_newStick 72 = .ok (.getfield 23, 3) := by decide +kernel
theorem dX10_newStick_75 : decode cX10_newStick 75 = .ok (.aaload, 1) := by decide +kernel
theorem dX10_newStick_76 : decode cX10_newStick 76 = .ok (.iload_n 1, 1) := by decide +kernel
theorem dX10_newStick_77 : decode cX10_newStick 77 = .ok (.iload_n 2, 1) := by decide +kernel
theorem dX10_newStick_78 : decode cX10_newStick 78 = .ok (.iload_n 3, 1) := by decide +kernel
theorem dX10_newStick_79 : decode cX10_newStick 79 = .ok (.iload 4, 2) := by decide +kernel
theorem dX10_newStick_81 : decode cX10_newStick 81 = .ok (.iload 5, 2) := by decide +kernel
theorem dX10_newStick_83 : decode cX10_newStick 83 = .ok (.invokevirtual 122, 3) := by decide +kernel
theorem dX10_newStick_86 : decode cX10_newStick 86 = .ok (.aload_n 0, 1) := by decide +kernel
theorem dX10_newStick_87 : decode cX10_newStick 87 = .ok (.dup, 1) := by decide +kernel
theorem dX10_newStick_88 : decode cX10_newStick 88 = .ok (.getfield 23, 3) := by decide +kernel
theorem dX10_newStick_91 : decode cX10_newStick 91 = .ok (.iconst 1, 1) := by decide +kernel
theorem dX10_newStick_92 : decode cX10_newStick 92 = .ok (.iadd, 1) := by decide +kernel
theorem dX10_newStick_93 : decode cX10_newStick 93 = .ok (.putfield 23, 3) := by decide +kernel
theorem dX10_newStick_96 : decode cX10_newStick 96 = .ok (.aload_n 0, 1) := by decide +kernel
theorem dX10_newStick_97 : decode cX10_newStick 97 = .ok (.getfield 23, 3) := by decide +kernel
theorem dX10_newStick_100 : decode cX10_newStick 100 = .ok (.iconst 1, 1) := by decide +kernel
theorem dX10_newStick_101 : decode cX10_newStick 101 = .ok (.isub, 1) := by decide +kernel
theorem dX10_newStick_102 : decode cX10_newStick 102 = .ok (.ireturn, 1) := by decide +kernel
theorem dX10_lift_0 : decode cX10_lift 0 = .ok (.aload_n 0, 1) := by decide +kernel
theorem dX10_lift_1 : decode cX10_lift 1 = .ok (.iload_n 1, 1) := by decide +kernel
theorem dX10_lift_2 : decode cX10_lift 2 = .ok (.invokevirtual 126, 3) := by decide +kernel
theorem dX10_lift_5 : decode cX10_lift 5 = .ok (.ifCond .eq 23, 3) := by decide +kernel
theorem dX10_lift_8 : decode cX10_lift 8 = .ok (.iload_n 2, 1) := by decide +kernel
theorem dX10_lift_9 : decode cX10_lift 9 = .ok (.iconst 0, 1) := by decide +kernel
theorem dX10_lift_10 : decode cX10_lift 10 = .ok (.iconst 3, 1) := by decide +kernel
theorem dX10_lift_11 : decode cX10_lift 11 = .ok (.invokestatic 118, 3) := by decide +kernel
theorem dX10_lift_14 : decode cX10_lift 14 = .ok (.ifCond .eq 14, 3) := by decide +kernel
theorem dX10_lift_17 : decode cX10_lift 17 = .ok (.iload_n 3, 1) := by decide +kernel
theorem dX10_lift_18 : decode cX10_lift 18 = .ok (.iconst 0, 1) := by decide +kernel
theorem dX10_lift_19 : decode cX10_lift 19 = .ok (.sipush 300, 3) := by decide +kernel
theorem dX10_lift_22 : decode cX10_lift 22 = .ok (.invokestatic 118, 3) := by decide +kernel
theorem dX10_lift_25 : decode cX10_lift 25 = .ok (.ifCond .ne 5, 3) := by decide +kernel
theorem dX10_lift_28 : decode cX10_lift 28 = .ok (.iconst (-1), 1) := by decide +kernel
theorem dX10_lift_29 : decode cX10_lift 29 = .ok (.ireturn, 1) := by decide +kernel
theorem dX10_lift_30 : decode cX10_lift 30 = .ok (.aload_n 0, 1) := by decide +kernel
theorem dX10_lift_31 : decode cX10_lift 31 = .ok (.getfield 19, 3) := by decide +kernel
theorem dX10_lift_34 : decode cX10_lift 34 = .ok (.iload_n 1, 1) := by decide +kernel
theorem dX10_lift_35 : decode cX10_lift 35 = .ok (.aaload, 1) := by decide +kernel
theorem dX10_lift_36 : decode cX10_lift 36 = .ok (.getfield 130, 3) := by decide +kernel
theorem dX10_lift_39 : decode cX10_lift 39 = .ok (.iload_n 2, 1) := by decide +kernel
theorem dX10_lift_40 : decode cX10_lift 40 = .ok (.iaload, 1) := by decide +kernel
theorem dX10_lift_41 : decode cX10_lift 41 = .ok (.istore 4, 2) := by decide +kernel
theorem dX10_lift_43 : decode cX10_lift 43 = .ok (.aload_n 0, 1) := by decide +kernel
theorem dX10_lift_44 : decode cX10_lift 44 = .ok (.getfield 19, 3) := by decide +kernel
theorem dX10_lift_47 : decode cX10_lift 47 = .ok (.iload_n 1, 1) := by decide +kernel
theorem dX10_lift_48 : decode cX10_lift 48 = .ok (.aaload, 1) := by decide +kernel
theorem dX10_lift_49 : decode cX10_lift 49 = .ok (.getfield 130, 3) := by decide +kernel
theorem dX10_lift_52 : decode cX10_lift 52 = .ok (.iload_n 2, 1) := by decide +kernel
theorem dX10_lift_53 : decode cX10_lift 53 = .ok (.iload_n 3, 1) := by decide +kernel
theorem dX10_lift_54 : decode cX10_lift 54 = .ok (.iastore, 1) := by decide +kernel
theorem dX10_lift_55 : decode cX10_lift 55 = .ok (.iload 4, 2) := by decide +kernel
theorem dX10_lift_57 : decode cX10_lift 57 = .ok (.ireturn, 1) := by decide +kernel
theorem dX10_bend_0 : decode cX10_bend 0 = .ok (.aload_n 0, 1) := by decide +kernel
theorem dX10_bend_1 : decode cX10_bend 1 = .ok (.iload_n 1, 1) := by decide +kernel
theorem dX10_bend_2 : decode cX10_bend 2 = .ok (.invokevirtual 126, 3) := by decide +kernel
theorem dX10_bend_5 : decode cX10_bend 5 = .ok (.ifCond .eq 10, 3) := by decide +kernel
theorem dX10_bend_8 : decode cX10_bend 8 = .ok (.iload_n 2, 1) := by decide +kernel
theorem dX10_bend_9 : decode cX10_bend 9 = .ok (.invokestatic 133, 3) := by decide +kernel
theorem dX10_bend_12 : decode cX10_bend 12 = .ok (.ifCond .ne 6, 3) := by decide +kernel
theorem dX10_bend_15 : decode cX10_bend 15 = .ok (.bipush (-11), 2) := by decide +kernel
theorem dX10_bend_17 : decode cX10_bend 17 = .ok (.ireturn, 1) := by decide +kernel
theorem dX10_bend_18 : decode cX10_bend 18 = .ok (.aload_n 0, 1) := by decide +kernel
theorem dX10_bend_19 : decode cX10_bend 19 = .ok (.getfield 19, 3) := by decide +kernel
theorem dX10_bend_22 : decode cX10_bend 22 = .ok (.iload_n 1, 1) := by decide +kernel
theorem dX10_bend_23 : decode cX10_bend 23 = .ok (.aaload, 1) := by decide +kernel
theorem dX10_bend_24 : decode cX10_bend 24 = .ok (.getfield 136, 3) := by decide +kernel
theorem dX10_bend_27 : decode cX10_bend 27 = .ok (.istore_n 3, 1) := by decide +kernel
theorem dX10_bend_28 : decode cX10_bend 28 = .ok (.aload_n 0, 1) := by decide +kernel
theorem dX10_bend_29 : decode cX10_bend 29 = .ok (.getfield 19, 3) := by decide +kernel
theorem dX10_bend_32 : decode cX10_bend 32 = .ok (.iload_n 1, 1) := by decide +kernel
theorem dX10_bend_33 : decode cX10_bend 33 = .ok (.aaload, 1) := by decide +kernel
theorem dX10_bend_34 : decode cX10_bend 34 = .ok (.iload_n 2, 1) := by decide +kernel
theorem dX10_bend_35 : decode cX10_bend 35 = .ok (.putfield 136, 3) := by decide +kernel
theorem dX10_bend_38 : decode cX10_bend 38 = .ok (.iload_n 3, 1) := by decide +kernel
theorem dX10_bend_39 : decode cX10_bend 39 = .ok (.ireturn, 1) := by decide +kernel
theorem dX10_told_0 : decode cX10_told 0 = .ok (.aload_n 0, 1) := by decide +kernel
theorem dX10_told_1 : decode cX10_told 1 = .ok (.iload_n 1, 1) := by decide +kernel
theorem dX10_told_2 : decode cX10_told 2 = .ok (.invokevirtual 126, 3) := by decide +kernel
theorem dX10_told_5 : decode cX10_told 5 = .ok (.ifCond .ne 5, 3) := by decide +kernel
theorem dX10_told_8 : decode cX10_told 8 = .ok (.iconst (-1), 1) := by decide +kernel
theorem dX10_told_9 : decode cX10_told 9 = .ok (.ireturn, 1) := by decide +kernel
theorem dX10_told_10 : decode cX10_told 10 = .ok (.aload_n 0, 1) := by decide +kernel
theorem dX10_told_11 : decode cX10_told 11 = .ok (.getfield 19, 3) := by decide +kernel
theorem dX10_told_14 : decode cX10_told 14 = .ok (.iload_n 1, 1) := by decide +kernel
theorem dX10_told_15 : decode cX10_told 15 = .ok (.aaload, 1) := by decide +kernel
theorem dX10_told_16 : decode cX10_told 16 = .ok (.astore_n 3, 1) := by decide +kernel
theorem dX10_told_17 : decode cX10_told 17 = .ok (.iload_n 2, 1) := by decide +kernel
theorem dX10_told_18 : decode cX10_told 18 = .ok (.tableswitch 105 0 6 #[42, 55, 60, 65, 70, 75, 92], 42) := by decide +kernel
theorem dX10_told_60 : decode cX10_told 60 = .ok (.aload_n 3, 1) := by decide +kernel
theorem dX10_told_61 : decode cX10_told 61 = .ok (.invokevirtual 139, 3) := by decide +kernel
theorem dX10_told_64 : decode cX10_told 64 = .ok (.ifCond .eq 7, 3) := by decide +kernel
theorem dX10_told_67 : decode cX10_told 67 = .ok (.iconst 1, 1) := by decide +kernel
theorem dX10_told_68 : decode cX10_told 68 = .ok (.goto 4, 3) := by decide +kernel
theorem dX10_told_71 : decode cX10_told 71 = .ok (.iconst 0, 1) := by decide +kernel
theorem dX10_told_72 : decode cX10_told 72 = .ok (.ireturn, 1) := by decide +kernel
theorem dX10_told_73 : decode cX10_told 73 = .ok (.aload_n 3, 1) := by decide +kernel
theorem dX10_told_74 : decode cX10_told 74 = .ok (.getfield 143, 3) := by decide +kernel
theorem dX10_told_77 : decode cX10_told 77 = .ok (.ireturn, 1) := by decide +kernel
theorem dX10_told_78 : decode cX10_told 78 = .ok (.aload_n 3, 1) := by decide +kernel
theorem dX10_told_79 : decode cX10_told 79 = .ok (.getfield 146, 3) := by decide +kernel
theorem dX10_told_82 : decode cX10_told 82 = .ok (.ireturn, 1) := by decide +kernel
theorem dX10_told_83 : decode cX10_told 83 = .ok (.aload_n 3, 1) := by decide +kernel
theorem dX10_told_84 : decode cX10_told 84 = .ok (.getfield 149, 3) := by decide +kernel
theorem dX10_told_87 : decode cX10_told 87 = .ok (.ireturn, 1) := by decide +kernel
theorem dX10_told_88 : decode cX10_told 88 = .ok (.aload_n 3, 1) := by decide +kernel
theorem dX10_told_89 : decode cX10_told 89 = .ok (.getfield 152, 3) := by decide +kernel
theorem dX10_told_92 : decode cX10_told 92 = .ok (.ireturn, 1) := by decide +kernel
theorem dX10_told_93 : decode cX10_told 93 = .ok (.aload_n 3, 1) := by decide +kernel
theorem dX10_told_94 : decode cX10_told 94 = .ok (.invokevirtual 139, 3) := by decide +kernel
theorem dX10_told_97 : decode cX10_told 97 = .ok (.ifCond .eq 10, 3) := by decide +kernel
theorem dX10_told_100 : decode cX10_told 100 = .ok (.aload_n 3, 1) := by decide +kernel
theorem dX10_told_101 : decode cX10_told 101 = .ok (.getfield 155, 3) := by decide +kernel
theorem dX10_told_104 : decode cX10_told 104 = .ok (.goto 5, 3) := by decide +kernel
theorem dX10_told_107 : decode cX10_told 107 = .ok (.bipush (-4), 2) := by decide +kernel
theorem dX10_told_109 : decode cX10_told 109 = .ok (.ireturn, 1) := by decide +kernel
theorem dX10_told_110 : decode cX10_told 110 = .ok (.aload_n 3, 1) := by decide +kernel
theorem dX10_told_111 : decode cX10_told 111 = .ok (.getfield 158, 3) := by decide +kernel
theorem dX10_told_114 : decode cX10_told 114 = .ok (.ifCond .eq 7, 3) := by decide +kernel
theorem dX10_told_117 : decode cX10_told 117 = .ok (.iconst 1, 1) := by decide +kernel
theorem dX10_told_118 : decode cX10_told 118 = .ok (.goto 4, 3) := by decide +kernel
theorem dX10_told_121 : decode cX10_told 121 = .ok (.iconst 0, 1) := by decide +kernel
theorem dX10_told_122 : decode cX10_told 122 = .ok (.ireturn, 1) := by decide +kernel
theorem dX10_told_123 : decode cX10_told 123 = .ok (.iconst (-1), 1) := by decide +kernel
theorem dX10_told_124 : decode cX10_told 124 = .ok (.ireturn, 1) := by decide +kernel
theorem dX10_lose_0 : decode cX10_lose 0 = .ok (.aload_n 0, 1) := by decide +kernel
theorem dX10_lose_1 : decode cX10_lose 1 = .ok (.iload_n 1, 1) := by decide +kernel
theorem dX10_lose_2 : decode cX10_lose 2 = .ok (.invokevirtual 126, 3) := by decide +kernel
theorem dX10_lose_5 : decode cX10_lose 5 = .ok (.ifCond .ne 5, 3) := by decide +kernel
theorem dX10_lose_8 : decode cX10_lose 8 = .ok (.iconst (-1), 1) := by decide +kernel
theorem dX10_lose_9 : decode cX10_lose 9 = .ok (.ireturn, 1) := by decide +kernel
theorem dX10_lose_10 : decode cX10_lose 10 = .ok (.aload_n 0, 1) := by decide +kernel
theorem dX10_lose_11 : decode cX10_lose 11 = .ok (.getfield 19, 3) := by decide +kernel
theorem dX10_lose_14 : decode cX10_lose 14 = .ok (.iload_n 1, 1) := by decide +kernel
theorem dX10_lose_15 : decode cX10_lose 15 = .ok (.aaload, 1) := by decide +kernel
theorem dX10_lose_16 : decode cX10_lose 16 = .ok (.getfield 158, 3) := by decide +kernel
theorem dX10_lose_19 : decode cX10_lose 19 = .ok (.ifCond .eq 7, 3) := by decide +kernel
theorem dX10_lose_22 : decode cX10_lose 22 = .ok (.iconst 1, 1) := by decide +kernel
theorem dX10_lose_23 : decode cX10_lose 23 = .ok (.goto 4, 3) := by decide +kernel
theorem dX10_lose_26 : decode cX10_lose 26 = .ok (.iconst 0, 1) := by decide +kernel
theorem dX10_lose_27 : decode cX10_lose 27 = .ok (.istore_n 3, 1) := by decide +kernel
theorem dX10_lose_28 : decode cX10_lose 28 = .ok (.aload_n 0, 1) := by decide +kernel
theorem dX10_lose_29 : decode cX10_lose 29 = .ok (.getfield 19, 3) := by decide +kernel
theorem dX10_lose_32 : decode cX10_lose 32 = .ok (.iload_n 1, 1) := by decide +kernel
theorem dX10_lose_33 : decode cX10_lose 33 = .ok (.aaload, 1) := by decide +kernel
theorem dX10_lose_34 : decode cX10_lose 34 = .ok (.iload_n 2, 1) := by decide +kernel
theorem dX10_lose_35 : decode cX10_lose 35 = .ok (.ifCond .ne 7, 3) := by decide +kernel
theorem dX10_lose_38 : decode cX10_lose 38 = .ok (.iconst 1, 1) := by decide +kernel
theorem dX10_lose_39 : decode cX10_lose 39 = .ok (.goto 4, 3) := by decide +kernel
theorem dX10_lose_42 : decode cX10_lose 42 = .ok (.iconst 0, 1) := by decide +kernel
theorem dX10_lose_43 : decode cX10_lose 43 = .ok (.putfield 158, 3) := by decide +kernel
theorem dX10_lose_46 : decode cX10_lose 46 = .ok (.iload_n 3, 1) := by decide +kernel
theorem dX10_lose_47 : decode cX10_lose 47 = .ok (.ireturn, 1) := by decide +kernel
theorem dX10_wind_0 : decode cX10_wind 0 = .ok (.aload_n 0, 1) := by decide +kernel
theorem dX10_wind_1 : decode cX10_wind 1 = .ok (.getfield 33, 3) := by decide +kernel
theorem dX10_wind_4 : decode cX10_wind 4 = .ok (.bipush 8, 2) := by decide +kernel
theorem dX10_wind_6 : decode cX10_wind 6 = .ok (.if_icmp .lt 6, 3) := by decide +kernel
theorem dX10_wind_9 : decode cX10_wind 9 = .ok (.bipush (-3), 2) := by decide +kernel
theorem dX10_wind_11 : decode cX10_wind 11 = .ok (.ireturn, 1) := by decide +kernel
theorem dX10_wind_12 : decode cX10_wind 12 = .ok (.aload_n 0, 1) := by decide +kernel
theorem dX10_wind_13 : decode cX10_wind 13 = .ok (.dup, 1) := by decide +kernel
theorem dX10_wind_14 : decode cX10_wind 14 = .ok (.getfield 33, 3) := by decide +kernel
theorem dX10_wind_17 : decode cX10_wind 17 = .ok (.iconst 1, 1) := by decide +kernel
theorem dX10_wind_18 : decode cX10_wind 18 = .ok (.iadd, 1) := by decide +kernel
theorem dX10_wind_19 : decode cX10_wind 19 = .ok (.putfield 33, 3) := by decide +kernel
theorem dX10_wind_22 : decode cX10_wind 22 = .ok (.aload_n 0, 1) := by decide +kernel
theorem dX10_wind_23 : decode cX10_wind 23 = .ok (.getfield 33, 3) := by decide +kernel
theorem dX10_wind_26 : decode cX10_wind 26 = .ok (.iconst 1, 1) := by decide +kernel
theorem dX10_wind_27 : decode cX10_wind 27 = .ok (.isub, 1) := by decide +kernel
theorem dX10_wind_28 : decode cX10_wind 28 = .ok (.ireturn, 1) := by decide +kernel
theorem dX10_blows_0 : decode cX10_blows 0 = .ok (.aload_n 0, 1) := by decide +kernel
theorem dX10_blows_1 : decode cX10_blows 1 = .ok (.iload_n 1, 1) := by decide +kernel
theorem dX10_blows_2 : decode cX10_blows 2 = .ok (.invokevirtual 161, 3) := by decide +kernel
theorem dX10_blows_5 : decode cX10_blows 5 = .ok (.ifCond .eq 34, 3) := by decide +kernel
theorem dX10_blows_8 : decode cX10_blows 8 = .ok (.iload_n 2, 1) := by decide +kernel
theorem dX10_blows_9 : decode cX10_blows 9 = .ok (.iconst 0, 1) := by decide +kernel
theorem dX10_blows_10 : decode cX10_blows 10 = .ok (.iconst 3, 1) := by decide +kernel
theorem dX10_blows_11 : decode cX10_blows 11 = .ok (.invokestatic 118, 3) := by decide +kernel
theorem dX10_blows_14 : decode cX10_blows 14 = .ok (.ifCond .eq 25, 3) := by decide +kernel
theorem dX10_blows_17 : decode cX10_blows 17 = .ok (.iload_n 3, 1) := by decide +kernel
theorem dX10_blows_18 : decode cX10_blows 18 = .ok (.iconst 0, 1) := by decide +kernel
theorem dX10_blows_19 : decode cX10_blows 19 = .ok (.bipush 60, 2) := by decide +kernel
theorem dX10_blows_21 : decode cX10_blows 21 = .ok (.invokestatic 118, 3) := by decide +kernel
theorem dX10_blows_24 : decode cX10_blows 24 = .ok (.ifCond .eq 15, 3) := by decide +kernel
theorem dX10_blows_27 : decode cX10_blows 27 = .ok (.iload 4, 2) := by decide +kernel
theorem dX10_blows_29 : decode cX10_blows 29 = .ok (.invokestatic 164, 3) := by decide +kernel
theorem dX10_blows_32 : decode cX10_blows 32 = .ok (.ifCond .eq 7, 3) := by decide +kernel
theorem dX10_blows_35 : decode cX10_blows 35 = .ok (.iconst 1, 1) := by decide +kernel
theorem dX10_blows_36 : decode cX10_blows 36 = .ok (.goto 4, 3) := by decide +kernel
theorem dX10_blows_39 : decode cX10_blows 39 = .ok (.iconst 0, 1) := by decide +kernel
theorem dX10_blows_40 : decode cX10_blows 40 = .ok (.istore 5, 2) := by decide +kernel
theorem dX10_blows_42 : decode cX10_blows 42 = .ok (.iload 5, 2) := by decide +kernel
theorem dX10_blows_44 : decode cX10_blows 44 = .ok (.ifCond .ne 5, 3) := by decide +kernel
theorem dX10_blows_47 : decode cX10_blows 47 = .ok (.iconst (-1), 1) := by decide +kernel
theorem dX10_blows_48 : decode cX10_blows 48 = .ok (.ireturn, 1) := by decide +kernel
theorem dX10_blows_49 : decode cX10_blows 49 = .ok (.aload_n 0, 1) := by decide +kernel
theorem dX10_blows_50 : decode cX10_blows 50 = .ok (.getfield 29, 3) := by decide +kernel
theorem dX10_blows_53 : decode cX10_blows 53 = .ok (.iload_n 1, 1) := by decide +kernel
theorem dX10_blows_54 : decode cX10_blows 54 = .ok (.aaload, 1) := by decide +kernel
theorem dX10_blows_55 : decode cX10_blows 55 = .ok (.getfield 167, 3) := by decide +kernel
theorem dX10_blows_58 : decode cX10_blows 58 = .ok (.iload_n 2, 1) := by decide +kernel
theorem dX10_blows_59 : decode cX10_blows 59 = .ok (.iaload, 1) := by decide +kernel
theorem dX10_blows_60 : decode cX10_blows 60 = .ok (.istore 6, 2) := by decide +kernel
theorem dX10_blows_62 : decode cX10_blows 62 = .ok (.aload_n 0, 1) := by decide +kernel
theorem dX10_blows_63 : decode cX10_blows 63 = .ok (.getfield 29, 3) := by decide +kernel
theorem dX10_blows_66 : decode cX10_blows 66 = .ok (.iload_n 1, 1) := by decide +kernel
theorem dX10_blows_67 : decode cX10_blows 67 = .ok (.aaload, 1) := by decide +kernel
theorem dX10_blows_68 : decode cX10_blows 68 = .ok (.getfield 167, 3) := by decide +kernel
theorem dX10_blows_71 : decode cX10_blows 71 = .ok (.iload_n 2, 1) := by decide +kernel
theorem dX10_blows_72 : decode cX10_blows 72 = .ok (.iload_n 3, 1) := by decide +kernel
theorem dX10_blows_73 : decode cX10_blows 73 = .ok (.iastore, 1) := by decide +kernel
theorem dX10_blows_74 : decode cX10_blows 74 = .ok (.aload_n 0, 1) := by decide +kernel
theorem dX10_blows_75 : decode cX10_blows 75 = .ok (.getfield 29, 3) := by decide +kernel
theorem dX10_blows_78 : decode cX10_blows 78 = .ok (.iload_n 1, 1) := by decide +kernel
theorem dX10_blows_79 : decode cX10_blows 79 = .ok (.aaload, 1) := by decide +kernel
theorem dX10_blows_80 : decode cX10_blows 80 = .ok (.getfield 170, 3) := by decide +kernel
