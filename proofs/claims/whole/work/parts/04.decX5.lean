theorem dX5_init_0 : decode cX5_init 0 = .ok (.aload_n 0, 1) := by decide +kernel
theorem dX5_init_1 : decode cX5_init 1 = .ok (.invokespecial 1, 3) := by decide +kernel
theorem dX5_init_4 : decode cX5_init 4 = .ok (.aload_n 0, 1) := by decide +kernel
theorem dX5_init_5 : decode cX5_init 5 = .ok (.iconst 4, 1) := by decide +kernel
theorem dX5_init_6 : decode cX5_init 6 = .ok (.newarray .int, 2) := by decide +kernel
theorem dX5_init_8 : decode cX5_init 8 = .ok (.putfield 7, 3) := by decide +kernel
theorem dX5_init_11 : decode cX5_init 11 = .ok (.aload_n 0, 1) := by decide +kernel
theorem dX5_init_12 : decode cX5_init 12 = .ok (.bipush 60, 2) := by decide +kernel
theorem dX5_init_14 : decode cX5_init 14 = .ok (.newarray .int, 2) := by decide +kernel
theorem dX5_init_16 : decode cX5_init 16 = .ok (.putfield 13, 3) := by decide +kernel
theorem dX5_init_19 : decode cX5_init 19 = .ok (.aload_n 0, 1) := by decide +kernel
theorem dX5_init_20 : decode cX5_init 20 = .ok (.bipush 60, 2) := by decide +kernel
theorem dX5_init_22 : decode cX5_init 22 = .ok (.newarray .int, 2) := by decide +kernel
theorem dX5_init_24 : decode cX5_init 24 = .ok (.putfield 16, 3) := by decide +kernel
theorem dX5_init_27 : decode cX5_init 27 = .ok (.aload_n 0, 1) := by decide +kernel
theorem dX5_init_28 : decode cX5_init 28 = .ok (.bipush 60, 2) := by decide +kernel
theorem dX5_init_30 : decode cX5_init 30 = .ok (.newarray .int, 2) := by decide +kernel
theorem dX5_init_32 : decode cX5_init 32 = .ok (.putfield 19, 3) := by decide +kernel
theorem dX5_init_35 : decode cX5_init 35 = .ok (.aload_n 0, 1) := by decide +kernel
theorem dX5_init_36 : decode cX5_init 36 = .ok (.bipush 60, 2) := by decide +kernel
theorem dX5_init_38 : decode cX5_init 38 = .ok (.newarray .boolean, 2) := by decide +kernel
theorem dX5_init_40 : decode cX5_init 40 = .ok (.putfield 22, 3) := by decide +kernel
theorem dX5_init_43 : decode cX5_init 43 = .ok (.aload_n 0, 1) := by decide +kernel
theorem dX5_init_44 : decode cX5_init 44 = .ok (.bipush 40, 2) := by decide +kernel
theorem dX5_init_46 : decode cX5_init 46 = .ok (.newarray .int, 2) := by decide +kernel
theorem dX5_init_48 : decode cX5_init 48 = .ok (.putfield 26, 3) := by decide +kernel
theorem dX5_init_51 : decode cX5_init 51 = .ok (.aload_n 0, 1) := by decide +kernel
theorem dX5_init_52 : decode cX5_init 52 = .ok (.bipush 40, 2) := by decide +kernel
theorem dX5_init_54 : decode cX5_init 54 = .ok (.newarray .int, 2) := by decide +kernel
theorem dX5_init_56 : decode cX5_init 56 = .ok (.putfield 29, 3) := by decide +kernel
theorem dX5_init_59 : decode cX5_init 59 = .ok (.aload_n 0, 1) := by decide +kernel
theorem dX5_init_60 : decode cX5_init 60 = .ok (.bipush 40, 2) := by decide +kernel
theorem dX5_init_62 : decode cX5_init 62 = .ok (.newarray .int, 2) := by decide +kernel
theorem dX5_init_64 : decode cX5_init 64 = .ok (.putfield 32, 3) := by decide +kernel
theorem dX5_init_67 : decode cX5_init 67 = .ok (.aload_n 0, 1) := by decide +kernel
theorem dX5_init_68 : decode cX5_init 68 = .ok (.bipush 40, 2) := by decide +kernel
theorem dX5_init_70 : decode cX5_init 70 = .ok (.newarray .int, 2) := by decide +kernel
theorem dX5_init_72 : decode cX5_init 72 = .ok (.putfield 35, 3) := by decide +kernel
theorem dX5_init_75 : decode cX5_init 75 = .ok (.aload_n 0, 1) := by decide +kernel
theorem dX5_init_76 : decode cX5_init 76 = .ok (.bipush 40, 2) := by decide +kernel
theorem dX5_init_78 : decode cX5_init 78 = .ok (.newarray .int, 2) := by decide +kernel
theorem dX5_init_80 : decode cX5_init 80 = .ok (.putfield 38, 3) := by decide +kernel
theorem dX5_init_83 : decode cX5_init 83 = .ok (.aload_n 0, 1) := by decide +kernel
theorem dX5_init_84 : decode cX5_init 84 = .ok (.bipush 12, 2) := by decide +kernel
theorem dX5_init_86 : decode cX5_init 86 = .ok (.newarray .int, 2) := by decide +kernel
theorem dX5_init_88 : decode cX5_init 88 = .ok (.putfield 41, 3) := by decide +kernel
theorem dX5_init_91 : decode cX5_init 91 = .ok (.aload_n 0, 1) := by decide +kernel
theorem dX5_init_92 : decode cX5_init 92 = .ok (.bipush 12, 2) := by decide +kernel
theorem dX5_init_94 : decode cX5_init 94 = .ok (.newarray .int, 2) := by decide +kernel
theorem dX5_init_96 : decode cX5_init 96 = .ok (.putfield 44, 3) := by decide +kernel
theorem dX5_init_99 : decode cX5_init 99 = .ok (.aload_n 0, 1) := by decide +kernel
theorem dX5_init_100 : decode cX5_init 100 = .ok (.bipush 12, 2) := by decide +kernel
theorem dX5_init_102 : decode cX5_init 102 = .ok (.newarray .int, 2) := by decide +kernel
theorem dX5_init_104 : decode cX5_init 104 = .ok (.putfield 47, 3) := by decide +kernel
theorem dX5_init_107 : decode cX5_init 107 = .ok (.aload_n 0, 1) := by decide +kernel
theorem dX5_init_108 : decode cX5_init 108 = .ok (.bipush 12, 2) := by decide +kernel
theorem dX5_init_110 : decode cX5_init 110 = .ok (.newarray .int, 2) := by decide +kernel
theorem dX5_init_112 : decode cX5_init 112 = .ok (.putfield 50, 3) := by decide +kernel
theorem dX5_init_115 : decode cX5_init 115 = .ok (.aload_n 0, 1) := by decide +kernel
theorem dX5_init_116 : decode cX5_init 116 = .ok (.bipush 12, 2) := by decide +kernel
theorem dX5_init_118 : decode cX5_init 118 = .ok (.newarray .int, 2) := by decide +kernel
theorem dX5_init_120 : decode cX5_init 120 = .ok (.putfield 53, 3) := by decide +kernel
theorem dX5_init_123 : decode cX5_init 123 = .ok (.aload_n 0, 1) := by decide +kernel
theorem dX5_init_124 : decode cX5_init 124 = .ok (.bipush 40, 2) := by decide +kernel
theorem dX5_init_126 : decode cX5_init 126 = .ok (.newarray .int, 2) := by decide +kernel
theorem dX5_init_128 : decode cX5_init 128 = .ok (.putfield 56, 3) := by decide +kernel
theorem dX5_init_131 : decode cX5_init 131 = .ok (.aload_n 0, 1) := by decide +kernel
theorem dX5_init_132 : decode cX5_init 132 = .ok (.bipush 40, 2) := by decide +kernel
theorem dX5_init_134 : decode cX5_init 134 = .ok (.newarray .int, 2) := by decide +kernel
theorem dX5_init_136 : decode cX5_init 136 = .ok (.putfield 59, 3) := by decide +kernel
theorem dX5_init_139 : decode cX5_init 139 = .ok (.aload_n 0, 1) := by decide +kernel
theorem dX5_init_140 : decode cX5_init 140 = .ok (.bipush 40, 2) := by decide +kernel
theorem dX5_init_142 : decode cX5_init 142 = .ok (.newarray .boolean, 2) := by decide +kernel
theorem dX5_init_144 : decode cX5_init 144 = .ok (.putfield 62, 3) := by decide +kernel
theorem dX5_init_147 : decode cX5_init 147 = .ok (.aload_n 0, 1) := by decide +kernel
theorem dX5_init_148 : decode cX5_init 148 = .ok (.bipush 40, 2) := by decide +kernel
theorem dX5_init_150 : decode cX5_init 150 = .ok (.newarray .int, 2) := by decide +kernel
theorem dX5_init_152 : decode cX5_init 152 = .ok (.putfield 65, 3) := by decide +kernel
theorem dX5_init_155 : decode cX5_init 155 = .ok (.aload_n 0, 1) := by decide +kernel
theorem dX5_init_156 : decode cX5_init 156 = .ok (.bipush 40, 2) := by decide +kernel
theorem dX5_init_158 : decode cX5_init 158 = .ok (.newarray .int, 2) := by decide +kernel
theorem dX5_init_160 : decode cX5_init 160 = .ok (.putfield 68, 3) := by decide +kernel
theorem dX5_init_163 : decode cX5_init 163 = .ok (.aload_n 0, 1) := by decide +kernel
theorem dX5_init_164 : decode cX5_init 164 = .ok (.bipush 80, 2) := by decide +kernel
theorem dX5_init_166 : decode cX5_init 166 = .ok (.newarray .int, 2) := by decide +kernel
theorem dX5_init_168 : decode cX5_init 168 = .ok (.putfield 71, 3) := by decide +kernel
theorem dX5_init_171 : decode cX5_init 171 = .ok (.aload_n 0, 1) := by decide +kernel
theorem dX5_init_172 : decode cX5_init 172 = .ok (.bipush 80, 2) := by decide +kernel
theorem dX5_init_174 : decode cX5_init 174 = .ok (.newarray .int, 2) := by decide +kernel
theorem dX5_init_176 : decode cX5_init 176 = .ok (.putfield 74, 3) := by decide +kernel
theorem dX5_init_179 : decode cX5_init 179 = .ok (.aload_n 0, 1) := by decide +kernel
theorem dX5_init_180 : decode cX5_init 180 = .ok (.bipush 80, 2) := by decide +kernel
theorem dX5_init_182 : decode cX5_init 182 = .ok (.newarray .int, 2) := by decide +kernel
theorem dX5_init_184 : decode cX5_init 184 = .ok (.putfield 77, 3) := by decide +kernel
theorem dX5_init_187 : decode cX5_init 187 = .ok (.aload_n 0, 1) := by decide +kernel
theorem dX5_init_188 : decode cX5_init 188 = .ok (.bipush 80, 2) := by decide +kernel
theorem dX5_init_190 : decode cX5_init 190 = .ok (.newarray .int, 2) := by decide +kernel
theorem dX5_init_192 : decode cX5_init 192 = .ok (.putfield 80, 3) := by decide +kernel
theorem dX5_init_195 : decode cX5_init 195 = .ok (.aload_n 0, 1) := by decide +kernel
theorem dX5_init_196 : decode cX5_init 196 = .ok (.bipush 80, 2) := by decide +kernel
theorem dX5_init_198 : decode cX5_init 198 = .ok (.newarray .int, 2) := by decide +kernel
theorem dX5_init_200 : decode cX5_init 200 = .ok (.putfield 83, 3) := by decide +kernel
theorem dX5_init_203 : decode cX5_init 203 = .ok (.aload_n 0, 1) := by decide +kernel
theorem dX5_init_204 : decode cX5_init 204 = .ok (.bipush 80, 2) := by decide +kernel
theorem dX5_init_206 : decode cX5_init 206 = .ok (.newarray .int, 2) := by decide +kernel
theorem dX5_init_208 : decode cX5_init 208 = .ok (.putfield 86, 3) := by decide +kernel
theorem dX5_init_211 : decode cX5_init 211 = .ok (.aload_n 0, 1) := by decide +kernel
theorem dX5_init_212 : decode cX5_init 212 = .ok (.bipush 80, 2) := by decide +kernel
theorem dX5_init_214 : decode cX5_init 214 = .ok (.newarray .int, 2) := by decide +kernel
theorem dX5_init_216 : decode cX5_init 216 = .ok (.putfield 89, 3) := by decide +kernel
theorem dX5_init_219 : decode cX5_init 219 = .ok (.aload_n 0, 1) := by decide +kernel
theorem dX5_init_220 : decode cX5_init 220 = .ok (.iconst 4, 1) := by decide +kernel
theorem dX5_init_221 : decode cX5_init 221 = .ok (.newarray .long, 2) := by decide +kernel
theorem dX5_init_223 : decode cX5_init 223 = .ok (.putfield 92, 3) := by decide +kernel
theorem dX5_init_226 : decode cX5_init 226 = .ok (.aload_n 0, 1) := by decide +kernel
theorem dX5_init_227 : decode cX5_init 227 = .ok (.iconst 4, 1) := by decide +kernel
theorem dX5_init_228 : decode cX5_init 228 = .ok (.newarray .long, 2) := by decide +kernel
theorem dX5_init_230 : decode cX5_init 230 = .ok (.putfield 96, 3) := by decide +kernel
theorem dX5_init_233 : decode cX5_init 233 = .ok (.aload_n 0, 1) := by decide +kernel
theorem dX5_init_234 : decode cX5_init 234 = .ok (.iconst 4, 1) := by decide +kernel
theorem dX5_init_235 : decode cX5_init 235 = .ok (.newarray .long, 2) := by decide +kernel
theorem dX5_init_237 : decode cX5_init 237 = .ok (.putfield 99, 3) := by decide +kernel
theorem dX5_init_240 : decode cX5_init 240 = .ok (.aload_n 0, 1) := by decide +kernel
theorem dX5_init_241 : decode cX5_init 241 = .ok (.iconst 4, 1) := by decide +kernel
theorem dX5_init_242 : decode cX5_init 242 = .ok (.newarray .long, 2) := by decide +kernel
theorem dX5_init_244 : decode cX5_init 244 = .ok (.putfield 102, 3) := by decide +kernel
theorem dX5_init_247 : decode cX5_init 247 = .ok (.return_, 1) := by decide +kernel
theorem dX5_in_0 : decode cX5_in 0 = .ok (.iload_n 0, 1) := by decide +kernel
theorem dX5_in_1 : decode cX5_in 1 = .ok (.iload_n 1, 1) := by decide +kernel
theorem dX5_in_2 : decode cX5_in 2 = .ok (.if_icmp .lt 12, 3) := by decide +kernel
theorem dX5_in_5 : decode cX5_in 5 = .ok (.iload_n 0, 1) := by decide +kernel
theorem dX5_in_6 : decode cX5_in 6 = .ok (.iload_n 2, 1) := by decide +kernel
theorem dX5_in_7 : decode cX5_in 7 = .ok (.if_icmp .gt 7, 3) := by decide +kernel
theorem dX5_in_10 : decode cX5_in 10 = .ok (.iconst 1, 1) := by decide +kernel
theorem dX5_in_11 : decode cX5_in 11 = .ok (.goto 4, 3) := by decide +kernel
theorem dX5_in_14 : decode cX5_in 14 = .ok (.iconst 0, 1) := by decide +kernel
theorem dX5_in_15 : decode cX5_in 15 = .ok (.ireturn, 1) := by decide +kernel
theorem dX5_isLine_0 : decode cX5_isLine 0 = .ok (.iload_n 1, 1) := by decide +kernel
theorem dX5_isLine_1 : decode cX5_isLine 1 = .ok (.iconst 0, 1) := by decide +kernel
theorem dX5_isLine_2 : decode cX5_isLine 2 = .ok (.aload_n 0, 1) := by decide +kernel
theorem dX5_isLine_3 : decode cX5_isLine 3 = .ok (.getfield 105, 3) := by decide +kernel
theorem dX5_isLine_6 : decode cX5_isLine 6 = .ok (.iconst 1, 1) := by decide +kernel
theorem dX5_isLine_7 : decode cX5_isLine 7 = .ok (.isub, 1) := by decide +kernel
theorem dX5_isLine_8 : decode cX5_isLine 8 = .ok (.invokestatic 109, 3) := by decide +kernel
theorem dX5_isLine_11 : decode cX5_isLine 11 = .ok (.ireturn, 1) := by decide +kernel
theorem dX5_isNote_0 : decode cX5_isNote 0 = .ok (.iload_n 1, 1) := by decide +kernel
theorem dX5_isNote_1 : decode cX5_isNote 1 = .ok (.iconst 0, 1) := by decide +kernel
theorem dX5_isNote_2 : decode cX5_isNote 2 = .ok (.aload_n 0, 1) := by decide +kernel
theorem dX5_isNote_3 : decode cX5_isNote 3 = .ok (.getfield 113, 3) := by decide +kernel
theorem dX5_isNote_6 : decode cX5_isNote 6 = .ok (.iconst 1, 1) := by decide +kernel
theorem dX5_isNote_7 : decode cX5_isNote 7 = .ok (.isub, 1) := by decide +kernel
theorem dX5_isNote_8 : decode cX5_isNote 8 = .ok (.invokestatic 109, 3) := by decide +kernel
theorem dX5_isNote_11 : decode cX5_isNote 11 = .ok (.ireturn, 1) := by decide +kernel
theorem dX5_line_0 : decode cX5_line 0 = .ok (.iload_n 1, 1) := by decide +kernel
theorem dX5_line_1 : decode cX5_line 1 = .ok (.bipush 100, 2) := by decide +kernel
theorem dX5_line_3 : decode cX5_line 3 = .ok (.sipush 1000, 3) := by decide +kernel
theorem dX5_line_6 : decode cX5_line 6 = .ok (.invokestatic 109, 3) := by decide +kernel
theorem dX5_line_9 : decode cX5_line 9 = .ok (.ifCond .ne 7, 3) := by decide +kernel
theorem dX5_line_12 : decode cX5_line 12 = .ok (.sipush (-9002), 3) := by decide +kernel
theorem dX5_line_15 : decode cX5_line 15 = .ok (.ireturn, 1) := by decide +kernel
theorem dX5_line_16 : decode cX5_line 16 = .ok (.aload_n 0, 1) := by decide +kernel
theorem dX5_line_17 : decode cX5_line 17 = .ok (.getfield 105, 3) := by decide +kernel
theorem dX5_line_20 : decode cX5_line 20 = .ok (.iconst 4, 1) := by decide +kernel
theorem dX5_line_21 : decode cX5_line 21 = .ok (.if_icmp .ne 7, 3) := by decide +kernel
theorem dX5_line_24 : decode cX5_line 24 = .ok (.sipush (-9004), 3) := by decide +kernel
theorem dX5_line_27 : decode cX5_line 27 = .ok (.ireturn, 1) := by decide +kernel
theorem dX5_line_28 : decode cX5_line 28 = .ok (.aload_n 0, 1) := by decide +kernel
theorem dX5_line_29 : decode cX5_line 29 = .ok (.getfield 7, 3) := by decide +kernel
theorem dX5_line_32 : decode cX5_line 32 = .ok (.aload_n 0, 1) := by decide +kernel
theorem dX5_line_33 : decode cX5_line 33 = .ok (.getfield 105, 3) := by decide +kernel
theorem dX5_line_36 : decode cX5_line 36 = .ok (.iload_n 1, 1) := by decide +kernel
theorem dX5_line_37 : decode cX5_line 37 = .ok (.iastore, 1) := by decide +kernel
theorem dX5_line_38 : decode cX5_line 38 = .ok (.aload_n 0, 1) := by decide +kernel
theorem dX5_line_39 : decode cX5_line 39 = .ok (.dup, 1) := by decide +kernel
theorem dX5_line_40 : decode cX5_line 40 = .ok (.getfield 105, 3) := by decide +kernel
theorem dX5_line_43 : decode cX5_line 43 = .ok (.iconst 1, 1) := by decide +kernel
theorem dX5_line_44 : decode cX5_line 44 = .ok (.iadd, 1) := by decide +kernel
theorem dX5_line_45 : decode cX5_line 45 = .ok (.putfield 105, 3) := by decide +kernel
theorem dX5_line_48 : decode cX5_line 48 = .ok (.aload_n 0, 1) := by decide +kernel
theorem dX5_line_49 : decode cX5_line 49 = .ok (.getfield 105, 3) := by decide +kernel
theorem dX5_line_52 : decode cX5_line 52 = .ok (.iconst 1, 1) := by decide +kernel
theorem dX5_line_53 : decode cX5_line 53 = .ok (.isub, 1) := by decide +kernel
theorem dX5_line_54 : decode cX5_line 54 = .ok (.ireturn, 1) := by decide +kernel
theorem dX5_note_0 : decode cX5_note 0 = .ok (.aload_n 0, 1) := by decide +kernel
theorem dX5_note_1 : decode cX5_note 1 = .ok (.iload_n 1, 1) := by decide +kernel
theorem dX5_note_2 : decode cX5_note 2 = .ok (.invokevirtual 116, 3) := by decide +kernel
theorem dX5_note_5 : decode cX5_note 5 = .ok (.ifCond .ne 7, 3) := by decide +kernel
theorem dX5_note_8 : decode cX5_note 8 = .ok (.sipush (-9001), 3) := by decide +kernel
theorem dX5_note_11 : decode cX5_note 11 = .ok (.ireturn, 1) := by decide +kernel
theorem dX5_note_12 : decode cX5_note 12 = .ok (.iload_n 2, 1) := by decide +kernel
theorem dX5_note_13 : decode cX5_note 13 = .ok (.iconst 0, 1) := by decide +kernel
theorem dX5_note_14 : decode cX5_note 14 = .ok (.aload_n 0, 1) := by decide +kernel
theorem dX5_note_15 : decode cX5_note 15 = .ok (.getfield 7, 3) := by decide +kernel
theorem dX5_note_18 : decode cX5_note 18 = .ok (.iload_n 1, 1) := by decide +kernel
theorem dX5_note_19 : decode cX5_note 19 = .ok (.iaload, 1) := by decide +kernel
theorem dX5_note_20 : decode cX5_note 20 = .ok (.invokestatic 109, 3) := by decide +kernel
theorem dX5_note_23 : decode cX5_note 23 = .ok (.ifCond .eq 14, 3) := by decide +kernel
theorem dX5_note_26 : decode cX5_note 26 = .ok (.iload_n 3, 1) := by decide +kernel
theorem dX5_note_27 : decode cX5_note 27 = .ok (.bipush (-100), 2) := by decide +kernel
theorem dX5_note_29 : decode cX5_note 29 = .ok (.bipush 100, 2) := by decide +kernel
theorem dX5_note_31 : decode cX5_note 31 = .ok (.invokestatic 109, 3) := by decide +kernel
theorem dX5_note_34 : decode cX5_note 34 = .ok (.ifCond .ne 7, 3) := by decide +kernel
theorem dX5_note_37 : decode cX5_note 37 = .ok (.sipush (-9002), 3) := by decide +kernel
theorem dX5_note_40 : decode cX5_note 40 = .ok (.ireturn, 1) := by decide +kernel
theorem dX5_note_41 : decode cX5_note 41 = .ok (.aload_n 0, 1) := by decide +kernel
theorem dX5_note_42 : decode cX5_note 42 = .ok (.getfield 113, 3) := by decide +kernel
theorem dX5_note_45 : decode cX5_note 45 = .ok (.bipush 60, 2) := by decide +kernel
theorem dX5_note_47 : decode cX5_note 47 = .ok (.if_icmp .ne 7, 3) := by decide +kernel
theorem dX5_note_50 : decode cX5_note 50 = .ok (.sipush (-9004), 3) := by decide +kernel
theorem dX5_note_53 : decode cX5_note 53 = .ok (.ireturn, 1) := by decide +kernel
theorem dX5_note_54 : decode cX5_note 54 = .ok (.aload_n 0, 1) := by decide +kernel
theorem dX5_note_55 : decode cX5_note 55 = .ok (.getfield 13, 3) := by decide +kernel
theorem dX5_note_58 : decode cX5_note 58 = .ok (.aload_n 0, 1) := by decide +kernel
theorem dX5_note_59 : decode cX5_note 59 = .ok (.getfield 113, 3) := by decide +kernel
theorem dX5_note_62 : decode cX5_note 62 = .ok (.iload_n 1, 1) := by decide +kernel
theorem dX5_note_63 : decode cX5_note 63 = .ok (.iastore, 1) := by decide +kernel
theorem dX5_note_64 : decode cX5_note 64 = .ok (.aload_n 0, 1) := by decide +kernel
theorem dX5_note_65 : decode cX5_note 65 = .ok (.getfield 16, 3) := by decide +kernel
theorem dX5_note_68 : decode cX5_note 68 = .ok (.aload_n 0, 1) := by decide +kernel
theorem dX5_note_69 : decode cX5_note 69 = .ok (.getfield 113, 3) := by decide +kernel
theorem dX5_note_72 : decode cX5_note 72 = .ok (.iload_n 2, 1) := by decide +kernel
theorem dX5_note_73 : decode cX5_note 73 = .ok (.iastore, 1) := by decide +kernel
theorem dX5_note_74 : decode cX5_note 74 = .ok (.aload_n 0, 1) := by decide +kernel
theorem dX5_note_75 : decode cX5_note 75 = .ok (.getfield 19, 3) := by decide +kernel
theorem dX5_note_78 : decode cX5_note 78 = .ok (.aload_n 0, 1) := by decide +kernel
theorem dX5_note_79 : decode cX5_note 79 = .ok (.getfield 113, 3) := by decide +kernel
theorem dX5_note_82 : decode cX5_note 82 = .ok (.iload_n 3, 1) := by decide +kernel
theorem dX5_note_83 : decode cX5_note 83 = .ok (.iastore, 1) := by decide +kernel
theorem dX5_note_84 : decode cX5_note 84 = .ok (.aload_n 0, 1) := by decide +kernel
theorem dX5_note_85 : decode cX5_note 85 = .ok (.getfield 22, 3) := by decide +kernel
theorem dX5_note_88 : decode cX5_note 88 = .ok (.aload_n 0, 1) := by decide +kernel
theorem dX5_note_89 : decode cX5_note 89 = .ok (.getfield 113, 3) := by decide +kernel
theorem dX5_note_92 : decode cX5_note 92 = .ok (.iload 4, 2) := by decide +kernel
theorem dX5_note_94 : decode cX5_note 94 = .ok (.bastore, 1) := by decide +kernel
theorem dX5_note_95 : decode cX5_note 95 = .ok (.aload_n 0, 1) := by decide +kernel
theorem dX5_note_96 : decode cX5_note 96 = .ok (.dup, 1) := by decide +kernel
theorem dX5_note_97 : decode cX5_note 97 = .ok (.getfield 113, 3) := by decide +kernel
theorem dX5_note_100 : decode cX5_note 100 = .ok (.iconst 1, 1) := by decide +kernel
theorem dX5_note_101 : decode cX5_note 101 = .ok (.iadd, 1) := by decide +kernel
theorem dX5_note_102 : decode cX5_note 102 = .ok (.putfield 113, 3) := by decide +kernel
theorem dX5_note_105 : decode cX5_note 105 = .ok (.aload_n 0, 1) := by decide +kernel
theorem dX5_note_106 : decode cX5_note 106 = .ok (.getfield 113, 3) := by decide +kernel
theorem dX5_note_109 : decode cX5_note 109 = .ok (.iconst 1, 1) := by decide +kernel
theorem dX5_note_110 : decode cX5_note 110 = .ok (.isub, 1) := by decide +kernel
theorem dX5_note_111 : decode cX5_note 111 = .ok (.ireturn, 1) := by decide +kernel
theorem dX5_mark_0 : decode cX5_mark 0 = .ok (.aload_n 0, 1) := by decide +kernel
theorem dX5_mark_1 : decode cX5_mark 1 = .ok (.iload_n 1, 1) := by decide +kernel
theorem dX5_mark_2 : decode cX5_mark 2 = .ok (.invokevirtual 116, 3) := by decide +kernel
theorem dX5_mark_5 : decode cX5_mark 5 = .ok (.ifCond .ne 7, 3) := by decide +kernel
theorem dX5_mark_8 : decode cX5_mark 8 = .ok (.sipush (-9001), 3) := by decide +kernel
theorem dX5_mark_11 : decode cX5_mark 11 = .ok (.ireturn, 1) := by decide +kernel
theorem dX5_mark_12 : decode cX5_mark 12 = .ok (.iload_n 2, 1) := by decide +kernel
theorem dX5_mark_13 : decode cX5_mark 13 = .ok (.iconst 0, 1) := by decide +kernel
theorem dX5_mark_14 : decode cX5_mark 14 = .ok (.aload_n 0, 1) := by decide +kernel
theorem dX5_mark_15 : decode cX5_mark 15 = .ok (.getfield 7, 3) := by decide +kernel
theorem dX5_mark_18 : decode cX5_mark 18 = .ok (.iload_n 1, 1) := by decide +kernel
theorem dX5_mark_19 : decode cX5_mark 19 = .ok (.iaload, 1) := by decide +kernel
theorem dX5_mark_20 : decode cX5_mark 20 = .ok (.invokestatic 109, 3) := by decide +kernel
theorem dX5_mark_23 : decode cX5_mark 23 = .ok (.ifCond .eq 40, 3) := by decide +kernel
theorem dX5_mark_26 : decode cX5_mark 26 = .ok (.iload_n 3, 1) := by decide +kernel
theorem dX5_mark_27 : decode cX5_mark 27 = .ok (.sipush (-200), 3) := by decide +kernel
theorem dX5_mark_30 : decode cX5_mark 30 = .ok (.sipush 200, 3) := by decide +kernel
theorem dX5_mark_33 : decode cX5_mark 33 = .ok (.invokestatic 109, 3) := by decide +kernel
theorem dX5_mark_36 : decode cX5_mark 36 = .ok (.ifCond .eq 27, 3) := by decide +kernel
theorem dX5_mark_39 : decode cX5_mark 39 = .ok (.iload 4, 2) := by decide +kernel
theorem dX5_mark_41 : decode cX5_mark 41 = .ok (.iconst 1, 1) := by decide +kernel
theorem dX5_mark_42 : decode cX5_mark 42 = .ok (.sipush 200, 3) := by decide +kernel
theorem dX5_mark_45 : decode cX5_mark 45 = .ok (.invokestatic 109, 3) := by decide +kernel
theorem dX5_mark_48 : decode cX5_mark 48 = .ok (.ifCond .eq 15, 3) := by decide +kernel
theorem dX5_mark_51 : decode cX5_mark 51 = .ok (.iload 5, 2) := by decide +kernel
theorem dX5_mark_53 : decode cX5_mark 53 = .ok (.iconst 1, 1) := by decide +kernel
theorem dX5_mark_54 : decode cX5_mark 54 = .ok (.sipush 200, 3) := by decide +kernel
theorem dX5_mark_57 : decode cX5_mark 57 = .ok (.invokestatic 109, 3) := by decide +kernel
theorem dX5_mark_60 : decode cX5_mark 60 = .ok (.ifCond .ne 7, 3) := by decide +kernel
theorem dX5_mark_63 : decode cX5_mark 63 = .ok (.sipush (-9002), 3) := by decide +kernel
theorem dX5_mark_66 : decode cX5_mark 66 = .ok (.ireturn, 1) := by decide +kernel
theorem dX5_mark_67 : decode cX5_mark 67 = .ok (.aload_n 0, 1) := by decide +kernel
theorem dX5_mark_68 : decode cX5_mark 68 = .ok (.getfield 120, 3) := by decide +kernel
theorem dX5_mark_71 : decode cX5_mark 71 = .ok (.bipush 40, 2) := by decide +kernel
theorem dX5_mark_73 : decode cX5_mark 73 = .ok (.if_icmp .ne 7, 3) := by decide +kernel
theorem dX5_mark_76 : decode cX5_mark 76 = .ok (.sipush (-9004), 3) := by decide +kernel
theorem dX5_mark_79 : decode cX5_mark 79 = .ok (.ireturn, 1) := by decide +kernel
theorem dX5_mark_80 : decode cX5_mark 80 = .ok (.aload_n 0, 1) := by decide +kernel
theorem dX5_mark_81 : decode cX5_mark 81 = .ok (.getfield 26, 3) := by decide +kernel
theorem dX5_mark_84 : decode cX5_mark 84 = .ok (.aload_n 0, 1) := by decide +kernel
theorem dX5_mark_85 : decode cX5_mark 85 = .ok (.getfield 120, 3) := by decide +kernel
theorem dX5_mark_88 : decode cX5_mark 88 = .ok (.iload_n 1, 1) := by decide +kernel
theorem dX5_mark_89 : decode cX5_mark 89 = .ok (.iastore, 1) := by decide +kernel
theorem dX5_mark_90 : decode cX5_mark 90 = .ok (.aload_n 0, 1) := by decide +kernel
theorem dX5_mark_91 : decode cX5_mark 91 = .ok (.getfield 29, 3) := by decide +kernel
theorem dX5_mark_94 : decode cX5_mark 94 = .ok (.aload_n 0, 1) := by decide +kernel
theorem dX5_mark_95 : decode cX5_mark 95 = .ok (.getfield 120, 3) := by decide +kernel
theorem dX5_mark_98 : decode cX5_mark 98 = .ok (.iload_n 2, 1) := by decide +kernel
theorem dX5_mark_99 : decode cX5_mark 99 = .ok (.iastore, 1) := by decide +kernel
theorem dX5_mark_100 : decode cX5_mark 100 = .ok (.aload_n 0, 1) := by decide +kernel
theorem dX5_mark_101 : decode cX5_mark 101 = .ok (.getfield 32, 3) := by decide +kernel
theorem dX5_mark_104 : decode cX5_mark 104 = .ok (.aload_n 0, 1) := by decide +kernel
theorem dX5_mark_105 : decode cX5_mark 105 = .ok (.getfield 120, 3) := by decide +kernel
theorem dX5_mark_108 : decode cX5_mark 108 = .ok (.iload_n 3, 1) := by decide +kernel
theorem dX5_mark_109 : decode cX5_mark 109 = .ok (.iastore, 1) := by decide +kernel
theorem dX5_mark_110 : decode cX5_mark 110 = .ok (.aload_n 0, 1) := by decide +kernel
theorem dX5_mark_111 : decode cX5_mark 111 = .ok (.getfield 35, 3) := by decide +kernel
theorem dX5_mark_114 : decode cX5_mark 114 = .ok (.aload_n 0, 1) := by decide +kernel
theorem dX5_mark_115 : decode cX5_mark 115 = .ok (.getfield 120, 3) := by decide +kernel
theorem dX5_mark_118 : decode cX5_mark 118 = .ok (.iload 4, 2) := by decide +kernel
theorem dX5_mark_120 : decode cX5_mark 120 = .ok (.iastore, 1) := by decide +kernel
theorem dX5_mark_121 : decode cX5_mark 121 = .ok (.aload_n 0, 1) := by decide +kernel
theorem dX5_mark_122 : decode cX5_mark 122 = .ok (.getfield 38, 3) := by decide +kernel
theorem dX5_mark_125 : decode cX5_mark 125 = .ok (.aload_n 0, 1) := by decide +kernel
theorem dX5_mark_126 : decode cX5_mark 126 = .ok (.getfield 120, 3) := by decide +kernel
theorem dX5_mark_129 : decode cX5_mark 129 = .ok (.iload 5, 2) := by decide +kernel
theorem dX5_mark_131 : decode cX5_mark 131 = .ok (.iastore, 1) := by decide +kernel
theorem dX5_mark_132 : decode cX5_mark 132 = .ok (.aload_n 0, 1) := by decide +kernel
theorem dX5_mark_133 : decode cX5_mark 133 = .ok (.dup, 1) := by decide +kernel
theorem dX5_mark_134 : decode cX5_mark 134 = .ok (.getfield 120, 3) := by decide +kernel
theorem dX5_mark_137 : decode cX5_mark 137 = .ok (.iconst 1, 1) := by decide +kernel
theorem dX5_mark_138 : decode cX5_mark 138 = .ok (.iadd, 1) := by decide +kernel
theorem dX5_mark_139 : decode cX5_mark 139 = .ok (.putfield 120, 3) := by decide +kernel
theorem dX5_mark_142 : decode cX5_mark 142 = .ok (.aload_n 0, 1) := by decide +kernel
theorem dX5_mark_143 : decode cX5_mark 143 = .ok (.getfield 120, 3) := by decide +kernel
theorem dX5_mark_146 : decode cX5_mark 146 = .ok (.ireturn, 1) := by decide +kernel
theorem dX5_wedge_0 : decode cX5_wedge 0 = .ok (.aload_n 0, 1) := by decide +kernel
theorem dX5_wedge_1 : decode cX5_wedge 1 = .ok (.iload_n 1, 1) := by decide +kernel
theorem dX5_wedge_2 : decode cX5_wedge 2 = .ok (.invokevirtual 116, 3) := by decide +kernel
theorem dX5_wedge_5 : decode cX5_wedge 5 = .ok (.ifCond .ne 7, 3) := by decide +kernel
theorem dX5_wedge_8 : decode cX5_wedge 8 = .ok (.sipush (-9001), 3) := by decide +kernel
theorem dX5_wedge_11 : decode cX5_wedge 11 = .ok (.ireturn, 1) := by decide +kernel
theorem dX5_wedge_12 : decode cX5_wedge 12 = .ok (.iload_n 2, 1) := by decide +kernel
theorem dX5_wedge_13 : decode cX5_wedge 13 = .ok (.iconst 0, 1) := by decide +kernel
theorem dX5_wedge_14 : decode cX5_wedge 14 = .ok (.aload_n 0, 1) := by decide +kernel
theorem dX5_wedge_15 : decode cX5_wedge 15 = .ok (.getfield 7, 3) := by decide +kernel
theorem dX5_wedge_18 : decode cX5_wedge 18 = .ok (.iload_n 1, 1) := by decide +kernel
theorem dX5_wedge_19 : decode cX5_wedge 19 = .ok (.iaload, 1) := by decide +kernel
theorem dX5_wedge_20 : decode cX5_wedge 20 = .ok (.invokestatic 109, 3) := by decide +kernel
theorem dX5_wedge_23 : decode cX5_wedge 23 = .ok (.ifCond .eq 47, 3) := by decide +kernel
theorem dX5_wedge_26 : decode cX5_wedge 26 = .ok (.iload_n 3, 1) := by decide +kernel
theorem dX5_wedge_27 : decode cX5_wedge 27 = .ok (.iconst 0, 1) := by decide +kernel
theorem dX5_wedge_28 : decode cX5_wedge 28 = .ok (.aload_n 0, 1) := by decide +kernel
theorem dX5_wedge_29 : decode cX5_wedge 29 = .ok (.getfield 7, 3) := by decide +kernel
theorem dX5_wedge_32 : decode cX5_wedge 32 = .ok (.iload_n 1, 1) := by decide +kernel
theorem dX5_wedge_33 : decode cX5_wedge 33 = .ok (.iaload, 1) := by decide +kernel
theorem dX5_wedge_34 : decode cX5_wedge 34 = .ok (.invokestatic 109, 3) := by decide +kernel
theorem dX5_wedge_37 : decode cX5_wedge 37 = .ok (.ifCond .eq 33, 3) := by decide +kernel
theorem dX5_wedge_40 : decode cX5_wedge 40 = .ok (.iload_n 2, 1) := by decide +kernel
theorem dX5_wedge_41 : decode cX5_wedge 41 = .ok (.iload_n 3, 1) := by decide +kernel
theorem dX5_wedge_42 : decode cX5_wedge 42 = .ok (.if_icmp .eq 28, 3) := by decide +kernel
theorem dX5_wedge_45 : decode cX5_wedge 45 = .ok (.iload 4, 2) := by decide +kernel
theorem dX5_wedge_47 : decode cX5_wedge 47 = .ok (.sipush (-200), 3) := by decide +kernel
theorem dX5_wedge_50 : decode cX5_wedge 50 = .ok (.sipush 200, 3) := by decide +kernel
theorem dX5_wedge_53 : decode cX5_wedge 53 = .ok (.invokestatic 109, 3) := by decide +kernel
theorem dX5_wedge_56 : decode cX5_wedge 56 = .ok (.ifCond .eq 14, 3) := by decide +kernel
theorem dX5_wedge_59 : decode cX5_wedge 59 = .ok (.iload 5, 2) := by decide +kernel
theorem dX5_wedge_61 : decode cX5_wedge 61 = .ok (.iconst 1, 1) := by decide +kernel
theorem dX5_wedge_62 : decode cX5_wedge 62 = .ok (.bipush 40, 2) := by decide +kernel
theorem dX5_wedge_64 : decode cX5_wedge 64 = .ok (.invokestatic 109, 3) := by decide +kernel
theorem dX5_wedge_67 : decode cX5_wedge 67 = .ok (.ifCond .ne 7, 3) := by decide +kernel
theorem dX5_wedge_70 : decode cX5_wedge 70 = .ok (.sipush (-9002), 3) := by decide +kernel
theorem dX5_wedge_73 : decode cX5_wedge 73 = .ok (.ireturn, 1) := by decide +kernel
theorem dX5_wedge_74 : decode cX5_wedge 74 = .ok (.aload_n 0, 1) := by decide +kernel
theorem dX5_wedge_75 : decode cX5_wedge 75 = .ok (.getfield 123, 3) := by decide +kernel
theorem dX5_wedge_78 : decode cX5_wedge 78 = .ok (.bipush 12, 2) := by decide +kernel
theorem dX5_wedge_80 : decode cX5_wedge 80 = .ok (.if_icmp .ne 7, 3) := by decide +kernel
theorem dX5_wedge_83 : decode cX5_wedge 83 = .ok (.sipush (-9004), 3) := by decide +kernel
theorem dX5_wedge_86 : decode cX5_wedge 86 = .ok (.ireturn, 1) := by decide +kernel
theorem dX5_wedge_87 : decode cX5_wedge 87 = .ok (.aload_n 0, 1) := by decide +kernel
theorem dX5_wedge_88 : decode cX5_wedge 88 = .ok (.getfield 41, 3) := by decide +kernel
theorem dX5_wedge_91 : decode cX5_wedge 91 = .ok (.aload_n 0, 1) := by decide +kernel
theorem dX5_wedge_92 : decode cX5_wedge 92 = .ok (.getfield 123, 3) := by decide +kernel
theorem dX5_wedge_95 : decode cX5_wedge 95 = .ok (.iload_n 1, 1) := by decide +kernel
theorem dX5_wedge_96 : decode cX5_wedge 96 = .ok (.iastore, 1) := by decide +kernel
theorem dX5_wedge_97 : decode cX5_wedge 97 = .ok (.aload_n 0, 1) := by decide +kernel
theorem dX5_wedge_98 : decode cX5_wedge 98 = .ok (.getfield 44, 3) := by decide +kernel
theorem dX5_wedge_101 : decode cX5_wedge 101 = .ok (.aload_n 0, 1) := by decide +kernel
theorem dX5_wedge_102 : decode cX5_wedge 102 = .ok (.getfield 123, 3) := by decide +kernel
theorem dX5_wedge_105 : decode cX5_wedge 105 = .ok (.iload_n 2, 1) := by decide +kernel
theorem dX5_wedge_106 : decode cX5_wedge 106 = .ok (.iastore, 1) := by decide +kernel
theorem dX5_wedge_107 : decode cX5_wedge 107 = .ok (.aload_n 0, 1) := by decide +kernel
theorem dX5_wedge_108 : decode cX5_wedge 108 = .ok (.getfield 47, 3) := by decide +kernel
theorem dX5_wedge_111 : decode cX5_wedge 111 = .ok (.aload_n 0, 1) := by decide +kernel
theorem dX5_wedge_112 : decode cX5_wedge 112 = .ok (.getfield 123, 3) := by decide +kernel
theorem dX5_wedge_115 : decode cX5_wedge 115 = .ok (.iload_n 3, 1) := by decide +kernel
theorem dX5_wedge_116 : decode cX5_wedge 116 = .ok (.iastore, 1) := by decide +kernel
theorem dX5_wedge_117 : decode cX5_wedge 117 = .ok (.aload_n 0, 1) := by decide +kernel
theorem dX5_wedge_118 : decode cX5_wedge 118 = .ok (.getfield 50, 3) := by decide +kernel
theorem dX5_wedge_121 : decode cX5_wedge 121 = .ok (.aload_n 0, 1) := by decide +kernel
theorem dX5_wedge_122 : decode cX5_wedge 122 = .ok (.getfield 123, 3) := by decide +kernel
theorem dX5_wedge_125 : decode cX5_wedge 125 = .ok (.iload 4, 2) := by decide +kernel
theorem dX5_wedge_127 : decode cX5_wedge 127 = .ok (.iastore, 1) := by decide +kernel
theorem dX5_wedge_128 : decode cX5_wedge 128 = .ok (.aload_n 0, 1) := by decide +kernel
theorem dX5_wedge_129 : decode cX5_wedge 129 = .ok (.getfield 53, 3) := by decide +kernel
theorem dX5_wedge_132 : decode cX5_wedge 132 = .ok (.aload_n 0, 1) := by decide +kernel
theorem dX5_wedge_133 : decode cX5_wedge 133 = .ok (.getfield 123, 3) := by decide +kernel
theorem dX5_wedge_136 : decode cX5_wedge 136 = .ok (.iload 5, 2) := by decide +kernel
theorem dX5_wedge_138 : decode cX5_wedge 138 = .ok (.iastore, 1) := by decide +kernel
theorem dX5_wedge_139 : decode cX5_wedge 139 = .ok (.aload_n 0, 1) := by decide +kernel
theorem dX5_wedge_140 : decode cX5_wedge 140 = .ok (.dup, 1) := by decide +kernel
theorem dX5_wedge_141 : decode cX5_wedge 141 = .ok (.getfield 123, 3) := by decide +kernel
theorem dX5_wedge_144 : decode cX5_wedge 144 = .ok (.iconst 1, 1) := by decide +kernel
theorem dX5_wedge_145 : decode cX5_wedge 145 = .ok (.iadd, 1) := by decide +kernel
theorem dX5_wedge_146 : decode cX5_wedge 146 = .ok (.putfield 123, 3) := by decide +kernel
theorem dX5_wedge_149 : decode cX5_wedge 149 = .ok (.aload_n 0, 1) := by decide +kernel
theorem dX5_wedge_150 : decode cX5_wedge 150 = .ok (.getfield 123, 3) := by decide +kernel
theorem dX5_wedge_153 : decode cX5_wedge 153 = .ok (.ireturn, 1) := by decide +kernel
theorem dX5_isBefore_0 : decode cX5_isBefore 0 = .ok (.aload_n 0, 1) := by decide +kernel
theorem dX5_isBefore_1 : decode cX5_isBefore 1 = .ok (.getfield 13, 3) := by decide +kernel
theorem dX5_isBefore_4 : decode cX5_isBefore 4 = .ok (.iload_n 1, 1) := by decide +kernel
theorem dX5_isBefore_5 : decode cX5_isBefore 5 = .ok (.iaload, 1) := by decide +kernel
theorem dX5_isBefore_6 : decode cX5_isBefore 6 = .ok (.aload_n 0, 1) := by decide +kernel
theorem dX5_isBefore_7 : decode cX5_isBefore 7 = .ok (.getfield 13, 3) := by decide +kernel
theorem dX5_isBefore_10 : decode cX5_isBefore 10 = .ok (.iload_n 2, 1) := by decide +kernel
theorem dX5_isBefore_11 : decode cX5_isBefore 11 = .ok (.iaload, 1) := by decide +kernel
theorem dX5_isBefore_12 : decode cX5_isBefore 12 = .ok (.if_icmp .lt 33, 3) := by decide +kernel
theorem dX5_isBefore_15 : decode cX5_isBefore 15 = .ok (.aload_n 0, 1) := by decide +kernel
theorem dX5_isBefore_16 : decode cX5_isBefore 16 = .ok (.getfield 13, 3) := by decide +kernel
theorem dX5_isBefore_19 : decode cX5_isBefore 19 = .ok (.iload_n 1, 1) := by decide +kernel
theorem dX5_isBefore_20 : decode cX5_isBefore 20 = .ok (.iaload, 1) := by decide +kernel
theorem dX5_isBefore_21 : decode cX5_isBefore 21 = .ok (.aload_n 0, 1) := by decide +kernel
theorem dX5_isBefore_22 : decode cX5_isBefore 22 = .ok (.getfield 13, 3) := by decide +kernel
theorem dX5_isBefore_25 : decode cX5_isBefore 25 = .ok (.iload_n 2, 1) := by decide +kernel
theorem dX5_isBefore_26 : decode cX5_isBefore 26 = .ok (.iaload, 1) := by decide +kernel
theorem dX5_isBefore_27 : decode cX5_isBefore 27 = .ok (.if_icmp .ne 22, 3) := by decide +kernel
theorem dX5_isBefore_30 : decode cX5_isBefore 30 = .ok (.aload_n 0, 1) := by decide +kernel
theorem dX5_isBefore_31 : decode cX5_isBefore 31 = .ok (.getfield 16, 3) := by decide +kernel
theorem dX5_isBefore_34 : decode cX5_isBefore 34 = .ok (.iload_n 1, 1) := by decide +kernel
theorem dX5_isBefore_35 : decode cX5_isBefore 35 = .ok (.iaload, 1) := by decide +kernel
theorem dX5_isBefore_36 : decode cX5_isBefore 36 = .ok (.aload_n 0, 1) := by decide +kernel
theorem dX5_isBefore_37 : decode cX5_isBefore 37 = .ok (.getfield 16, 3) := by decide +kernel
theorem dX5_isBefore_40 : decode cX5_isBefore 40 = .ok (.iload_n 2, 1) := by decide +kernel
theorem dX5_isBefore_41 : decode cX5_isBefore 41 = .ok (.iaload, 1) := by decide +kernel
theorem dX5_isBefore_42 : decode cX5_isBefore 42 = .ok (.if_icmp .ge 7, 3) := by decide +kernel
theorem dX5_isBefore_45 : decode cX5_isBefore 45 = .ok (.iconst 1, 1) := by decide +kernel
theorem dX5_isBefore_46 : decode cX5_isBefore 46 = .ok (.goto 4, 3) := by decide +kernel
theorem dX5_isBefore_49 : decode cX5_isBefore 49 = .ok (.iconst 0, 1) := by decide +kernel
theorem dX5_isBefore_50 : decode cX5_isBefore 50 = .ok (.ireturn, 1) := by decide +kernel
theorem dX5_mayBe_0 : decode cX5_mayBe 0 = .ok (.aload_n 0, 1) := by decide +kernel
theorem dX5_mayBe_1 : decode cX5_mayBe 1 = .ok (.iload_n 1, 1) := by decide +kernel
theorem dX5_mayBe_2 : decode cX5_mayBe 2 = .ok (.iload_n 2, 1) := by decide +kernel
theorem dX5_mayBe_3 : decode cX5_mayBe 3 = .ok (.invokevirtual 126, 3) := by decide +kernel
theorem dX5_mayBe_6 : decode cX5_mayBe 6 = .ok (.ifCond .eq 20, 3) := by decide +kernel
theorem dX5_mayBe_9 : decode cX5_mayBe 9 = .ok (.aload_n 0, 1) := by decide +kernel
theorem dX5_mayBe_10 : decode cX5_mayBe 10 = .ok (.getfield 13, 3) := by decide +kernel
theorem dX5_mayBe_13 : decode cX5_mayBe 13 = .ok (.iload_n 2, 1) := by decide +kernel
theorem dX5_mayBe_14 : decode cX5_mayBe 14 = .ok (.iaload, 1) := by decide +kernel
theorem dX5_mayBe_15 : decode cX5_mayBe 15 = .ok (.aload_n 0, 1) := by decide +kernel
theorem dX5_mayBe_16 : decode cX5_mayBe 16 = .ok (.getfield 13, 3) := by decide +kernel
theorem dX5_mayBe_19 : decode cX5_mayBe 19 = .ok (.iload_n 1, 1) := by decide +kernel
theorem dX5_mayBe_20 : decode cX5_mayBe 20 = .ok (.iaload, 1) := by decide +kernel
theorem dX5_mayBe_21 : decode cX5_mayBe 21 = .ok (.isub, 1) := by decide +kernel
theorem dX5_mayBe_22 : decode cX5_mayBe 22 = .ok (.iconst 1, 1) := by decide +kernel
theorem dX5_mayBe_23 : decode cX5_mayBe 23 = .ok (.if_icmp .le 5, 3) := by decide +kernel
theorem dX5_mayBe_26 : decode cX5_mayBe 26 = .ok (.iconst 0, 1) := by decide +kernel
theorem dX5_mayBe_27 : decode cX5_mayBe 27 = .ok (.ireturn, 1) := by decide +kernel
theorem dX5_mayBe_28 : decode cX5_mayBe 28 = .ok (.aload_n 0, 1) := by decide +kernel
theorem dX5_mayBe_29 : decode cX5_mayBe 29 = .ok (.getfield 13, 3) := by decide +kernel
theorem dX5_mayBe_32 : decode cX5_mayBe 32 = .ok (.iload_n 1, 1) := by decide +kernel
theorem dX5_mayBe_33 : decode cX5_mayBe 33 = .ok (.iaload, 1) := by decide +kernel
theorem dX5_mayBe_34 : decode cX5_mayBe 34 = .ok (.aload_n 0, 1) := by decide +kernel
theorem dX5_mayBe_35 : decode cX5_mayBe 35 = .ok (.getfield 13, 3) := by decide +kernel
theorem dX5_mayBe_38 : decode cX5_mayBe 38 = .ok (.iload_n 2, 1) := by decide +kernel
theorem dX5_mayBe_39 : decode cX5_mayBe 39 = .ok (.iaload, 1) := by decide +kernel
theorem dX5_mayBe_40 : decode cX5_mayBe 40 = .ok (.if_icmp .ne 27, 3) := by decide +kernel
theorem dX5_mayBe_43 : decode cX5_mayBe 43 = .ok (.aload_n 0, 1) := by decide +kernel
theorem dX5_mayBe_44 : decode cX5_mayBe 44 = .ok (.getfield 16, 3) := by decide +kernel
theorem dX5_mayBe_47 : decode cX5_mayBe 47 = .ok (.iload_n 2, 1) := by decide +kernel
theorem dX5_mayBe_48 : decode cX5_mayBe 48 = .ok (.iaload, 1) := by decide +kernel
theorem dX5_mayBe_49 : decode cX5_mayBe 49 = .ok (.aload_n 0, 1) := by decide +kernel
theorem dX5_mayBe_50 : decode cX5_mayBe 50 = .ok (.getfield 16, 3) := by decide +kernel
theorem dX5_mayBe_53 : decode cX5_mayBe 53 = .ok (.iload_n 1, 1) := by decide +kernel
theorem dX5_mayBe_54 : decode cX5_mayBe 54 = .ok (.iaload, 1) := by decide +kernel
theorem dX5_mayBe_55 : decode cX5_mayBe 55 = .ok (.isub, 1) := by decide +kernel
theorem dX5_mayBe_56 : decode cX5_mayBe 56 = .ok (.bipush 12, 2) := by decide +kernel
theorem dX5_mayBe_58 : decode cX5_mayBe 58 = .ok (.if_icmp .lt 7, 3) := by decide +kernel
theorem dX5_mayBe_61 : decode cX5_mayBe 61 = .ok (.iconst 1, 1) := by decide +kernel
theorem dX5_mayBe_62 : decode cX5_mayBe 62 = .ok (.goto 4, 3) := by decide +kernel
theorem dX5_mayBe_65 : decode cX5_mayBe 65 = .ok (.iconst 0, 1) := by decide +kernel
theorem dX5_mayBe_66 : decode cX5_mayBe 66 = .ok (.ireturn, 1) := by decide +kernel
theorem dX5_mayBe_67 : decode cX5_mayBe 67 = .ok (.aload_n 0, 1) := by decide +kernel
theorem dX5_mayBe_68 : decode cX5_mayBe 68 = .ok (.getfield 7, 3) := by decide +kernel
theorem dX5_mayBe_71 : decode cX5_mayBe 71 = .ok (.aload_n 0, 1) := by decide +kernel
theorem dX5_mayBe_72 : decode cX5_mayBe 72 = .ok (.getfield 13, 3) := by decide +kernel
theorem dX5_mayBe_75 : decode cX5_mayBe 75 = .ok (.iload_n 1, 1) := by decide +kernel
theorem dX5_mayBe_76 : decode cX5_mayBe 76 = .ok (.iaload, 1) := by decide +kernel
theorem dX5_mayBe_77 : decode cX5_mayBe 77 = .ok (.iaload, 1) := by decide +kernel
theorem dX5_mayBe_78 : decode cX5_mayBe 78 = .ok (.aload_n 0, 1) := by decide +kernel
theorem dX5_mayBe_79 : decode cX5_mayBe 79 = .ok (.getfield 16, 3) := by decide +kernel
theorem dX5_mayBe_82 : decode cX5_mayBe 82 = .ok (.iload_n 1, 1) := by decide +kernel
theorem dX5_mayBe_83 : decode cX5_mayBe 83 = .ok (.iaload, 1) := by decide +kernel
theorem dX5_mayBe_84 : decode cX5_mayBe 84 = .ok (.isub, 1) := by decide +kernel
theorem dX5_mayBe_85 : decode cX5_mayBe 85 = .ok (.bipush 12, 2) := by decide +kernel
theorem dX5_mayBe_87 : decode cX5_mayBe 87 = .ok (.if_icmp .lt 18, 3) := by decide +kernel
theorem dX5_mayBe_90 : decode cX5_mayBe 90 = .ok (.aload_n 0, 1) := by decide +kernel
theorem dX5_mayBe_91 : decode cX5_mayBe 91 = .ok (.getfield 16, 3) := by decide +kernel
theorem dX5_mayBe_94 : decode cX5_mayBe 94 = .ok (.iload_n 2, 1) := by decide +kernel
theorem dX5_mayBe_95 : decode cX5_mayBe 95 = .ok (.iaload, 1) := by decide +kernel
theorem dX5_mayBe_96 : decode cX5_mayBe 96 = .ok (.bipush 12, 2) := by decide +kernel
theorem dX5_mayBe_98 : decode cX5_mayBe 98 = .ok (.if_icmp .lt 7, 3) := by decide +kernel
theorem dX5_mayBe_101 : decode cX5_mayBe 101 = .ok (.iconst 1, 1) := by decide +kernel
theorem dX5_mayBe_102 : decode cX5_mayBe 102 = .ok (.goto 4, 3) := by decide +kernel
theorem dX5_mayBe_105 : decode cX5_mayBe 105 = .ok (.iconst 0, 1) := by decide +kernel
theorem dX5_mayBe_106 : decode cX5_mayBe 106 = .ok (.ireturn, 1) := by decide +kernel
theorem dX5_comes_0 : decode cX5_comes 0 = .ok (.aload_n 0, 1) := by decide +kernel
theorem dX5_comes_1 : decode cX5_comes 1 = .ok (.iload_n 1, 1) := by decide +kernel
theorem dX5_comes_2 : decode cX5_comes 2 = .ok (.invokevirtual 130, 3) := by decide +kernel
theorem dX5_comes_5 : decode cX5_comes 5 = .ok (.ifCond .eq 11, 3) := by decide +kernel
theorem dX5_comes_8 : decode cX5_comes 8 = .ok (.aload_n 0, 1) := by decide +kernel
theorem dX5_comes_9 : decode cX5_comes 9 = .ok (.iload_n 2, 1) := by decide +kernel
theorem dX5_comes_10 : decode cX5_comes 10 = .ok (.invokevirtual 130, 3) := by decide +kernel
theorem dX5_comes_13 : decode cX5_comes 13 = .ok (.ifCond .ne 7, 3) := by decide +kernel
theorem dX5_comes_16 : decode cX5_comes 16 = .ok (.sipush (-9001), 3) := by decide +kernel
theorem dX5_comes_19 : decode cX5_comes 19 = .ok (.ireturn, 1) := by decide +kernel
theorem dX5_comes_20 : decode cX5_comes 20 = .ok (.aload_n 0, 1) := by decide +kernel
theorem dX5_comes_21 : decode cX5_comes 21 = .ok (.iload_n 1, 1) := by decide +kernel
theorem dX5_comes_22 : decode cX5_comes 22 = .ok (.iload_n 2, 1) := by decide +kernel
theorem dX5_comes_23 : decode cX5_comes 23 = .ok (.invokevirtual 133, 3) := by decide +kernel
theorem dX5_comes_26 : decode cX5_comes 26 = .ok (.ifCond .eq 22, 3) := by decide +kernel
theorem dX5_comes_29 : decode cX5_comes 29 = .ok (.iload_n 3, 1) := by decide +kernel
theorem dX5_comes_30 : decode cX5_comes 30 = .ok (.ifCond .eq 22, 3) := by decide +kernel
theorem dX5_comes_33 : decode cX5_comes 33 = .ok (.aload_n 0, 1) := by decide +kernel
theorem dX5_comes_34 : decode cX5_comes 34 = .ok (.getfield 19, 3) := by decide +kernel
theorem dX5_comes_37 : decode cX5_comes 37 = .ok (.iload_n 1, 1) := by decide +kernel
theorem dX5_comes_38 : decode cX5_comes 38 = .ok (.iaload, 1) := by decide +kernel
theorem dX5_comes_39 : decode cX5_comes 39 = .ok (.aload_n 0, 1) := by decide +kernel
theorem dX5_comes_40 : decode cX5_comes 40 = .ok (.getfield 19, 3) := by decide +kernel
theorem dX5_comes_43 : decode cX5_comes 43 = .ok (.iload_n 2, 1) := by decide +kernel
theorem dX5_comes_44 : decode cX5_comes 44 = .ok (.iaload, 1) := by decide +kernel
theorem dX5_comes_45 : decode cX5_comes 45 = .ok (.if_icmp .eq 7, 3) := by decide +kernel
theorem dX5_comes_48 : decode cX5_comes 48 = .ok (.sipush (-9003), 3) := by decide +kernel
theorem dX5_comes_51 : decode cX5_comes 51 = .ok (.ireturn, 1) := by decide +kernel
theorem dX5_comes_52 : decode cX5_comes 52 = .ok (.aload_n 0, 1) := by decide +kernel
theorem dX5_comes_53 : decode cX5_comes 53 = .ok (.getfield 136, 3) := by decide +kernel
theorem dX5_comes_56 : decode cX5_comes 56 = .ok (.bipush 40, 2) := by decide +kernel
theorem dX5_comes_58 : decode cX5_comes 58 = .ok (.if_icmp .ne 7, 3) := by decide +kernel
theorem dX5_comes_61 : decode cX5_comes 61 = .ok (.sipush (-9004), 3) := by decide +kernel
theorem dX5_comes_64 : decode cX5_comes 64 = .ok (.ireturn, 1) := by decide +kernel
theorem dX5_comes_65 : decode cX5_comes 65 = .ok (.aload_n 0, 1) := by decide +kernel
theorem dX5_comes_66 : decode cX5_comes 66 = .ok (.getfield 136, 3) := by decide +kernel
theorem dX5_comes_69 : decode cX5_comes 69 = .ok (.istore 4, 2) := by decide +kernel
theorem dX5_comes_71 : decode cX5_comes 71 = .ok (.aload_n 0, 1) := by decide +kernel
theorem dX5_comes_72 : decode cX5_comes 72 = .ok (.getfield 56, 3) := by decide +kernel
theorem dX5_comes_75 : decode cX5_comes 75 = .ok (.iload 4, 2) := by decide +kernel
theorem dX5_comes_77 : decode cX5_comes 77 = .ok (.iload_n 1, 1) := by decide +kernel
theorem dX5_comes_78 : decode cX5_comes 78 = .ok (.iastore, 1) := by decide +kernel
theorem dX5_comes_79 : decode cX5_comes 79 = .ok (.aload_n 0, 1) := by decide +kernel
theorem dX5_comes_80 : decode cX5_comes 80 = .ok (.getfield 59, 3) := by decide +kernel
theorem dX5_comes_83 : decode cX5_comes 83 = .ok (.iload 4, 2) := by decide +kernel
theorem dX5_comes_85 : decode cX5_comes 85 = .ok (.iload_n 2, 1) := by decide +kernel
theorem dX5_comes_86 : decode cX5_comes 86 = .ok (.iastore, 1) := by decide +kernel
theorem dX5_comes_87 : decode cX5_comes 87 = .ok (.aload_n 0, 1) := by decide +kernel
theorem dX5_comes_88 : decode cX5_comes 88 = .ok (.getfield 62, 3) := by decide +kernel
theorem dX5_comes_91 : decode cX5_comes 91 = .ok (.iload 4, 2) := by decide +kernel
theorem dX5_comes_93 : decode cX5_comes 93 = .ok (.iload_n 3, 1) := by decide +kernel
theorem dX5_comes_94 : decode cX5_comes 94 = .ok (.bastore, 1) := by decide +kernel
theorem dX5_comes_95 : decode cX5_comes 95 = .ok (.aload_n 0, 1) := by decide +kernel
theorem dX5_comes_96 : decode cX5_comes 96 = .ok (.dup, 1) := by decide +kernel
theorem dX5_comes_97 : decode cX5_comes 97 = .ok (.getfield 136, 3) := by decide +kernel
theorem dX5_comes_100 : decode cX5_comes 100 = .ok (.iconst 1, 1) := by decide +kernel
theorem dX5_comes_101 : decode cX5_comes 101 = .ok (.iadd, 1) := by decide +kernel
theorem dX5_comes_102 : decode cX5_comes 102 = .ok (.putfield 136, 3) := by decide +kernel
theorem dX5_comes_105 : decode cX5_comes 105 = .ok (.aload_n 0, 1) := by decide +kernel
theorem dX5_comes_106 : decode cX5_comes 106 = .ok (.iload 4, 2) := by decide +kernel
theorem dX5_comes_108 : decode cX5_comes 108 = .ok (.invokevirtual 139, 3) := by decide +kernel
theorem dX5_comes_111 : decode cX5_comes 111 = .ok (.iconst 0, 1) := by decide +kernel
theorem dX5_comes_112 : decode cX5_comes 112 = .ok (.istore 5, 2) := by decide +kernel
theorem dX5_comes_114 : decode cX5_comes 114 = .ok (.iload 5, 2) := by decide +kernel
theorem dX5_comes_116 : decode cX5_comes 116 = .ok (.aload_n 0, 1) := by decide +kernel
theorem dX5_comes_117 : decode cX5_comes 117 = .ok (.getfield 68, 3) := by decide +kernel
theorem dX5_comes_120 : decode cX5_comes 120 = .ok (.iload 4, 2) := by decide +kernel
theorem dX5_comes_122 : decode cX5_comes 122 = .ok (.iaload, 1) := by decide +kernel
theorem dX5_comes_123 : decode cX5_comes 123 = .ok (.if_icmp .ge 17, 3) := by decide +kernel
theorem dX5_comes_126 : decode cX5_comes 126 = .ok (.aload_n 0, 1) := by decide +kernel
theorem dX5_comes_127 : decode cX5_comes 127 = .ok (.iload 4, 2) := by decide +kernel
theorem dX5_comes_129 : decode cX5_comes 129 = .ok (.iload 5, 2) := by decide +kernel
theorem dX5_comes_131 : decode cX5_comes 131 = .ok (.invokevirtual 143, 3) := by decide +kernel
theorem dX5_comes_134 : decode cX5_comes 134 = .ok (.iinc 5 1, 3) := by decide +kernel
theorem dX5_comes_137 : decode cX5_comes 137 = .ok (.goto (-23), 3) := by decide +kernel
theorem dX5_comes_140 : decode cX5_comes 140 = .ok (.iload 4, 2) := by decide +kernel
theorem dX5_comes_142 : decode cX5_comes 142 = .ok (.ireturn, 1) := by decide +kernel
theorem dX5_tie_0 : decode cX5_tie 0 = .ok (.aload_n 0, 1) := by decide +kernel
theorem dX5_tie_1 : decode cX5_tie 1 = .ok (.iload_n 1, 1) := by decide +kernel
theorem dX5_tie_2 : decode cX5_tie 2 = .ok (.iload_n 2, 1) := by decide +kernel
theorem dX5_tie_3 : decode cX5_tie 3 = .ok (.iconst 1, 1) := by decide +kernel
theorem dX5_tie_4 : decode cX5_tie 4 = .ok (.invokevirtual 147, 3) := by decide +kernel
theorem dX5_tie_7 : decode cX5_tie 7 = .ok (.ireturn, 1) := by decide +kernel
theorem dX5_slur_0 : decode cX5_slur 0 = .ok (.aload_n 0, 1) := by decide +kernel
theorem dX5_slur_1 : decode cX5_slur 1 = .ok (.iload_n 1, 1) := by decide +kernel
theorem dX5_slur_2 : decode cX5_slur 2 = .ok (.iload_n 2, 1) := by decide +kernel
theorem dX5_slur_3 : decode cX5_slur 3 = .ok (.iconst 0, 1) := by decide +kernel
theorem dX5_slur_4 : decode cX5_slur 4 = .ok (.invokevirtual 147, 3) := by decide +kernel
theorem dX5_slur_7 : decode cX5_slur 7 = .ok (.ireturn, 1) := by decide +kernel
theorem dX5_sideOfTie_0 : decode cX5_sideOfTie 0 = .ok (.iconst 0, 1) := by decide +kernel
theorem dX5_sideOfTie_1 : decode cX5_sideOfTie 1 = .ok (.istore_n 2, 1) := by decide +kernel
theorem dX5_sideOfTie_2 : decode cX5_sideOfTie 2 = .ok (.iconst 0, 1) := by decide +kernel
theorem dX5_sideOfTie_3 : decode cX5_sideOfTie 3 = .ok (.istore_n 3, 1) := by decide +kernel
theorem dX5_sideOfTie_4 : decode cX5_sideOfTie 4 = .ok (.iconst 0, 1) := by decide +kernel
theorem dX5_sideOfTie_5 : decode cX5_sideOfTie 5 = .ok (.istore 4, 2) := by decide +kernel
theorem dX5_sideOfTie_7 : decode cX5_sideOfTie 7 = .ok (.iload 4, 2) := by decide +kernel
theorem dX5_sideOfTie_9 : decode cX5_sideOfTie 9 = .ok (.aload_n 0, 1) := by decide +kernel
theorem dX5_sideOfTie_10 : decode cX5_sideOfTie 10 = .ok (.getfield 113, 3) := by decide +kernel
theorem dX5_sideOfTie_13 : decode cX5_sideOfTie 13 = .ok (.if_icmp .ge 89, 3) := by decide +kernel
theorem dX5_sideOfTie_16 : decode cX5_sideOfTie 16 = .ok (.aload_n 0, 1) := by decide +kernel
theorem dX5_sideOfTie_17 : decode cX5_sideOfTie 17 = .ok (.getfield 13, 3) := by decide +kernel
theorem dX5_sideOfTie_20 : decode cX5_sideOfTie 20 = .ok (.iload 4, 2) := by decide +kernel
theorem dX5_sideOfTie_22 : decode cX5_sideOfTie 22 = .ok (.iaload, 1) := by decide +kernel
theorem dX5_sideOfTie_23 : decode cX5_sideOfTie 23 = .ok (.aload_n 0, 1) := by decide +kernel
theorem dX5_sideOfTie_24 : decode cX5_sideOfTie 24 = .ok (.getfield 13, 3) := by decide +kernel
theorem dX5_sideOfTie_27 : decode cX5_sideOfTie 27 = .ok (.iload_n 1, 1) := by decide +kernel
theorem dX5_sideOfTie_28 : decode cX5_sideOfTie 28 = .ok (.iaload, 1) := by decide +kernel
theorem dX5_sideOfTie_29 : decode cX5_sideOfTie 29 = .ok (.if_icmp .ne 67, 3) := by decide +kernel
theorem dX5_sideOfTie_32 : decode cX5_sideOfTie 32 = .ok (.aload_n 0, 1) := by decide +kernel
theorem dX5_sideOfTie_33 : decode cX5_sideOfTie 33 = .ok (.getfield 16, 3) := by decide +kernel
theorem dX5_sideOfTie_36 : decode cX5_sideOfTie 36 = .ok (.iload 4, 2) := by decide +kernel
theorem dX5_sideOfTie_38 : decode cX5_sideOfTie 38 = .ok (.iaload, 1) := by decide +kernel
theorem dX5_sideOfTie_39 : decode cX5_sideOfTie 39 = .ok (.aload_n 0, 1) := by decide +kernel
theorem dX5_sideOfTie_40 : decode cX5_sideOfTie 40 = .ok (.getfield 16, 3) := by decide +kernel
theorem dX5_sideOfTie_43 : decode cX5_sideOfTie 43 = .ok (.iload_n 1, 1) := by decide +kernel
theorem dX5_sideOfTie_44 : decode cX5_sideOfTie 44 = .ok (.iaload, 1) := by decide +kernel
theorem dX5_sideOfTie_45 : decode cX5_sideOfTie 45 = .ok (.if_icmp .ne 51, 3) := by decide +kernel
theorem dX5_sideOfTie_48 : decode cX5_sideOfTie 48 = .ok (.iload_n 2, 1) := by decide +kernel
theorem dX5_sideOfTie_49 : decode cX5_sideOfTie 49 = .ok (.aload_n 0, 1) := by decide +kernel
theorem dX5_sideOfTie_50 : decode cX5_sideOfTie 50 = .ok (.getfield 19, 3) := by decide +kernel
theorem dX5_sideOfTie_53 : decode cX5_sideOfTie 53 = .ok (.iload 4, 2) := by decide +kernel
theorem dX5_sideOfTie_55 : decode cX5_sideOfTie 55 = .ok (.iaload, 1) := by decide +kernel
theorem dX5_sideOfTie_56 : decode cX5_sideOfTie 56 = .ok (.aload_n 0, 1) := by decide +kernel
theorem dX5_sideOfTie_57 : decode cX5_sideOfTie 57 = .ok (.getfield 19, 3) := by decide +kernel
theorem dX5_sideOfTie_60 : decode cX5_sideOfTie 60 = .ok (.iload_n 1, 1) := by decide +kernel
theorem dX5_sideOfTie_61 : decode cX5_sideOfTie 61 = .ok (.iaload, 1) := by decide +kernel
theorem dX5_sideOfTie_62 : decode cX5_sideOfTie 62 = .ok (.if_icmp .le 7, 3) := by decide +kernel
theorem dX5_sideOfTie_65 : decode cX5_sideOfTie 65 = .ok (.iconst 1, 1) := by decide +kernel
theorem dX5_sideOfTie_66 : decode cX5_sideOfTie 66 = .ok (.goto 4, 3) := by decide +kernel
theorem dX5_sideOfTie_69 : decode cX5_sideOfTie 69 = .ok (.iconst 0, 1) := by decide +kernel
theorem dX5_sideOfTie_70 : decode cX5_sideOfTie 70 = .ok (.iadd, 1) := by decide +kernel
theorem dX5_sideOfTie_71 : decode cX5_sideOfTie 71 = .ok (.istore_n 2, 1) := by decide +kernel
theorem dX5_sideOfTie_72 : decode cX5_sideOfTie 72 = .ok (.iload_n 3, 1) := by decide +kernel
theorem dX5_sideOfTie_73 : decode cX5_sideOfTie 73 = .ok (.aload_n 0, 1) := by decide +kernel
theorem dX5_sideOfTie_74 : decode cX5_sideOfTie 74 = .ok (.getfield 19, 3) := by decide +kernel
theorem dX5_sideOfTie_77 : decode cX5_sideOfTie 77 = .ok (.iload 4, 2) := by decide +kernel
theorem dX5_sideOfTie_79 : decode cX5_sideOfTie 79 = .ok (.iaload, 1) := by decide +kernel
theorem dX5_sideOfTie_80 : decode cX5_sideOfTie 80 = .ok (.aload_n 0, 1) := by decide +kernel
theorem dX5_sideOfTie_81 : decode cX5_sideOfTie 81 = .ok (.getfield 19, 3) := by decide +kernel
theorem dX5_sideOfTie_84 : decode cX5_sideOfTie 84 = .ok (.iload_n 1, 1) := by decide +kernel
theorem dX5_sideOfTie_85 : decode cX5_sideOfTie 85 = .ok (.iaload, 1) := by decide +kernel
theorem dX5_sideOfTie_86 : decode cX5_sideOfTie 86 = .ok (.if_icmp .ge 7, 3) := by decide +kernel
theorem dX5_sideOfTie_89 : decode cX5_sideOfTie 89 = .ok (.iconst 1, 1) := by decide +kernel
theorem dX5_sideOfTie_90 : decode cX5_sideOfTie 90 = .ok (.goto 4, 3) := by decide +kernel
theorem dX5_sideOfTie_93 : decode cX5_sideOfTie 93 = .ok (.iconst 0, 1) := by decide +kernel
theorem dX5_sideOfTie_94 : decode cX5_sideOfTie 94 = .ok (.iadd, 1) := by decide +kernel
theorem dX5_sideOfTie_95 : decode cX5_sideOfTie 95 = .ok (.istore_n 3, 1) := by decide +kernel
theorem dX5_sideOfTie_96 : decode cX5_sideOfTie 96 = .ok (.iinc 4 1, 3) := by decide +kernel
theorem dX5_sideOfTie_99 : decode cX5_sideOfTie 99 = .ok (.goto (-92), 3) := by decide +kernel
theorem dX5_sideOfTie_102 : decode cX5_sideOfTie 102 = .ok (.iload_n 2, 1) := by decide +kernel
theorem dX5_sideOfTie_103 : decode cX5_sideOfTie 103 = .ok (.iload_n 3, 1) := by decide +kernel
theorem dX5_sideOfTie_104 : decode cX5_sideOfTie 104 = .ok (.if_icmp .ge 7, 3) := by decide +kernel
theorem dX5_sideOfTie_107 : decode cX5_sideOfTie 107 = .ok (.iconst 1, 1) := by decide +kernel
theorem dX5_sideOfTie_108 : decode cX5_sideOfTie 108 = .ok (.goto 26, 3) := by decide +kernel
theorem dX5_sideOfTie_111 : decode cX5_sideOfTie 111 = .ok (.iload_n 2, 1) := by decide +kernel
theorem dX5_sideOfTie_112 : decode cX5_sideOfTie 112 = .ok (.iload_n 3, 1) := by decide +kernel
theorem dX5_sideOfTie_113 : decode cX5_sideOfTie 113 = .ok (.if_icmp .le 7, 3) := by decide +kernel
theorem dX5_sideOfTie_116 : decode cX5_sideOfTie 116 = .ok (.iconst (-1), 1) := by decide +kernel
theorem dX5_sideOfTie_117 : decode cX5_sideOfTie 117 = .ok (.goto 17, 3) := by decide +kernel
theorem dX5_sideOfTie_120 : decode cX5_sideOfTie 120 = .ok (.aload_n 0, 1) := by decide +kernel
theorem dX5_sideOfTie_121 : decode cX5_sideOfTie 121 = .ok (.getfield 22, 3) := by decide +kernel
theorem dX5_sideOfTie_124 : decode cX5_sideOfTie 124 = .ok (.iload_n 1, 1) := by decide +kernel
theorem dX5_sideOfTie_125 : decode cX5_sideOfTie 125 = .ok (.baload, 1) := by decide +kernel
theorem dX5_sideOfTie_126 : decode cX5_sideOfTie 126 = .ok (.ifCond .eq 7, 3) := by decide +kernel
theorem dX5_sideOfTie_129 : decode cX5_sideOfTie 129 = .ok (.iconst (-1), 1) := by decide +kernel
theorem dX5_sideOfTie_130 : decode cX5_sideOfTie 130 = .ok (.goto 4, 3) := by decide +kernel
theorem dX5_sideOfTie_133 : decode cX5_sideOfTie 133 = .ok (.iconst 1, 1) := by decide +kernel
theorem dX5_sideOfTie_134 : decode cX5_sideOfTie 134 = .ok (.ireturn, 1) := by decide +kernel
theorem dX5_sideOfSlur_0 : decode cX5_sideOfSlur 0 = .ok (.iconst 0, 1) := by decide +kernel
theorem dX5_sideOfSlur_1 : decode cX5_sideOfSlur 1 = .ok (.istore_n 3, 1) := by decide +kernel
theorem dX5_sideOfSlur_2 : decode cX5_sideOfSlur 2 = .ok (.iconst 0, 1) := by decide +kernel
theorem dX5_sideOfSlur_3 : decode cX5_sideOfSlur 3 = .ok (.istore 4, 2) := by decide +kernel
theorem dX5_sideOfSlur_5 : decode cX5_sideOfSlur 5 = .ok (.iload 4, 2) := by decide +kernel
theorem dX5_sideOfSlur_7 : decode cX5_sideOfSlur 7 = .ok (.aload_n 0, 1) := by decide +kernel
theorem dX5_sideOfSlur_8 : decode cX5_sideOfSlur 8 = .ok (.getfield 113, 3) := by decide +kernel
theorem dX5_sideOfSlur_11 : decode cX5_sideOfSlur 11 = .ok (.if_icmp .ge 73, 3) := by decide +kernel
theorem dX5_sideOfSlur_14 : decode cX5_sideOfSlur 14 = .ok (.iload 4, 2) := by decide +kernel
theorem dX5_sideOfSlur_16 : decode cX5_sideOfSlur 16 = .ok (.iload_n 1, 1) := by decide +kernel
theorem dX5_sideOfSlur_17 : decode cX5_sideOfSlur 17 = .ok (.if_icmp .eq 29, 3) := by decide +kernel
theorem dX5_sideOfSlur_20 : decode cX5_sideOfSlur 20 = .ok (.iload 4, 2) := by decide +kernel
theorem dX5_sideOfSlur_22 : decode cX5_sideOfSlur 22 = .ok (.iload_n 2, 1) := by decide +kernel
theorem dX5_sideOfSlur_23 : decode cX5_sideOfSlur 23 = .ok (.if_icmp .eq 23, 3) := by decide +kernel
theorem dX5_sideOfSlur_26 : decode cX5_sideOfSlur 26 = .ok (.aload_n 0, 1) := by decide +kernel
theorem dX5_sideOfSlur_27 : decode cX5_sideOfSlur 27 = .ok (.iload_n 1, 1) := by decide +kernel
theorem dX5_sideOfSlur_28 : decode cX5_sideOfSlur 28 = .ok (.iload 4, 2) := by decide +kernel
theorem dX5_sideOfSlur_30 : decode cX5_sideOfSlur 30 = .ok (.invokevirtual 126, 3) := by decide +kernel
theorem dX5_sideOfSlur_33 : decode cX5_sideOfSlur 33 = .ok (.ifCond .eq 17, 3) := by decide +kernel
theorem dX5_sideOfSlur_36 : decode cX5_sideOfSlur 36 = .ok (.aload_n 0, 1) := by decide +kernel
theorem dX5_sideOfSlur_37 : decode cX5_sideOfSlur 37 = .ok (.iload 4, 2) := by decide +kernel
theorem dX5_sideOfSlur_39 : decode cX5_sideOfSlur 39 = .ok (.iload_n 2, 1) := by decide +kernel
theorem dX5_sideOfSlur_40 : decode cX5_sideOfSlur 40 = .ok (.invokevirtual 126, 3) := by decide +kernel
theorem dX5_sideOfSlur_43 : decode cX5_sideOfSlur 43 = .ok (.ifCond .eq 7, 3) := by decide +kernel
theorem dX5_sideOfSlur_46 : decode cX5_sideOfSlur 46 = .ok (.iconst 1, 1) := by decide +kernel
theorem dX5_sideOfSlur_47 : decode cX5_sideOfSlur 47 = .ok (.goto 4, 3) := by decide +kernel
theorem dX5_sideOfSlur_50 : decode cX5_sideOfSlur 50 = .ok (.iconst 0, 1) := by decide +kernel
theorem dX5_sideOfSlur_51 : decode cX5_sideOfSlur 51 = .ok (.istore 5, 2) := by decide +kernel
theorem dX5_sideOfSlur_53 : decode cX5_sideOfSlur 53 = .ok (.iload_n 3, 1) := by decide +kernel
theorem dX5_sideOfSlur_54 : decode cX5_sideOfSlur 54 = .ok (.ifCond .ne 18, 3) := by decide +kernel
theorem dX5_sideOfSlur_57 : decode cX5_sideOfSlur 57 = .ok (.iload 5, 2) := by decide +kernel
theorem dX5_sideOfSlur_59 : decode cX5_sideOfSlur 59 = .ok (.ifCond .eq 17, 3) := by decide +kernel
theorem dX5_sideOfSlur_62 : decode cX5_sideOfSlur 62 = .ok (.aload_n 0, 1) := by decide +kernel
theorem dX5_sideOfSlur_63 : decode cX5_sideOfSlur 63 = .ok (.getfield 22, 3) := by decide +kernel
theorem dX5_sideOfSlur_66 : decode cX5_sideOfSlur 66 = .ok (.iload 4, 2) := by decide +kernel
theorem dX5_sideOfSlur_68 : decode cX5_sideOfSlur 68 = .ok (.baload, 1) := by decide +kernel
theorem dX5_sideOfSlur_69 : decode cX5_sideOfSlur 69 = .ok (.ifCond .ne 7, 3) := by decide +kernel
theorem dX5_sideOfSlur_72 : decode cX5_sideOfSlur 72 = .ok (.iconst 1, 1) := by decide +kernel
theorem dX5_sideOfSlur_73 : decode cX5_sideOfSlur 73 = .ok (.goto 4, 3) := by decide +kernel
theorem dX5_sideOfSlur_76 : decode cX5_sideOfSlur 76 = .ok (.iconst 0, 1) := by decide +kernel
theorem dX5_sideOfSlur_77 : decode cX5_sideOfSlur 77 = .ok (.istore_n 3, 1) := by decide +kernel
theorem dX5_sideOfSlur_78 : decode cX5_sideOfSlur 78 = .ok (.iinc 4 1, 3) := by decide +kernel
theorem dX5_sideOfSlur_81 : decode cX5_sideOfSlur 81 = .ok (.goto (-76), 3) := by decide +kernel
theorem dX5_sideOfSlur_84 : decode cX5_sideOfSlur 84 = .ok (.iload_n 3, 1) := by decide +kernel
theorem dX5_sideOfSlur_85 : decode cX5_sideOfSlur 85 = .ok (.ifCond .eq 7, 3) := by decide +kernel
theorem dX5_sideOfSlur_88 : decode cX5_sideOfSlur 88 = .ok (.iconst 1, 1) := by decide +kernel
theorem dX5_sideOfSlur_89 : decode cX5_sideOfSlur 89 = .ok (.goto 4, 3) := by decide +kernel
theorem dX5_sideOfSlur_92 : decode cX5_sideOfSlur 92 = .ok (.iconst (-1), 1) := by decide +kernel
theorem dX5_sideOfSlur_93 : decode cX5_sideOfSlur 93 = .ok (.ireturn, 1) := by decide +kernel
theorem dX5_layOut_0 : decode cX5_layOut 0 = .ok (.aload_n 0, 1) := by decide +kernel
theorem dX5_layOut_1 : decode cX5_layOut 1 = .ok (.getfield 56, 3) := by decide +kernel
theorem dX5_layOut_4 : decode cX5_layOut 4 = .ok (.iload_n 1, 1) := by decide +kernel
theorem dX5_layOut_5 : decode cX5_layOut 5 = .ok (.iaload, 1) := by decide +kernel
theorem dX5_layOut_6 : decode cX5_layOut 6 = .ok (.istore_n 2, 1) := by decide +kernel
theorem dX5_layOut_7 : decode cX5_layOut 7 = .ok (.aload_n 0, 1) := by decide +kernel
theorem dX5_layOut_8 : decode cX5_layOut 8 = .ok (.getfield 59, 3) := by decide +kernel
theorem dX5_layOut_11 : decode cX5_layOut 11 = .ok (.iload_n 1, 1) := by decide +kernel
theorem dX5_layOut_12 : decode cX5_layOut 12 = .ok (.iaload, 1) := by decide +kernel
theorem dX5_layOut_13 : decode cX5_layOut 13 = .ok (.istore_n 3, 1) := by decide +kernel
theorem dX5_layOut_14 : decode cX5_layOut 14 = .ok (.aload_n 0, 1) := by decide +kernel
theorem dX5_layOut_15 : decode cX5_layOut 15 = .ok (.getfield 65, 3) := by decide +kernel
theorem dX5_layOut_18 : decode cX5_layOut 18 = .ok (.iload_n 1, 1) := by decide +kernel
theorem dX5_layOut_19 : decode cX5_layOut 19 = .ok (.aload_n 0, 1) := by decide +kernel
theorem dX5_layOut_20 : decode cX5_layOut 20 = .ok (.getfield 62, 3) := by decide +kernel
theorem dX5_layOut_23 : decode cX5_layOut 23 = .ok (.iload_n 1, 1) := by decide +kernel
theorem dX5_layOut_24 : decode cX5_layOut 24 = .ok (.baload, 1) := by decide +kernel
theorem dX5_layOut_25 : decode cX5_layOut 25 = .ok (.ifCond .eq 11, 3) := by decide +kernel
theorem dX5_layOut_28 : decode cX5_layOut 28 = .ok (.aload_n 0, 1) := by decide +kernel
theorem dX5_layOut_29 : decode cX5_layOut 29 = .ok (.iload_n 2, 1) := by decide +kernel
theorem dX5_layOut_30 : decode cX5_layOut 30 = .ok (.invokevirtual 151, 3) := by decide +kernel
theorem dX5_layOut_33 : decode cX5_layOut 33 = .ok (.goto 9, 3) := by decide +kernel
theorem dX5_layOut_36 : decode cX5_layOut 36 = .ok (.aload_n 0, 1) := by decide +kernel
theorem dX5_layOut_37 : decode cX5_layOut 37 = .ok (.iload_n 2, 1) := by decide +kernel
theorem dX5_layOut_38 : decode cX5_layOut 38 = .ok (.iload_n 3, 1) := by decide +kernel
theorem dX5_layOut_39 : decode cX5_layOut 39 = .ok (.invokevirtual 155, 3) := by decide +kernel
theorem dX5_layOut_42 : decode cX5_layOut 42 = .ok (.iastore, 1) := by decide +kernel
theorem dX5_layOut_43 : decode cX5_layOut 43 = .ok (.aload_n 0, 1) := by decide +kernel
theorem dX5_layOut_44 : decode cX5_layOut 44 = .ok (.getfield 16, 3) := by decide +kernel
theorem dX5_layOut_47 : decode cX5_layOut 47 = .ok (.iload_n 2, 1) := by decide +kernel
theorem dX5_layOut_48 : decode cX5_layOut 48 = .ok (.iaload, 1) := by decide +kernel
theorem dX5_layOut_49 : decode cX5_layOut 49 = .ok (.aload_n 0, 1) := by decide +kernel
theorem dX5_layOut_50 : decode cX5_layOut 50 = .ok (.getfield 62, 3) := by decide +kernel
theorem dX5_layOut_53 : decode cX5_layOut 53 = .ok (.iload_n 1, 1) := by decide +kernel
theorem dX5_layOut_54 : decode cX5_layOut 54 = .ok (.baload, 1) := by decide +kernel
theorem dX5_layOut_55 : decode cX5_layOut 55 = .ok (.ifCond .eq 7, 3) := by decide +kernel
theorem dX5_layOut_58 : decode cX5_layOut 58 = .ok (.iconst 3, 1) := by decide +kernel
theorem dX5_layOut_59 : decode cX5_layOut 59 = .ok (.goto 4, 3) := by decide +kernel
theorem dX5_layOut_62 : decode cX5_layOut 62 = .ok (.iconst 0, 1) := by decide +kernel
theorem dX5_layOut_63 : decode cX5_layOut 63 = .ok (.iadd, 1) := by decide +kernel
theorem dX5_layOut_64 : decode cX5_layOut 64 = .ok (.istore 4, 2) := by decide +kernel
theorem dX5_layOut_66 : decode cX5_layOut 66 = .ok (.aload_n 0, 1) := by decide +kernel
theorem dX5_layOut_67 : decode cX5_layOut 67 = .ok (.getfield 16, 3) := by decide +kernel
theorem dX5_layOut_70 : decode cX5_layOut 70 = .ok (.iload_n 3, 1) := by decide +kernel
theorem dX5_layOut_71 : decode cX5_layOut 71 = .ok (.iaload, 1) := by decide +kernel
theorem dX5_layOut_72 : decode cX5_layOut 72 = .ok (.aload_n 0, 1) := by decide +kernel
theorem dX5_layOut_73 : decode cX5_layOut 73 = .ok (.getfield 62, 3) := by decide +kernel
theorem dX5_layOut_76 : decode cX5_layOut 76 = .ok (.iload_n 1, 1) := by decide +kernel
theorem dX5_layOut_77 : decode cX5_layOut 77 = .ok (.baload, 1) := by decide +kernel
theorem dX5_layOut_78 : decode cX5_layOut 78 = .ok (.ifCond .eq 7, 3) := by decide +kernel
theorem dX5_layOut_81 : decode cX5_layOut 81 = .ok (.iconst 3, 1) := by decide +kernel
theorem dX5_layOut_82 : decode cX5_layOut 82 = .ok (.goto 4, 3) := by decide +kernel
theorem dX5_layOut_85 : decode cX5_layOut 85 = .ok (.iconst 0, 1) := by decide +kernel
theorem dX5_layOut_86 : decode cX5_layOut 86 = .ok (.isub, 1) := by decide +kernel
theorem dX5_layOut_87 : decode cX5_layOut 87 = .ok (.istore 5, 2) := by decide +kernel
theorem dX5_layOut_89 : decode cX5_layOut 89 = .ok (.aload_n 0, 1) := by decide +kernel
theorem dX5_layOut_90 : decode cX5_layOut 90 = .ok (.getfield 19, 3) := by decide +kernel
theorem dX5_layOut_93 : decode cX5_layOut 93 = .ok (.iload_n 2, 1) := by decide +kernel
theorem dX5_layOut_94 : decode cX5_layOut 94 = .ok (.iaload, 1) := by decide +kernel
theorem dX5_layOut_95 : decode cX5_layOut 95 = .ok (.aload_n 0, 1) := by decide +kernel
theorem dX5_layOut_96 : decode cX5_layOut 96 = .ok (.iload_n 1, 1) := by decide +kernel
theorem dX5_layOut_97 : decode cX5_layOut 97 = .ok (.iload_n 2, 1) := by decide +kernel
theorem dX5_layOut_98 : decode cX5_layOut 98 = .ok (.invokevirtual 159, 3) := by decide +kernel
theorem dX5_layOut_101 : decode cX5_layOut 101 = .ok (.iadd, 1) := by decide +kernel
theorem dX5_layOut_102 : decode cX5_layOut 102 = .ok (.istore 6, 2) := by decide +kernel
theorem dX5_layOut_104 : decode cX5_layOut 104 = .ok (.aload_n 0, 1) := by decide +kernel
theorem dX5_layOut_105 : decode cX5_layOut 105 = .ok (.getfield 19, 3) := by decide +kernel
theorem dX5_layOut_108 : decode cX5_layOut 108 = .ok (.iload_n 3, 1) := by decide +kernel
theorem dX5_layOut_109 : decode cX5_layOut 109 = .ok (.iaload, 1) := by decide +kernel
theorem dX5_layOut_110 : decode cX5_layOut 110 = .ok (.aload_n 0, 1) := by decide +kernel
theorem dX5_layOut_111 : decode cX5_layOut 111 = .ok (.iload_n 1, 1) := by decide +kernel
theorem dX5_layOut_112 : decode cX5_layOut 112 = .ok (.iload_n 3, 1) := by decide +kernel
theorem dX5_layOut_113 : decode cX5_layOut 113 = .ok (.invokevirtual 159, 3) := by decide +kernel
theorem dX5_layOut_116 : decode cX5_layOut 116 = .ok (.iadd, 1) := by decide +kernel
theorem dX5_layOut_117 : decode cX5_layOut 117 = .ok (.istore 7, 2) := by decide +kernel
theorem dX5_layOut_119 : decode cX5_layOut 119 = .ok (.aload_n 0, 1) := by decide +kernel
theorem dX5_layOut_120 : decode cX5_layOut 120 = .ok (.getfield 68, 3) := by decide +kernel
theorem dX5_layOut_123 : decode cX5_layOut 123 = .ok (.iload_n 1, 1) := by decide +kernel
theorem dX5_layOut_124 : decode cX5_layOut 124 = .ok (.aload_n 0, 1) := by decide +kernel
theorem dX5_layOut_125 : decode cX5_layOut 125 = .ok (.getfield 13, 3) := by decide +kernel
theorem dX5_layOut_128 : decode cX5_layOut 128 = .ok (.iload_n 2, 1) := by decide +kernel
theorem dX5_layOut_129 : decode cX5_layOut 129 = .ok (.iaload, 1) := by decide +kernel
theorem dX5_layOut_130 : decode cX5_layOut 130 = .ok (.aload_n 0, 1) := by decide +kernel
theorem dX5_layOut_131 : decode cX5_layOut 131 = .ok (.getfield 13, 3) := by decide +kernel
theorem dX5_layOut_134 : decode cX5_layOut 134 = .ok (.iload_n 3, 1) := by decide +kernel
theorem dX5_layOut_135 : decode cX5_layOut 135 = .ok (.iaload, 1) := by decide +kernel
theorem dX5_layOut_136 : decode cX5_layOut 136 = .ok (.if_icmp .ne 7, 3) := by decide +kernel
theorem dX5_layOut_139 : decode cX5_layOut 139 = .ok (.iconst 1, 1) := by decide +kernel
theorem dX5_layOut_140 : decode cX5_layOut 140 = .ok (.goto 4, 3) := by decide +kernel
theorem dX5_layOut_143 : decode cX5_layOut 143 = .ok (.iconst 2, 1) := by decide +kernel
theorem dX5_layOut_144 : decode cX5_layOut 144 = .ok (.iastore, 1) := by decide +kernel
theorem dX5_layOut_145 : decode cX5_layOut 145 = .ok (.aload_n 0, 1) := by decide +kernel
theorem dX5_layOut_146 : decode cX5_layOut 146 = .ok (.getfield 68, 3) := by decide +kernel
theorem dX5_layOut_149 : decode cX5_layOut 149 = .ok (.iload_n 1, 1) := by decide +kernel
theorem dX5_layOut_150 : decode cX5_layOut 150 = .ok (.iaload, 1) := by decide +kernel
theorem dX5_layOut_151 : decode cX5_layOut 151 = .ok (.iconst 1, 1) := by decide +kernel
theorem dX5_layOut_152 : decode cX5_layOut 152 = .ok (.if_icmp .ne 27, 3) := by decide +kernel
theorem dX5_layOut_155 : decode cX5_layOut 155 = .ok (.aload_n 0, 1) := by decide +kernel
theorem dX5_layOut_156 : decode cX5_layOut 156 = .ok (.iconst 2, 1) := by decide +kernel
theorem dX5_layOut_157 : decode cX5_layOut 157 = .ok (.iload_n 1, 1) := by decide +kernel
theorem dX5_layOut_158 : decode cX5_layOut 158 = .ok (.imul, 1) := by decide +kernel
theorem dX5_layOut_159 : decode cX5_layOut 159 = .ok (.aload_n 0, 1) := by decide +kernel
theorem dX5_layOut_160 : decode cX5_layOut 160 = .ok (.getfield 13, 3) := by decide +kernel
theorem dX5_layOut_163 : decode cX5_layOut 163 = .ok (.iload_n 2, 1) := by decide +kernel
theorem dX5_layOut_164 : decode cX5_layOut 164 = .ok (.iaload, 1) := by decide +kernel
theorem dX5_layOut_165 : decode cX5_layOut 165 = .ok (.iload 4, 2) := by decide +kernel
theorem dX5_layOut_167 : decode cX5_layOut 167 = .ok (.iload 6, 2) := by decide +kernel
theorem dX5_layOut_169 : decode cX5_layOut 169 = .ok (.iload 5, 2) := by decide +kernel
theorem dX5_layOut_171 : decode cX5_layOut 171 = .ok (.iload 7, 2) := by decide +kernel
theorem dX5_layOut_173 : decode cX5_layOut 173 = .ok (.invokevirtual 162, 3) := by decide +kernel
theorem dX5_layOut_176 : decode cX5_layOut 176 = .ok (.goto 55, 3) := by decide +kernel
theorem dX5_layOut_179 : decode cX5_layOut 179 = .ok (.aload_n 0, 1) := by decide +kernel
theorem dX5_layOut_180 : decode cX5_layOut 180 = .ok (.iconst 2, 1) := by decide +kernel
theorem dX5_layOut_181 : decode cX5_layOut 181 = .ok (.iload_n 1, 1) := by decide +kernel
theorem dX5_layOut_182 : decode cX5_layOut 182 = .ok (.imul, 1) := by decide +kernel
theorem dX5_layOut_183 : decode cX5_layOut 183 = .ok (.aload_n 0, 1) := by decide +kernel
theorem dX5_layOut_184 : decode cX5_layOut 184 = .ok (.getfield 13, 3) := by decide +kernel
theorem dX5_layOut_187 : decode cX5_layOut 187 = .ok (.iload_n 2, 1) := by decide +kernel
theorem dX5_layOut_188 : decode cX5_layOut 188 = .ok (.iaload, 1) := by decide +kernel
theorem dX5_layOut_189 : decode cX5_layOut 189 = .ok (.iload 4, 2) := by decide +kernel
theorem dX5_layOut_191 : decode cX5_layOut 191 = .ok (.iload 6, 2) := by decide +kernel
theorem dX5_layOut_193 : decode cX5_layOut 193 = .ok (.aload_n 0, 1) := by decide +kernel
theorem dX5_layOut_194 : decode cX5_layOut 194 = .ok (.getfield 7, 3) := by decide +kernel
theorem dX5_layOut_197 : decode cX5_layOut 197 = .ok (.aload_n 0, 1) := by decide +kernel
theorem dX5_layOut_198 : decode cX5_layOut 198 = .ok (.getfield 13, 3) := by decide +kernel
theorem dX5_layOut_201 : decode cX5_layOut 201 = .ok (.iload_n 2, 1) := by decide +kernel
theorem dX5_layOut_202 : decode cX5_layOut 202 = .ok (.iaload, 1) := by decide +kernel
theorem dX5_layOut_203 : decode cX5_layOut 203 = .ok (.iaload, 1) := by decide +kernel
theorem dX5_layOut_204 : decode cX5_layOut 204 = .ok (.iload 6, 2) := by decide +kernel
theorem dX5_layOut_206 : decode cX5_layOut 206 = .ok (.invokevirtual 162, 3) := by decide +kernel
theorem dX5_layOut_209 : decode cX5_layOut 209 = .ok (.aload_n 0, 1) := by decide +kernel
theorem dX5_layOut_210 : decode cX5_layOut 210 = .ok (.iconst 2, 1) := by decide +kernel
theorem dX5_layOut_211 : decode cX5_layOut 211 = .ok (.iload_n 1, 1) := by decide +kernel
theorem dX5_layOut_212 : decode cX5_layOut 212 = .ok (.imul, 1) := by decide +kernel
theorem dX5_layOut_213 : decode cX5_layOut 213 = .ok (.iconst 1, 1) := by decide +kernel
theorem dX5_layOut_214 : decode cX5_layOut 214 = .ok (.iadd, 1) := by decide +kernel
theorem dX5_layOut_215 : decode cX5_layOut 215 = .ok (.aload_n 0, 1) := by decide +kernel
theorem dX5_layOut_216 : decode cX5_layOut 216 = .ok (.getfield 13, 3) := by decide +kernel
theorem dX5_layOut_219 : decode cX5_layOut 219 = .ok (.iload_n 3, 1) := by decide +kernel
theorem dX5_layOut_220 : decode cX5_layOut 220 = .ok (.iaload, 1) := by decide +kernel
theorem dX5_layOut_221 : decode cX5_layOut 221 = .ok (.iconst 0, 1) := by decide +kernel
theorem dX5_layOut_222 : decode cX5_layOut 222 = .ok (.iload 7, 2) := by decide +kernel
theorem dX5_layOut_224 : decode cX5_layOut 224 = .ok (.iload 5, 2) := by decide +kernel
theorem dX5_layOut_226 : decode cX5_layOut 226 = .ok (.iload 7, 2) := by decide +kernel
theorem dX5_layOut_228 : decode cX5_layOut 228 = .ok (.invokevirtual 162, 3) := by decide +kernel
theorem dX5_layOut_231 : decode cX5_layOut 231 = .ok (.return_, 1) := by decide +kernel
theorem dX5_endOf_0 : decode cX5_endOf 0 = .ok (.aload_n 0, 1) := by decide +kernel
theorem dX5_endOf_1 : decode cX5_endOf 1 = .ok (.getfield 62, 3) := by decide +kernel
theorem dX5_endOf_4 : decode cX5_endOf 4 = .ok (.iload_n 1, 1) := by decide +kernel
theorem dX5_endOf_5 : decode cX5_endOf 5 = .ok (.baload, 1) := by decide +kernel
theorem dX5_endOf_6 : decode cX5_endOf 6 = .ok (.ifCond .eq 12, 3) := by decide +kernel
theorem dX5_endOf_9 : decode cX5_endOf 9 = .ok (.iconst 2, 1) := by decide +kernel
theorem dX5_endOf_10 : decode cX5_endOf 10 = .ok (.aload_n 0, 1) := by decide +kernel
theorem dX5_endOf_11 : decode cX5_endOf 11 = .ok (.getfield 65, 3) := by decide +kernel
theorem dX5_endOf_14 : decode cX5_endOf 14 = .ok (.iload_n 1, 1) := by decide +kernel
theorem dX5_endOf_15 : decode cX5_endOf 15 = .ok (.iaload, 1) := by decide +kernel
theorem dX5_endOf_16 : decode cX5_endOf 16 = .ok (.imul, 1) := by decide +kernel
theorem dX5_endOf_17 : decode cX5_endOf 17 = .ok (.ireturn, 1) := by decide +kernel
theorem dX5_endOf_18 : decode cX5_endOf 18 = .ok (.iconst 4, 1) := by decide +kernel
theorem dX5_endOf_19 : decode cX5_endOf 19 = .ok (.aload_n 0, 1) := by decide +kernel
theorem dX5_endOf_20 : decode cX5_endOf 20 = .ok (.getfield 65, 3) := by decide +kernel
theorem dX5_endOf_23 : decode cX5_endOf 23 = .ok (.iload_n 1, 1) := by decide +kernel
theorem dX5_endOf_24 : decode cX5_endOf 24 = .ok (.iaload, 1) := by decide +kernel
theorem dX5_endOf_25 : decode cX5_endOf 25 = .ok (.imul, 1) := by decide +kernel
theorem dX5_endOf_26 : decode cX5_endOf 26 = .ok (.aload_n 0, 1) := by decide +kernel
theorem dX5_endOf_27 : decode cX5_endOf 27 = .ok (.getfield 22, 3) := by decide +kernel
theorem dX5_endOf_30 : decode cX5_endOf 30 = .ok (.iload_n 2, 1) := by decide +kernel
theorem dX5_endOf_31 : decode cX5_endOf 31 = .ok (.baload, 1) := by decide +kernel
theorem dX5_endOf_32 : decode cX5_endOf 32 = .ok (.aload_n 0, 1) := by decide +kernel
theorem dX5_endOf_33 : decode cX5_endOf 33 = .ok (.getfield 65, 3) := by decide +kernel
theorem dX5_endOf_36 : decode cX5_endOf 36 = .ok (.iload_n 1, 1) := by decide +kernel
theorem dX5_endOf_37 : decode cX5_endOf 37 = .ok (.iaload, 1) := by decide +kernel
theorem dX5_endOf_38 : decode cX5_endOf 38 = .ok (.iconst 1, 1) := by decide +kernel
theorem dX5_endOf_39 : decode cX5_endOf 39 = .ok (.if_icmp .ne 7, 3) := by decide +kernel
theorem dX5_endOf_42 : decode cX5_endOf 42 = .ok (.iconst 1, 1) := by decide +kernel
theorem dX5_endOf_43 : decode cX5_endOf 43 = .ok (.goto 4, 3) := by decide +kernel
theorem dX5_endOf_46 : decode cX5_endOf 46 = .ok (.iconst 0, 1) := by decide +kernel
theorem dX5_endOf_47 : decode cX5_endOf 47 = .ok (.if_icmp .ne 15, 3) := by decide +kernel
theorem dX5_endOf_50 : decode cX5_endOf 50 = .ok (.bipush 24, 2) := by decide +kernel
theorem dX5_endOf_52 : decode cX5_endOf 52 = .ok (.aload_n 0, 1) := by decide +kernel
theorem dX5_endOf_53 : decode cX5_endOf 53 = .ok (.getfield 65, 3) := by decide +kernel
theorem dX5_endOf_56 : decode cX5_endOf 56 = .ok (.iload_n 1, 1) := by decide +kernel
theorem dX5_endOf_57 : decode cX5_endOf 57 = .ok (.iaload, 1) := by decide +kernel
theorem dX5_endOf_58 : decode cX5_endOf 58 = .ok (.imul, 1) := by decide +kernel
theorem dX5_endOf_59 : decode cX5_endOf 59 = .ok (.goto 4, 3) := by decide +kernel
theorem dX5_endOf_62 : decode cX5_endOf 62 = .ok (.iconst 0, 1) := by decide +kernel
theorem dX5_endOf_63 : decode cX5_endOf 63 = .ok (.iadd, 1) := by decide +kernel
theorem dX5_endOf_64 : decode cX5_endOf 64 = .ok (.ireturn, 1) := by decide +kernel
theorem dX5_lay_0 : decode cX5_lay 0 = .ok (.aload_n 0, 1) := by decide +kernel
theorem dX5_lay_1 : decode cX5_lay 1 = .ok (.getfield 71, 3) := by decide +kernel
theorem dX5_lay_4 : decode cX5_lay 4 = .ok (.iload_n 1, 1) := by decide +kernel
theorem dX5_lay_5 : decode cX5_lay 5 = .ok (.iload_n 2, 1) := by decide +kernel
theorem dX5_lay_6 : decode cX5_lay 6 = .ok (.iastore, 1) := by decide +kernel
theorem dX5_lay_7 : decode cX5_lay 7 = .ok (.aload_n 0, 1) := by decide +kernel
theorem dX5_lay_8 : decode cX5_lay 8 = .ok (.getfield 74, 3) := by decide +kernel
theorem dX5_lay_11 : decode cX5_lay 11 = .ok (.iload_n 1, 1) := by decide +kernel
theorem dX5_lay_12 : decode cX5_lay 12 = .ok (.iload_n 3, 1) := by decide +kernel
theorem dX5_lay_13 : decode cX5_lay 13 = .ok (.iastore, 1) := by decide +kernel
theorem dX5_lay_14 : decode cX5_lay 14 = .ok (.aload_n 0, 1) := by decide +kernel
theorem dX5_lay_15 : decode cX5_lay 15 = .ok (.getfield 77, 3) := by decide +kernel
theorem dX5_lay_18 : decode cX5_lay 18 = .ok (.iload_n 1, 1) := by decide +kernel
theorem dX5_lay_19 : decode cX5_lay 19 = .ok (.iload 4, 2) := by decide +kernel
theorem dX5_lay_21 : decode cX5_lay 21 = .ok (.iastore, 1) := by decide +kernel
theorem dX5_lay_22 : decode cX5_lay 22 = .ok (.aload_n 0, 1) := by decide +kernel
theorem dX5_lay_23 : decode cX5_lay 23 = .ok (.getfield 80, 3) := by decide +kernel
theorem dX5_lay_26 : decode cX5_lay 26 = .ok (.iload_n 1, 1) := by decide +kernel
theorem dX5_lay_27 : decode cX5_lay 27 = .ok (.iload 5, 2) := by decide +kernel
theorem dX5_lay_29 : decode cX5_lay 29 = .ok (.iastore, 1) := by decide +kernel
theorem dX5_lay_30 : decode cX5_lay 30 = .ok (.aload_n 0, 1) := by decide +kernel
theorem dX5_lay_31 : decode cX5_lay 31 = .ok (.getfield 83, 3) := by decide +kernel
theorem dX5_lay_34 : decode cX5_lay 34 = .ok (.iload_n 1, 1) := by decide +kernel
theorem dX5_lay_35 : decode cX5_lay 35 = .ok (.iload 6, 2) := by decide +kernel
theorem dX5_lay_37 : decode cX5_lay 37 = .ok (.iastore, 1) := by decide +kernel
theorem dX5_lay_38 : decode cX5_lay 38 = .ok (.return_, 1) := by decide +kernel
theorem dX5_arch_0 : decode cX5_arch 0 = .ok (.iconst 4, 1) := by decide +kernel
theorem dX5_arch_1 : decode cX5_arch 1 = .ok (.aload_n 0, 1) := by decide +kernel
theorem dX5_arch_2 : decode cX5_arch 2 = .ok (.getfield 80, 3) := by decide +kernel
theorem dX5_arch_5 : decode cX5_arch 5 = .ok (.iload_n 1, 1) := by decide +kernel
theorem dX5_arch_6 : decode cX5_arch 6 = .ok (.iaload, 1) := by decide +kernel
theorem dX5_arch_7 : decode cX5_arch 7 = .ok (.aload_n 0, 1) := by decide +kernel
theorem dX5_arch_8 : decode cX5_arch 8 = .ok (.getfield 74, 3) := by decide +kernel
theorem dX5_arch_11 : decode cX5_arch 11 = .ok (.iload_n 1, 1) := by decide +kernel
theorem dX5_arch_12 : decode cX5_arch 12 = .ok (.iaload, 1) := by decide +kernel
theorem dX5_arch_13 : decode cX5_arch 13 = .ok (.isub, 1) := by decide +kernel
theorem dX5_arch_14 : decode cX5_arch 14 = .ok (.bipush 8, 2) := by decide +kernel
theorem dX5_arch_16 : decode cX5_arch 16 = .ok (.idiv, 1) := by decide +kernel
theorem dX5_arch_17 : decode cX5_arch 17 = .ok (.iadd, 1) := by decide +kernel
theorem dX5_arch_18 : decode cX5_arch 18 = .ok (.istore_n 2, 1) := by decide +kernel
theorem dX5_arch_19 : decode cX5_arch 19 = .ok (.iload_n 2, 1) := by decide +kernel
theorem dX5_arch_20 : decode cX5_arch 20 = .ok (.bipush 20, 2) := by decide +kernel
theorem dX5_arch_22 : decode cX5_arch 22 = .ok (.if_icmp .ge 7, 3) := by decide +kernel
theorem dX5_arch_25 : decode cX5_arch 25 = .ok (.iload_n 2, 1) := by decide +kernel
theorem dX5_arch_26 : decode cX5_arch 26 = .ok (.goto 5, 3) := by decide +kernel
theorem dX5_arch_29 : decode cX5_arch 29 = .ok (.bipush 20, 2) := by decide +kernel
theorem dX5_arch_31 : decode cX5_arch 31 = .ok (.ireturn, 1) := by decide +kernel
theorem dX5_candidates_0 : decode cX5_candidates 0 = .ok (.aload_n 0, 1) := by decide +kernel
theorem dX5_candidates_1 : decode cX5_candidates 1 = .ok (.getfield 62, 3) := by decide +kernel
theorem dX5_candidates_4 : decode cX5_candidates 4 = .ok (.iload_n 1, 1) := by decide +kernel
theorem dX5_candidates_5 : decode cX5_candidates 5 = .ok (.iconst 2, 1) := by decide +kernel
theorem dX5_candidates_6 : decode cX5_candidates 6 = .ok (.idiv, 1) := by decide +kernel
theorem dX5_candidates_7 : decode cX5_candidates 7 = .ok (.baload, 1) := by decide +kernel
theorem dX5_candidates_8 : decode cX5_candidates 8 = .ok (.ifCond .eq 8, 3) := by decide +kernel
theorem dX5_candidates_11 : decode cX5_candidates 11 = .ok (.bipush 8, 2) := by decide +kernel
theorem dX5_candidates_13 : decode cX5_candidates 13 = .ok (.goto 5, 3) := by decide +kernel
theorem dX5_candidates_16 : decode cX5_candidates 16 = .ok (.bipush 24, 2) := by decide +kernel
theorem dX5_candidates_18 : decode cX5_candidates 18 = .ok (.ireturn, 1) := by decide +kernel
theorem dX5_badnessOf_0 : decode cX5_badnessOf 0 = .ok (.iload_n 0, 1) := by decide +kernel
theorem dX5_badnessOf_1 : decode cX5_badnessOf 1 = .ok (.bipush 8, 2) := by decide +kernel
theorem dX5_badnessOf_3 : decode cX5_badnessOf 3 = .ok (.irem, 1) := by decide +kernel
theorem dX5_badnessOf_4 : decode cX5_badnessOf 4 = .ok (.istore_n 1, 1) := by decide +kernel
theorem dX5_badnessOf_5 : decode cX5_badnessOf 5 = .ok (.iload_n 0, 1) := by decide +kernel
theorem dX5_badnessOf_6 : decode cX5_badnessOf 6 = .ok (.bipush 8, 2) := by decide +kernel
theorem dX5_badnessOf_8 : decode cX5_badnessOf 8 = .ok (.idiv, 1) := by decide +kernel
theorem dX5_badnessOf_9 : decode cX5_badnessOf 9 = .ok (.istore_n 2, 1) := by decide +kernel
theorem dX5_badnessOf_10 : decode cX5_badnessOf 10 = .ok (.bipush 16, 2) := by decide +kernel
theorem dX5_badnessOf_12 : decode cX5_badnessOf 12 = .ok (.iload_n 1, 1) := by decide +kernel
theorem dX5_badnessOf_13 : decode cX5_badnessOf 13 = .ok (.imul, 1) := by decide +kernel
theorem dX5_badnessOf_14 : decode cX5_badnessOf 14 = .ok (.iload_n 1, 1) := by decide +kernel
theorem dX5_badnessOf_15 : decode cX5_badnessOf 15 = .ok (.imul, 1) := by decide +kernel
theorem dX5_badnessOf_16 : decode cX5_badnessOf 16 = .ok (.bipush 48, 2) := by decide +kernel
theorem dX5_badnessOf_18 : decode cX5_badnessOf 18 = .ok (.iload_n 2, 1) := by decide +kernel
theorem dX5_badnessOf_19 : decode cX5_badnessOf 19 = .ok (.imul, 1) := by decide +kernel
theorem dX5_badnessOf_20 : decode cX5_badnessOf 20 = .ok (.iload_n 2, 1) := by decide +kernel
theorem dX5_badnessOf_21 : decode cX5_badnessOf 21 = .ok (.imul, 1) := by decide +kernel
theorem dX5_badnessOf_22 : decode cX5_badnessOf 22 = .ok (.iadd, 1) := by decide +kernel
theorem dX5_badnessOf_23 : decode cX5_badnessOf 23 = .ok (.ireturn, 1) := by decide +kernel
theorem dX5_px_0 : decode cX5_px 0 = .ok (.aload_n 0, 1) := by decide +kernel
theorem dX5_px_1 : decode cX5_px 1 = .ok (.getfield 80, 3) := by decide +kernel
theorem dX5_px_4 : decode cX5_px 4 = .ok (.iload_n 1, 1) := by decide +kernel
theorem dX5_px_5 : decode cX5_px 5 = .ok (.iaload, 1) := by decide +kernel
theorem dX5_px_6 : decode cX5_px 6 = .ok (.aload_n 0, 1) := by decide +kernel
theorem dX5_px_7 : decode cX5_px 7 = .ok (.getfield 74, 3) := by decide +kernel
theorem dX5_px_10 : decode cX5_px 10 = .ok (.iload_n 1, 1) := by decide +kernel
theorem dX5_px_11 : decode cX5_px 11 = .ok (.iaload, 1) := by decide +kernel
theorem dX5_px_12 : decode cX5_px 12 = .ok (.isub, 1) := by decide +kernel
theorem dX5_px_13 : decode cX5_px 13 = .ok (.iconst 4, 1) := by decide +kernel
theorem dX5_px_14 : decode cX5_px 14 = .ok (.idiv, 1) := by decide +kernel
theorem dX5_px_15 : decode cX5_px 15 = .ok (.istore_n 3, 1) := by decide +kernel
theorem dX5_px_16 : decode cX5_px 16 = .ok (.iload_n 2, 1) := by decide +kernel
theorem dX5_px_17 : decode cX5_px 17 = .ok (.ifCond .ne 12, 3) := by decide +kernel
theorem dX5_px_20 : decode cX5_px 20 = .ok (.aload_n 0, 1) := by decide +kernel
theorem dX5_px_21 : decode cX5_px 21 = .ok (.getfield 74, 3) := by decide +kernel
theorem dX5_px_24 : decode cX5_px 24 = .ok (.iload_n 1, 1) := by decide +kernel
theorem dX5_px_25 : decode cX5_px 25 = .ok (.iaload, 1) := by decide +kernel
theorem dX5_px_26 : decode cX5_px 26 = .ok (.goto 41, 3) := by decide +kernel
theorem dX5_px_29 : decode cX5_px 29 = .ok (.iload_n 2, 1) := by decide +kernel
theorem dX5_px_30 : decode cX5_px 30 = .ok (.iconst 1, 1) := by decide +kernel
theorem dX5_px_31 : decode cX5_px 31 = .ok (.if_icmp .ne 14, 3) := by decide +kernel
theorem dX5_px_34 : decode cX5_px 34 = .ok (.aload_n 0, 1) := by decide +kernel
theorem dX5_px_35 : decode cX5_px 35 = .ok (.getfield 74, 3) := by decide +kernel
theorem dX5_px_38 : decode cX5_px 38 = .ok (.iload_n 1, 1) := by decide +kernel
theorem dX5_px_39 : decode cX5_px 39 = .ok (.iaload, 1) := by decide +kernel
theorem dX5_px_40 : decode cX5_px 40 = .ok (.iload_n 3, 1) := by decide +kernel
theorem dX5_px_41 : decode cX5_px 41 = .ok (.iadd, 1) := by decide +kernel
theorem dX5_px_42 : decode cX5_px 42 = .ok (.goto 25, 3) := by decide +kernel
theorem dX5_px_45 : decode cX5_px 45 = .ok (.iload_n 2, 1) := by decide +kernel
theorem dX5_px_46 : decode cX5_px 46 = .ok (.iconst 2, 1) := by decide +kernel
theorem dX5_px_47 : decode cX5_px 47 = .ok (.if_icmp .ne 14, 3) := by decide +kernel
theorem dX5_px_50 : decode cX5_px 50 = .ok (.aload_n 0, 1) := by decide +kernel
theorem dX5_px_51 : decode cX5_px 51 = .ok (.getfield 80, 3) := by decide +kernel
theorem dX5_px_54 : decode cX5_px 54 = .ok (.iload_n 1, 1) := by decide +kernel
theorem dX5_px_55 : decode cX5_px 55 = .ok (.iaload, 1) := by decide +kernel
theorem dX5_px_56 : decode cX5_px 56 = .ok (.iload_n 3, 1) := by decide +kernel
theorem dX5_px_57 : decode cX5_px 57 = .ok (.isub, 1) := by decide +kernel
theorem dX5_px_58 : decode cX5_px 58 = .ok (.goto 9, 3) := by decide +kernel
theorem dX5_px_61 : decode cX5_px 61 = .ok (.aload_n 0, 1) := by decide +kernel
theorem dX5_px_62 : decode cX5_px 62 = .ok (.getfield 80, 3) := by decide +kernel
theorem dX5_px_65 : decode cX5_px 65 = .ok (.iload_n 1, 1) := by decide +kernel
theorem dX5_px_66 : decode cX5_px 66 = .ok (.iaload, 1) := by decide +kernel
theorem dX5_px_67 : decode cX5_px 67 = .ok (.ireturn, 1) := by decide +kernel
theorem dX5_py_0 : decode cX5_py 0 = .ok (.aload_n 0, 1) := by decide +kernel
theorem dX5_py_1 : decode cX5_py 1 = .ok (.getfield 65, 3) := by decide +kernel
theorem dX5_py_4 : decode cX5_py 4 = .ok (.iload_n 1, 1) := by decide +kernel
theorem dX5_py_5 : decode cX5_py 5 = .ok (.iconst 2, 1) := by decide +kernel
theorem dX5_py_6 : decode cX5_py 6 = .ok (.idiv, 1) := by decide +kernel
theorem dX5_py_7 : decode cX5_py 7 = .ok (.iaload, 1) := by decide +kernel
theorem dX5_py_8 : decode cX5_py 8 = .ok (.istore 4, 2) := by decide +kernel
theorem dX5_py_10 : decode cX5_py 10 = .ok (.iconst 4, 1) := by decide +kernel
theorem dX5_py_11 : decode cX5_py 11 = .ok (.iload_n 2, 1) := by decide +kernel
theorem dX5_py_12 : decode cX5_py 12 = .ok (.bipush 8, 2) := by decide +kernel
theorem dX5_py_14 : decode cX5_py 14 = .ok (.idiv, 1) := by decide +kernel
theorem dX5_py_15 : decode cX5_py 15 = .ok (.imul, 1) := by decide +kernel
theorem dX5_py_16 : decode cX5_py 16 = .ok (.iload 4, 2) := by decide +kernel
theorem dX5_py_18 : decode cX5_py 18 = .ok (.imul, 1) := by decide +kernel
theorem dX5_py_19 : decode cX5_py 19 = .ok (.istore 5, 2) := by decide +kernel
theorem dX5_py_21 : decode cX5_py 21 = .ok (.aload_n 0, 1) := by decide +kernel
theorem dX5_py_22 : decode cX5_py 22 = .ok (.iload_n 1, 1) := by decide +kernel
theorem dX5_py_23 : decode cX5_py 23 = .ok (.invokevirtual 166, 3) := by decide +kernel
theorem dX5_py_26 : decode cX5_py 26 = .ok (.iconst 4, 1) := by decide +kernel
theorem dX5_py_27 : decode cX5_py 27 = .ok (.iload_n 2, 1) := by decide +kernel
theorem dX5_py_28 : decode cX5_py 28 = .ok (.bipush 8, 2) := by decide +kernel
theorem dX5_py_30 : decode cX5_py 30 = .ok (.irem, 1) := by decide +kernel
theorem dX5_py_31 : decode cX5_py 31 = .ok (.imul, 1) := by decide +kernel
theorem dX5_py_32 : decode cX5_py 32 = .ok (.iadd, 1) := by decide +kernel
theorem dX5_py_33 : decode cX5_py 33 = .ok (.iload 4, 2) := by decide +kernel
theorem dX5_py_35 : decode cX5_py 35 = .ok (.imul, 1) := by decide +kernel
theorem dX5_py_36 : decode cX5_py 36 = .ok (.istore 6, 2) := by decide +kernel
theorem dX5_py_38 : decode cX5_py 38 = .ok (.aload_n 0, 1) := by decide +kernel
theorem dX5_py_39 : decode cX5_py 39 = .ok (.getfield 77, 3) := by decide +kernel
theorem dX5_py_42 : decode cX5_py 42 = .ok (.iload_n 1, 1) := by decide +kernel
theorem dX5_py_43 : decode cX5_py 43 = .ok (.iaload, 1) := by decide +kernel
theorem dX5_py_44 : decode cX5_py 44 = .ok (.iload 5, 2) := by decide +kernel
theorem dX5_py_46 : decode cX5_py 46 = .ok (.iadd, 1) := by decide +kernel
theorem dX5_py_47 : decode cX5_py 47 = .ok (.istore 7, 2) := by decide +kernel
theorem dX5_py_49 : decode cX5_py 49 = .ok (.aload_n 0, 1) := by decide +kernel
theorem dX5_py_50 : decode cX5_py 50 = .ok (.getfield 83, 3) := by decide +kernel
theorem dX5_py_53 : decode cX5_py 53 = .ok (.iload_n 1, 1) := by decide +kernel
theorem dX5_py_54 : decode cX5_py 54 = .ok (.iaload, 1) := by decide +kernel
theorem dX5_py_55 : decode cX5_py 55 = .ok (.iload 5, 2) := by decide +kernel
theorem dX5_py_57 : decode cX5_py 57 = .ok (.iadd, 1) := by decide +kernel
theorem dX5_py_58 : decode cX5_py 58 = .ok (.istore 8, 2) := by decide +kernel
theorem dX5_py_60 : decode cX5_py 60 = .ok (.iload_n 3, 1) := by decide +kernel
theorem dX5_py_61 : decode cX5_py 61 = .ok (.ifCond .ne 8, 3) := by decide +kernel
theorem dX5_py_64 : decode cX5_py 64 = .ok (.iload 7, 2) := by decide +kernel
theorem dX5_py_66 : decode cX5_py 66 = .ok (.goto 47, 3) := by decide +kernel
theorem dX5_py_69 : decode cX5_py 69 = .ok (.iload_n 3, 1) := by decide +kernel
theorem dX5_py_70 : decode cX5_py 70 = .ok (.iconst 1, 1) := by decide +kernel
theorem dX5_py_71 : decode cX5_py 71 = .ok (.if_icmp .ne 19, 3) := by decide +kernel
theorem dX5_py_74 : decode cX5_py 74 = .ok (.iload 7, 2) := by decide +kernel
theorem dX5_py_76 : decode cX5_py 76 = .ok (.iload 8, 2) := by decide +kernel
theorem dX5_py_78 : decode cX5_py 78 = .ok (.iload 7, 2) := by decide +kernel
theorem dX5_py_80 : decode cX5_py 80 = .ok (.isub, 1) := by decide +kernel
theorem dX5_py_81 : decode cX5_py 81 = .ok (.iconst 4, 1) := by decide +kernel
theorem dX5_py_82 : decode cX5_py 82 = .ok (.idiv, 1) := by decide +kernel
theorem dX5_py_83 : decode cX5_py 83 = .ok (.iadd, 1) := by decide +kernel
theorem dX5_py_84 : decode cX5_py 84 = .ok (.iload 6, 2) := by decide +kernel
theorem dX5_py_86 : decode cX5_py 86 = .ok (.iadd, 1) := by decide +kernel
theorem dX5_py_87 : decode cX5_py 87 = .ok (.goto 26, 3) := by decide +kernel
theorem dX5_py_90 : decode cX5_py 90 = .ok (.iload_n 3, 1) := by decide +kernel
theorem dX5_py_91 : decode cX5_py 91 = .ok (.iconst 2, 1) := by decide +kernel
theorem dX5_py_92 : decode cX5_py 92 = .ok (.if_icmp .ne 19, 3) := by decide +kernel
theorem dX5_py_95 : decode cX5_py 95 = .ok (.iload 8, 2) := by decide +kernel
theorem dX5_py_97 : decode cX5_py 97 = .ok (.iload 7, 2) := by decide +kernel
theorem dX5_py_99 : decode cX5_py 99 = .ok (.iload 8, 2) := by decide +kernel
theorem dX5_py_101 : decode cX5_py 101 = .ok (.isub, 1) := by decide +kernel
theorem dX5_py_102 : decode cX5_py 102 = .ok (.iconst 4, 1) := by decide +kernel
theorem dX5_py_103 : decode cX5_py 103 = .ok (.idiv, 1) := by decide +kernel
theorem dX5_py_104 : decode cX5_py 104 = .ok (.iadd, 1) := by decide +kernel
theorem dX5_py_105 : decode cX5_py 105 = .ok (.iload 6, 2) := by decide +kernel
theorem dX5_py_107 : decode cX5_py 107 = .ok (.iadd, 1) := by decide +kernel
theorem dX5_py_108 : decode cX5_py 108 = .ok (.goto 5, 3) := by decide +kernel
theorem dX5_py_111 : decode cX5_py 111 = .ok (.iload 8, 2) := by decide +kernel
theorem dX5_py_113 : decode cX5_py 113 = .ok (.ireturn, 1) := by decide +kernel
theorem dX5_turn_0 : decode cX5_turn 0 = .ok (.lload 4, 2) := by decide +kernel
theorem dX5_turn_2 : decode cX5_turn 2 = .ok (.lload_n 0, 1) := by decide +kernel
theorem dX5_turn_3 : decode cX5_turn 3 = .ok (.lsub, 1) := by decide +kernel
theorem dX5_turn_4 : decode cX5_turn 4 = .ok (.lload 10, 2) := by decide +kernel
theorem dX5_turn_6 : decode cX5_turn 6 = .ok (.lload_n 2, 1) := by decide +kernel
theorem dX5_turn_7 : decode cX5_turn 7 = .ok (.lsub, 1) := by decide +kernel
theorem dX5_turn_8 : decode cX5_turn 8 = .ok (.lmul, 1) := by decide +kernel
theorem dX5_turn_9 : decode cX5_turn 9 = .ok (.lload 6, 2) := by decide +kernel
theorem dX5_turn_11 : decode cX5_turn 11 = .ok (.lload_n 2, 1) := by decide +kernel
theorem dX5_turn_12 : decode cX5_turn 12 = .ok (.lsub, 1) := by decide +kernel
theorem dX5_turn_13 : decode cX5_turn 13 = .ok (.lload 8, 2) := by decide +kernel
theorem dX5_turn_15 : decode cX5_turn 15 = .ok (.lload_n 0, 1) := by decide +kernel
theorem dX5_turn_16 : decode cX5_turn 16 = .ok (.lsub, 1) := by decide +kernel
theorem dX5_turn_17 : decode cX5_turn 17 = .ok (.lmul, 1) := by decide +kernel
theorem dX5_turn_18 : decode cX5_turn 18 = .ok (.lsub, 1) := by decide +kernel
theorem dX5_turn_19 : decode cX5_turn 19 = .ok (.lstore 12, 2) := by decide +kernel
theorem dX5_turn_21 : decode cX5_turn 21 = .ok (.lload 12, 2) := by decide +kernel
theorem dX5_turn_23 : decode cX5_turn 23 = .ok (.lconst 0, 1) := by decide +kernel
theorem dX5_turn_24 : decode cX5_turn 24 = .ok (.lcmp, 1) := by decide +kernel
theorem dX5_turn_25 : decode cX5_turn 25 = .ok (.ifCond .le 7, 3) := by decide +kernel
theorem dX5_turn_28 : decode cX5_turn 28 = .ok (.lconst 1, 1) := by decide +kernel
theorem dX5_turn_29 : decode cX5_turn 29 = .ok (.goto 17, 3) := by decide +kernel
theorem dX5_turn_32 : decode cX5_turn 32 = .ok (.lload 12, 2) := by decide +kernel
theorem dX5_turn_34 : decode cX5_turn 34 = .ok (.lconst 0, 1) := by decide +kernel
theorem dX5_turn_35 : decode cX5_turn 35 = .ok (.lcmp, 1) := by decide +kernel
theorem dX5_turn_36 : decode cX5_turn 36 = .ok (.ifCond .ge 9, 3) := by decide +kernel
theorem dX5_turn_39 : decode cX5_turn 39 = .ok (.ldc2_w 169, 3) := by decide +kernel
theorem dX5_turn_42 : decode cX5_turn 42 = .ok (.goto 4, 3) := by decide +kernel
theorem dX5_turn_45 : decode cX5_turn 45 = .ok (.lconst 0, 1) := by decide +kernel
theorem dX5_turn_46 : decode cX5_turn 46 = .ok (.lreturn, 1) := by decide +kernel
theorem dX5_between_0 : decode cX5_between 0 = .ok (.lload_n 0, 1) := by decide +kernel
theorem dX5_between_1 : decode cX5_between 1 = .ok (.lload_n 2, 1) := by decide +kernel
theorem dX5_between_2 : decode cX5_between 2 = .ok (.lcmp, 1) := by decide +kernel
theorem dX5_between_3 : decode cX5_between 3 = .ok (.ifCond .gt 10, 3) := by decide +kernel
theorem dX5_between_6 : decode cX5_between 6 = .ok (.lload_n 2, 1) := by decide +kernel
theorem dX5_between_7 : decode cX5_between 7 = .ok (.lload 4, 2) := by decide +kernel
theorem dX5_between_9 : decode cX5_between 9 = .ok (.lcmp, 1) := by decide +kernel
theorem dX5_between_10 : decode cX5_between 10 = .ok (.ifCond .le 16, 3) := by decide +kernel
theorem dX5_between_13 : decode cX5_between 13 = .ok (.lload 4, 2) := by decide +kernel
theorem dX5_between_15 : decode cX5_between 15 = .ok (.lload_n 2, 1) := by decide +kernel
theorem dX5_between_16 : decode cX5_between 16 = .ok (.lcmp, 1) := by decide +kernel
theorem dX5_between_17 : decode cX5_between 17 = .ok (.ifCond .gt 13, 3) := by decide +kernel
theorem dX5_between_20 : decode cX5_between 20 = .ok (.lload_n 2, 1) := by decide +kernel
theorem dX5_between_21 : decode cX5_between 21 = .ok (.lload_n 0, 1) := by decide +kernel
theorem dX5_between_22 : decode cX5_between 22 = .ok (.lcmp, 1) := by decide +kernel
theorem dX5_between_23 : decode cX5_between 23 = .ok (.ifCond .gt 7, 3) := by decide +kernel
theorem dX5_between_26 : decode cX5_between 26 = .ok (.iconst 1, 1) := by decide +kernel
theorem dX5_between_27 : decode cX5_between 27 = .ok (.goto 4, 3) := by decide +kernel
theorem dX5_between_30 : decode cX5_between 30 = .ok (.iconst 0, 1) := by decide +kernel
theorem dX5_between_31 : decode cX5_between 31 = .ok (.ireturn, 1) := by decide +kernel
theorem dX5_isOn_0 : decode cX5_isOn 0 = .ok (.lload_n 0, 1) := by decide +kernel
theorem dX5_isOn_1 : decode cX5_isOn 1 = .ok (.lload 8, 2) := by decide +kernel
theorem dX5_isOn_3 : decode cX5_isOn 3 = .ok (.lload 4, 2) := by decide +kernel
theorem dX5_isOn_5 : decode cX5_isOn 5 = .ok (.invokestatic 171, 3) := by decide +kernel
theorem dX5_isOn_8 : decode cX5_isOn 8 = .ok (.ifCond .eq 18, 3) := by decide +kernel
theorem dX5_isOn_11 : decode cX5_isOn 11 = .ok (.lload_n 2, 1) := by decide +kernel
theorem dX5_isOn_12 : decode cX5_isOn 12 = .ok (.lload 10, 2) := by decide +kernel
theorem dX5_isOn_14 : decode cX5_isOn 14 = .ok (.lload 6, 2) := by decide +kernel
theorem dX5_isOn_16 : decode cX5_isOn 16 = .ok (.invokestatic 171, 3) := by decide +kernel
theorem dX5_isOn_19 : decode cX5_isOn 19 = .ok (.ifCond .eq 7, 3) := by decide +kernel
theorem dX5_isOn_22 : decode cX5_isOn 22 = .ok (.iconst 1, 1) := by decide +kernel
theorem dX5_isOn_23 : decode cX5_isOn 23 = .ok (.goto 4, 3) := by decide +kernel
theorem dX5_isOn_26 : decode cX5_isOn 26 = .ok (.iconst 0, 1) := by decide +kernel
theorem dX5_isOn_27 : decode cX5_isOn 27 = .ok (.ireturn, 1) := by decide +kernel
theorem dX5_cross_0 : decode cX5_cross 0 = .ok (.aload_n 0, 1) := by decide +kernel
theorem dX5_cross_1 : decode cX5_cross 1 = .ok (.getfield 92, 3) := by decide +kernel
theorem dX5_cross_4 : decode cX5_cross 4 = .ok (.iload_n 1, 1) := by decide +kernel
theorem dX5_cross_5 : decode cX5_cross 5 = .ok (.laload, 1) := by decide +kernel
theorem dX5_cross_6 : decode cX5_cross 6 = .ok (.aload_n 0, 1) := by decide +kernel
theorem dX5_cross_7 : decode cX5_cross 7 = .ok (.getfield 96, 3) := by decide +kernel
theorem dX5_cross_10 : decode cX5_cross 10 = .ok (.iload_n 1, 1) := by decide +kernel
theorem dX5_cross_11 : decode cX5_cross 11 = .ok (.laload, 1) := by decide +kernel
theorem dX5_cross_12 : decode cX5_cross 12 = .ok (.aload_n 0, 1) := by decide +kernel
theorem dX5_cross_13 : decode cX5_cross 13 = .ok (.getfield 92, 3) := by decide +kernel
theorem dX5_cross_16 : decode cX5_cross 16 = .ok (.iload_n 2, 1) := by decide +kernel
theorem dX5_cross_17 : decode cX5_cross 17 = .ok (.laload, 1) := by decide +kernel
theorem dX5_cross_18 : decode cX5_cross 18 = .ok (.aload_n 0, 1) := by decide +kernel
theorem dX5_cross_19 : decode cX5_cross 19 = .ok (.getfield 96, 3) := by decide +kernel
theorem dX5_cross_22 : decode cX5_cross 22 = .ok (.iload_n 2, 1) := by decide +kernel
theorem dX5_cross_23 : decode cX5_cross 23 = .ok (.laload, 1) := by decide +kernel
theorem dX5_cross_24 : decode cX5_cross 24 = .ok (.aload_n 0, 1) := by decide +kernel
theorem dX5_cross_25 : decode cX5_cross 25 = .ok (.getfield 99, 3) := by decide +kernel
theorem dX5_cross_28 : decode cX5_cross 28 = .ok (.iload_n 3, 1) := by decide +kernel
theorem dX5_cross_29 : decode cX5_cross 29 = .ok (.laload, 1) := by decide +kernel
theorem dX5_cross_30 : decode cX5_cross 30 = .ok (.aload_n 0, 1) := by decide +kernel
theorem dX5_cross_31 : decode cX5_cross 31 = .ok (.getfield 102, 3) := by decide +kernel
theorem dX5_cross_34 : decode cX5_cross 34 = .ok (.iload_n 3, 1) := by decide +kernel
theorem dX5_cross_35 : decode cX5_cross 35 = .ok (.laload, 1) := by decide +kernel
theorem dX5_cross_36 : decode cX5_cross 36 = .ok (.invokestatic 175, 3) := by decide +kernel
theorem dX5_cross_39 : decode cX5_cross 39 = .ok (.lstore 5, 2) := by decide +kernel
theorem dX5_cross_41 : decode cX5_cross 41 = .ok (.aload_n 0, 1) := by decide +kernel
theorem dX5_cross_42 : decode cX5_cross 42 = .ok (.getfield 92, 3) := by decide +kernel
theorem dX5_cross_45 : decode cX5_cross 45 = .ok (.iload_n 1, 1) := by decide +kernel
theorem dX5_cross_46 : decode cX5_cross 46 = .ok (.laload, 1) := by decide +kernel
theorem dX5_cross_47 : decode cX5_cross 47 = .ok (.aload_n 0, 1) := by decide +kernel
theorem dX5_cross_48 : decode cX5_cross 48 = .ok (.getfield 96, 3) := by decide +kernel
theorem dX5_cross_51 : decode cX5_cross 51 = .ok (.iload_n 1, 1) := by decide +kernel
theorem dX5_cross_52 : decode cX5_cross 52 = .ok (.laload, 1) := by decide +kernel
theorem dX5_cross_53 : decode cX5_cross 53 = .ok (.aload_n 0, 1) := by decide +kernel
theorem dX5_cross_54 : decode cX5_cross 54 = .ok (.getfield 92, 3) := by decide +kernel
theorem dX5_cross_57 : decode cX5_cross 57 = .ok (.iload_n 2, 1) := by decide +kernel
theorem dX5_cross_58 : decode cX5_cross 58 = .ok (.laload, 1) := by decide +kernel
theorem dX5_cross_59 : decode cX5_cross 59 = .ok (.aload_n 0, 1) := by decide +kernel
theorem dX5_cross_60 : decode cX5_cross 60 = .ok (.getfield 96, 3) := by decide +kernel
theorem dX5_cross_63 : decode cX5_cross 63 = .ok (.iload_n 2, 1) := by decide +kernel
theorem dX5_cross_64 : decode cX5_cross 64 = .ok (.laload, 1) := by decide +kernel
theorem dX5_cross_65 : decode cX5_cross 65 = .ok (.aload_n 0, 1) := by decide +kernel
theorem dX5_cross_66 : decode cX5_cross 66 = .ok (.getfield 99, 3) := by decide +kernel
theorem dX5_cross_69 : decode cX5_cross 69 = .ok (.iload 4, 2) := by decide +kernel
theorem dX5_cross_71 : decode cX5_cross 71 = .ok (.laload, 1) := by decide +kernel
theorem dX5_cross_72 : decode cX5_cross 72 = .ok (.aload_n 0, 1) := by decide +kernel
theorem dX5_cross_73 : decode cX5_cross 73 = .ok (.getfield 102, 3) := by decide +kernel
theorem dX5_cross_76 : decode cX5_cross 76 = .ok (.iload 4, 2) := by decide +kernel
theorem dX5_cross_78 : decode cX5_cross 78 = .ok (.laload, 1) := by decide +kernel
theorem dX5_cross_79 : decode cX5_cross 79 = .ok (.invokestatic 175, 3) := by decide +kernel
theorem dX5_cross_82 : decode cX5_cross 82 = .ok (.lstore 7, 2) := by decide +kernel
theorem dX5_cross_84 : decode cX5_cross 84 = .ok (.aload_n 0, 1) := by decide +kernel
theorem dX5_cross_85 : decode cX5_cross 85 = .ok (.getfield 99, 3) := by decide +kernel
theorem dX5_cross_88 : decode cX5_cross 88 = .ok (.iload_n 3, 1) := by decide +kernel
theorem dX5_cross_89 : decode cX5_cross 89 = .ok (.laload, 1) := by decide +kernel
theorem dX5_cross_90 : decode cX5_cross 90 = .ok (.aload_n 0, 1) := by decide +kernel
theorem dX5_cross_91 : decode cX5_cross 91 = .ok (.getfield 102, 3) := by decide +kernel
theorem dX5_cross_94 : decode cX5_cross 94 = .ok (.iload_n 3, 1) := by decide +kernel
theorem dX5_cross_95 : decode cX5_cross 95 = .ok (.laload, 1) := by decide +kernel
theorem dX5_cross_96 : decode cX5_cross 96 = .ok (.aload_n 0, 1) := by decide +kernel
theorem dX5_cross_97 : decode cX5_cross 97 = .ok (.getfield 99, 3) := by decide +kernel
theorem dX5_cross_100 : decode cX5_cross 100 = .ok (.iload 4, 2) := by decide +kernel
theorem dX5_cross_102 : decode cX5_cross 102 = .ok (.laload, 1) := by decide +kernel
theorem dX5_cross_103 : decode cX5_cross 103 = .ok (.aload_n 0, 1) := by decide +kernel
theorem dX5_cross_104 : decode cX5_cross 104 = .ok (.getfield 102, 3) := by decide +kernel
theorem dX5_cross_107 : decode cX5_cross 107 = .ok (.iload 4, 2) := by decide +kernel
theorem dX5_cross_109 : decode cX5_cross 109 = .ok (.laload, 1) := by decide +kernel
theorem dX5_cross_110 : decode cX5_cross 110 = .ok (.aload_n 0, 1) := by decide +kernel
theorem dX5_cross_111 : decode cX5_cross 111 = .ok (.getfield 92, 3) := by decide +kernel
theorem dX5_cross_114 : decode cX5_cross 114 = .ok (.iload_n 1, 1) := by decide +kernel
theorem dX5_cross_115 : decode cX5_cross 115 = .ok (.laload, 1) := by decide +kernel
theorem dX5_cross_116 : decode cX5_cross 116 = .ok (.aload_n 0, 1) := by decide +kernel
theorem dX5_cross_117 : decode cX5_cross 117 = .ok (.getfield 96, 3) := by decide +kernel
theorem dX5_cross_120 : decode cX5_cross 120 = .ok (.iload_n 1, 1) := by decide +kernel
theorem dX5_cross_121 : decode cX5_cross 121 = .ok (.laload, 1) := by decide +kernel
theorem dX5_cross_122 : decode cX5_cross 122 = .ok (.invokestatic 175, 3) := by decide +kernel
theorem dX5_cross_125 : decode cX5_cross 125 = .ok (.lstore 9, 2) := by decide +kernel
theorem dX5_cross_127 : decode cX5_cross 127 = .ok (.aload_n 0, 1) := by decide +kernel
theorem dX5_cross_128 : decode cX5_cross 128 = .ok (.getfield 99, 3) := by decide +kernel
theorem dX5_cross_131 : decode cX5_cross 131 = .ok (.iload_n 3, 1) := by decide +kernel
theorem dX5_cross_132 : decode cX5_cross 132 = .ok (.laload, 1) := by decide +kernel
theorem dX5_cross_133 : decode cX5_cross 133 = .ok (.aload_n 0, 1) := by decide +kernel
theorem dX5_cross_134 : decode cX5_cross 134 = .ok (.getfield 102, 3) := by decide +kernel
theorem dX5_cross_137 : decode cX5_cross 137 = .ok (.iload_n 3, 1) := by decide +kernel
theorem dX5_cross_138 : decode cX5_cross 138 = .ok (.laload, 1) := by decide +kernel
theorem dX5_cross_139 : decode cX5_cross 139 = .ok (.aload_n 0, 1) := by decide +kernel
theorem dX5_cross_140 : decode cX5_cross 140 = .ok (.getfield 99, 3) := by decide +kernel
theorem dX5_cross_143 : decode cX5_cross 143 = .ok (.iload 4, 2) := by decide +kernel
theorem dX5_cross_145 : decode cX5_cross 145 = .ok (.laload, 1) := by decide +kernel
theorem dX5_cross_146 : decode cX5_cross 146 = .ok (.aload_n 0, 1) := by decide +kernel
theorem dX5_cross_147 : decode cX5_cross 147 = .ok (.getfield 102, 3) := by decide +kernel
theorem dX5_cross_150 : decode cX5_cross 150 = .ok (.iload 4, 2) := by decide +kernel
theorem dX5_cross_152 : decode cX5_cross 152 = .ok (.laload, 1) := by decide +kernel
theorem dX5_cross_153 : decode cX5_cross 153 = .ok (.aload_n 0, 1) := by decide +kernel
theorem dX5_cross_154 : decode cX5_cross 154 = .ok (.getfield 92, 3) := by decide +kernel
theorem dX5_cross_157 : decode cX5_cross 157 = .ok (.iload_n 2, 1) := by decide +kernel
theorem dX5_cross_158 : decode cX5_cross 158 = .ok (.laload, 1) := by decide +kernel
theorem dX5_cross_159 : decode cX5_cross 159 = .ok (.aload_n 0, 1) := by decide +kernel
theorem dX5_cross_160 : decode cX5_cross 160 = .ok (.getfield 96, 3) := by decide +kernel
theorem dX5_cross_163 : decode cX5_cross 163 = .ok (.iload_n 2, 1) := by decide +kernel
theorem dX5_cross_164 : decode cX5_cross 164 = .ok (.laload, 1) := by decide +kernel
theorem dX5_cross_165 : decode cX5_cross 165 = .ok (.invokestatic 175, 3) := by decide +kernel
theorem dX5_cross_168 : decode cX5_cross 168 = .ok (.lstore 11, 2) := by decide +kernel
theorem dX5_cross_170 : decode cX5_cross 170 = .ok (.lload 5, 2) := by decide +kernel
theorem dX5_cross_172 : decode cX5_cross 172 = .ok (.lload 7, 2) := by decide +kernel
theorem dX5_cross_174 : decode cX5_cross 174 = .ok (.lmul, 1) := by decide +kernel
theorem dX5_cross_175 : decode cX5_cross 175 = .ok (.lconst 0, 1) := by decide +kernel
theorem dX5_cross_176 : decode cX5_cross 176 = .ok (.lcmp, 1) := by decide +kernel
theorem dX5_cross_177 : decode cX5_cross 177 = .ok (.ifCond .ge 15, 3) := by decide +kernel
theorem dX5_cross_180 : decode cX5_cross 180 = .ok (.lload 9, 2) := by decide +kernel
theorem dX5_cross_182 : decode cX5_cross 182 = .ok (.lload 11, 2) := by decide +kernel
theorem dX5_cross_184 : decode cX5_cross 184 = .ok (.lmul, 1) := by decide +kernel
theorem dX5_cross_185 : decode cX5_cross 185 = .ok (.lconst 0, 1) := by decide +kernel
theorem dX5_cross_186 : decode cX5_cross 186 = .ok (.lcmp, 1) := by decide +kernel
theorem dX5_cross_187 : decode cX5_cross 187 = .ok (.ifCond .ge 5, 3) := by decide +kernel
theorem dX5_cross_190 : decode cX5_cross 190 = .ok (.iconst 1, 1) := by decide +kernel
theorem dX5_cross_191 : decode cX5_cross 191 = .ok (.ireturn, 1) := by decide +kernel
theorem dX5_cross_192 : decode cX5_cross 192 = .ok (.lload 5, 2) := by decide +kernel
theorem dX5_cross_194 : decode cX5_cross 194 = .ok (.lconst 0, 1) := by decide +kernel
theorem dX5_cross_195 : decode cX5_cross 195 = .ok (.lcmp, 1) := by decide +kernel
theorem dX5_cross_196 : decode cX5_cross 196 = .ok (.ifCond .ne 45, 3) := by decide +kernel
theorem dX5_cross_199 : decode cX5_cross 199 = .ok (.aload_n 0, 1) := by decide +kernel
theorem dX5_cross_200 : decode cX5_cross 200 = .ok (.getfield 92, 3) := by decide +kernel
theorem dX5_cross_203 : decode cX5_cross 203 = .ok (.iload_n 1, 1) := by decide +kernel
theorem dX5_cross_204 : decode cX5_cross 204 = .ok (.laload, 1) := by decide +kernel
theorem dX5_cross_205 : decode cX5_cross 205 = .ok (.aload_n 0, 1) := by decide +kernel
theorem dX5_cross_206 : decode cX5_cross 206 = .ok (.getfield 96, 3) := by decide +kernel
theorem dX5_cross_209 : decode cX5_cross 209 = .ok (.iload_n 1, 1) := by decide +kernel
theorem dX5_cross_210 : decode cX5_cross 210 = .ok (.laload, 1) := by decide +kernel
theorem dX5_cross_211 : decode cX5_cross 211 = .ok (.aload_n 0, 1) := by decide +kernel
theorem dX5_cross_212 : decode cX5_cross 212 = .ok (.getfield 92, 3) := by decide +kernel
theorem dX5_cross_215 : decode cX5_cross 215 = .ok (.iload_n 2, 1) := by decide +kernel
theorem dX5_cross_216 : decode cX5_cross 216 = .ok (.laload, 1) := by decide +kernel
theorem dX5_cross_217 : decode cX5_cross 217 = .ok (.aload_n 0, 1) := by decide +kernel
theorem dX5_cross_218 : decode cX5_cross 218 = .ok (.getfield 96, 3) := by decide +kernel
theorem dX5_cross_221 : decode cX5_cross 221 = .ok (.iload_n 2, 1) := by decide +kernel
theorem dX5_cross_222 : decode cX5_cross 222 = .ok (.laload, 1) := by decide +kernel
theorem dX5_cross_223 : decode cX5_cross 223 = .ok (.aload_n 0, 1) := by decide +kernel
theorem dX5_cross_224 : decode cX5_cross 224 = .ok (.getfield 99, 3) := by decide +kernel
theorem dX5_cross_227 : decode cX5_cross 227 = .ok (.iload_n 3, 1) := by decide +kernel
theorem dX5_cross_228 : decode cX5_cross 228 = .ok (.laload, 1) := by decide +kernel
theorem dX5_cross_229 : decode cX5_cross 229 = .ok (.aload_n 0, 1) := by decide +kernel
theorem dX5_cross_230 : decode cX5_cross 230 = .ok (.getfield 102, 3) := by decide +kernel
theorem dX5_cross_233 : decode cX5_cross 233 = .ok (.iload_n 3, 1) := by decide +kernel
theorem dX5_cross_234 : decode cX5_cross 234 = .ok (.laload, 1) := by decide +kernel
theorem dX5_cross_235 : decode cX5_cross 235 = .ok (.invokestatic 179, 3) := by decide +kernel
theorem dX5_cross_238 : decode cX5_cross 238 = .ok (.ifCond .ne 156, 3) := by decide +kernel
theorem dX5_cross_241 : decode cX5_cross 241 = .ok (.lload 7, 2) := by decide +kernel
theorem dX5_cross_243 : decode cX5_cross 243 = .ok (.lconst 0, 1) := by decide +kernel
theorem dX5_cross_244 : decode cX5_cross 244 = .ok (.lcmp, 1) := by decide +kernel
theorem dX5_cross_245 : decode cX5_cross 245 = .ok (.ifCond .ne 47, 3) := by decide +kernel
theorem dX5_cross_248 : decode cX5_cross 248 = .ok (.aload_n 0, 1) := by decide +kernel
theorem dX5_cross_249 : decode cX5_cross 249 = .ok (.getfield 92, 3) := by decide +kernel
theorem dX5_cross_252 : decode cX5_cross 252 = .ok (.iload_n 1, 1) := by decide +kernel
theorem dX5_cross_253 : decode cX5_cross 253 = .ok (.laload, 1) := by decide +kernel
theorem dX5_cross_254 : decode cX5_cross 254 = .ok (.aload_n 0, 1) := by decide +kernel
theorem dX5_cross_255 : decode cX5_cross 255 = .ok (.getfield 96, 3) := by decide +kernel
theorem dX5_cross_258 : decode cX5_cross 258 = .ok (.iload_n 1, 1) := by decide +kernel
theorem dX5_cross_259 : decode cX5_cross 259 = .ok (.laload, 1) := by decide +kernel
theorem dX5_cross_260 : decode cX5_cross 260 = .ok (.aload_n 0, 1) := by decide +kernel
theorem dX5_cross_261 : decode cX5_cross 261 = .ok (.getfield 92, 3) := by decide +kernel
theorem dX5_cross_264 : decode cX5_cross 264 = .ok (.iload_n 2, 1) := by decide +kernel
theorem dX5_cross_265 : decode cX5_cross 265 = .ok (.laload, 1) := by decide +kernel
theorem dX5_cross_266 : decode cX5_cross 266 = .ok (.aload_n 0, 1) := by decide +kernel
theorem dX5_cross_267 : decode cX5_cross 267 = .ok (.getfield 96, 3) := by decide +kernel
theorem dX5_cross_270 : decode cX5_cross 270 = .ok (.iload_n 2, 1) := by decide +kernel
theorem dX5_cross_271 : decode cX5_cross 271 = .ok (.laload, 1) := by decide +kernel
theorem dX5_cross_272 : decode cX5_cross 272 = .ok (.aload_n 0, 1) := by decide +kernel
theorem dX5_cross_273 : decode cX5_cross 273 = .ok (.getfield 99, 3) := by decide +kernel
theorem dX5_cross_276 : decode cX5_cross 276 = .ok (.iload 4, 2) := by decide +kernel
theorem dX5_cross_278 : decode cX5_cross 278 = .ok (.laload, 1) := by decide +kernel
theorem dX5_cross_279 : decode cX5_cross 279 = .ok (.aload_n 0, 1) := by decide +kernel
theorem dX5_cross_280 : decode cX5_cross 280 = .ok (.getfield 102, 3) := by decide +kernel
theorem dX5_cross_283 : decode cX5_cross 283 = .ok (.iload 4, 2) := by decide +kernel
theorem dX5_cross_285 : decode cX5_cross 285 = .ok (.laload, 1) := by decide +kernel
theorem dX5_cross_286 : decode cX5_cross 286 = .ok (.invokestatic 179, 3) := by decide +kernel
theorem dX5_cross_289 : decode cX5_cross 289 = .ok (.ifCond .ne 105, 3) := by decide +kernel
theorem dX5_cross_292 : decode cX5_cross 292 = .ok (.lload 9, 2) := by decide +kernel
theorem dX5_cross_294 : decode cX5_cross 294 = .ok (.lconst 0, 1) := by decide +kernel
theorem dX5_cross_295 : decode cX5_cross 295 = .ok (.lcmp, 1) := by decide +kernel
theorem dX5_cross_296 : decode cX5_cross 296 = .ok (.ifCond .ne 47, 3) := by decide +kernel
theorem dX5_cross_299 : decode cX5_cross 299 = .ok (.aload_n 0, 1) := by decide +kernel
theorem dX5_cross_300 : decode cX5_cross 300 = .ok (.getfield 99, 3) := by decide +kernel
theorem dX5_cross_303 : decode cX5_cross 303 = .ok (.iload_n 3, 1) := by decide +kernel
theorem dX5_cross_304 : decode cX5_cross 304 = .ok (.laload, 1) := by decide +kernel
theorem dX5_cross_305 : decode cX5_cross 305 = .ok (.aload_n 0, 1) := by decide +kernel
theorem dX5_cross_306 : decode cX5_cross 306 = .ok (.getfield 102, 3) := by decide +kernel
theorem dX5_cross_309 : decode cX5_cross 309 = .ok (.iload_n 3, 1) := by decide +kernel
theorem dX5_cross_310 : decode cX5_cross 310 = .ok (.laload, 1) := by decide +kernel
theorem dX5_cross_311 : decode cX5_cross 311 = .ok (.aload_n 0, 1) := by decide +kernel
theorem dX5_cross_312 : decode cX5_cross 312 = .ok (.getfield 99, 3) := by decide +kernel
theorem dX5_cross_315 : decode cX5_cross 315 = .ok (.iload 4, 2) := by decide +kernel
theorem dX5_cross_317 : decode cX5_cross 317 = .ok (.laload, 1) := by decide +kernel
theorem dX5_cross_318 : decode cX5_cross 318 = .ok (.aload_n 0, 1) := by decide +kernel
theorem dX5_cross_319 : decode cX5_cross 319 = .ok (.getfield 102, 3) := by decide +kernel
theorem dX5_cross_322 : decode cX5_cross 322 = .ok (.iload 4, 2) := by decide +kernel
theorem dX5_cross_324 : decode cX5_cross 324 = .ok (.laload, 1) := by decide +kernel
theorem dX5_cross_325 : decode cX5_cross 325 = .ok (.aload_n 0, 1) := by decide +kernel
theorem dX5_cross_326 : decode cX5_cross 326 = .ok (.getfield 92, 3) := by decide +kernel
theorem dX5_cross_329 : decode cX5_cross 329 = .ok (.iload_n 1, 1) := by decide +kernel
theorem dX5_cross_330 : decode cX5_cross 330 = .ok (.laload, 1) := by decide +kernel
theorem dX5_cross_331 : decode cX5_cross 331 = .ok (.aload_n 0, 1) := by decide +kernel
theorem dX5_cross_332 : decode cX5_cross 332 = .ok (.getfield 96, 3) := by decide +kernel
theorem dX5_cross_335 : decode cX5_cross 335 = .ok (.iload_n 1, 1) := by decide +kernel
theorem dX5_cross_336 : decode cX5_cross 336 = .ok (.laload, 1) := by decide +kernel
theorem dX5_cross_337 : decode cX5_cross 337 = .ok (.invokestatic 179, 3) := by decide +kernel
theorem dX5_cross_340 : decode cX5_cross 340 = .ok (.ifCond .ne 54, 3) := by decide +kernel
theorem dX5_cross_343 : decode cX5_cross 343 = .ok (.lload 11, 2) := by decide +kernel
theorem dX5_cross_345 : decode cX5_cross 345 = .ok (.lconst 0, 1) := by decide +kernel
theorem dX5_cross_346 : decode cX5_cross 346 = .ok (.lcmp, 1) := by decide +kernel
theorem dX5_cross_347 : decode cX5_cross 347 = .ok (.ifCond .ne 51, 3) := by decide +kernel
theorem dX5_cross_350 : decode cX5_cross 350 = .ok (.aload_n 0, 1) := by decide +kernel
theorem dX5_cross_351 : decode cX5_cross 351 = .ok (.getfield 99, 3) := by decide +kernel
theorem dX5_cross_354 : decode cX5_cross 354 = .ok (.iload_n 3, 1) := by decide +kernel
theorem dX5_cross_355 : decode cX5_cross 355 = .ok (.laload, 1) := by decide +kernel
theorem dX5_cross_356 : decode cX5_cross 356 = .ok (.aload_n 0, 1) := by decide +kernel
theorem dX5_cross_357 : decode cX5_cross 357 = .ok (.getfield 102, 3) := by decide +kernel
theorem dX5_cross_360 : decode cX5_cross 360 = .ok (.iload_n 3, 1) := by decide +kernel
theorem dX5_cross_361 : decode cX5_cross 361 = .ok (.laload, 1) := by decide +kernel
theorem dX5_cross_362 : decode cX5_cross 362 = .ok (.aload_n 0, 1) := by decide +kernel
theorem dX5_cross_363 : decode cX5_cross 363 = .ok (.getfield 99, 3) := by decide +kernel
theorem dX5_cross_366 : decode cX5_cross 366 = .ok (.iload 4, 2) := by decide +kernel
theorem dX5_cross_368 : decode cX5_cross 368 = .ok (.laload, 1) := by decide +kernel
theorem dX5_cross_369 : decode cX5_cross 369 = .ok (.aload_n 0, 1) := by decide +kernel
theorem dX5_cross_370 : decode cX5_cross 370 = .ok (.getfield 102, 3) := by decide +kernel
theorem dX5_cross_373 : decode cX5_cross 373 = .ok (.iload 4, 2) := by decide +kernel
theorem dX5_cross_375 : decode cX5_cross 375 = .ok (.laload, 1) := by decide +kernel
theorem dX5_cross_376 : decode cX5_cross 376 = .ok (.aload_n 0, 1) := by decide +kernel
theorem dX5_cross_377 : decode cX5_cross 377 = .ok (.getfield 92, 3) := by decide +kernel
theorem dX5_cross_380 : decode cX5_cross 380 = .ok (.iload_n 2, 1) := by decide +kernel
theorem dX5_cross_381 : decode cX5_cross 381 = .ok (.laload, 1) := by decide +kernel
theorem dX5_cross_382 : decode cX5_cross 382 = .ok (.aload_n 0, 1) := by decide +kernel
theorem dX5_cross_383 : decode cX5_cross 383 = .ok (.getfield 96, 3) := by decide +kernel
theorem dX5_cross_386 : decode cX5_cross 386 = .ok (.iload_n 2, 1) := by decide +kernel
theorem dX5_cross_387 : decode cX5_cross 387 = .ok (.laload, 1) := by decide +kernel
theorem dX5_cross_388 : decode cX5_cross 388 = .ok (.invokestatic 179, 3) := by decide +kernel
theorem dX5_cross_391 : decode cX5_cross 391 = .ok (.ifCond .eq 7, 3) := by decide +kernel
theorem dX5_cross_394 : decode cX5_cross 394 = .ok (.iconst 1, 1) := by decide +kernel
theorem dX5_cross_395 : decode cX5_cross 395 = .ok (.goto 4, 3) := by decide +kernel
theorem dX5_cross_398 : decode cX5_cross 398 = .ok (.iconst 0, 1) := by decide +kernel
theorem dX5_cross_399 : decode cX5_cross 399 = .ok (.ireturn, 1) := by decide +kernel
theorem dX5_isWithin_0 : decode cX5_isWithin 0 = .ok (.iconst 0, 1) := by decide +kernel
theorem dX5_isWithin_1 : decode cX5_isWithin 1 = .ok (.istore 6, 2) := by decide +kernel
theorem dX5_isWithin_3 : decode cX5_isWithin 3 = .ok (.iconst 0, 1) := by decide +kernel
theorem dX5_isWithin_4 : decode cX5_isWithin 4 = .ok (.istore 7, 2) := by decide +kernel
theorem dX5_isWithin_6 : decode cX5_isWithin 6 = .ok (.iload 7, 2) := by decide +kernel
theorem dX5_isWithin_8 : decode cX5_isWithin 8 = .ok (.iconst 4, 1) := by decide +kernel
theorem dX5_isWithin_9 : decode cX5_isWithin 9 = .ok (.if_icmp .ge 217, 3) := by decide +kernel
theorem dX5_isWithin_12 : decode cX5_isWithin 12 = .ok (.iload 7, 2) := by decide +kernel
theorem dX5_isWithin_14 : decode cX5_isWithin 14 = .ok (.ifCond .ne 7, 3) := by decide +kernel
theorem dX5_isWithin_17 : decode cX5_isWithin 17 = .ok (.iconst 1, 1) := by decide +kernel
theorem dX5_isWithin_18 : decode cX5_isWithin 18 = .ok (.goto 4, 3) := by decide +kernel
theorem dX5_isWithin_21 : decode cX5_isWithin 21 = .ok (.iconst 0, 1) := by decide +kernel
theorem dX5_isWithin_22 : decode cX5_isWithin 22 = .ok (.istore 8, 2) := by decide +kernel
theorem dX5_isWithin_24 : decode cX5_isWithin 24 = .ok (.iload 7, 2) := by decide +kernel
theorem dX5_isWithin_26 : decode cX5_isWithin 26 = .ok (.iconst 2, 1) := by decide +kernel
theorem dX5_isWithin_27 : decode cX5_isWithin 27 = .ok (.if_icmp .ge 7, 3) := by decide +kernel
theorem dX5_isWithin_30 : decode cX5_isWithin 30 = .ok (.iconst 2, 1) := by decide +kernel
theorem dX5_isWithin_31 : decode cX5_isWithin 31 = .ok (.goto 4, 3) := by decide +kernel
theorem dX5_isWithin_34 : decode cX5_isWithin 34 = .ok (.iconst 1, 1) := by decide +kernel
theorem dX5_isWithin_35 : decode cX5_isWithin 35 = .ok (.istore 9, 2) := by decide +kernel
theorem dX5_isWithin_37 : decode cX5_isWithin 37 = .ok (.iload 7, 2) := by decide +kernel
theorem dX5_isWithin_39 : decode cX5_isWithin 39 = .ok (.iconst 3, 1) := by decide +kernel
theorem dX5_isWithin_40 : decode cX5_isWithin 40 = .ok (.if_icmp .ge 7, 3) := by decide +kernel
theorem dX5_isWithin_43 : decode cX5_isWithin 43 = .ok (.iconst 3, 1) := by decide +kernel
theorem dX5_isWithin_44 : decode cX5_isWithin 44 = .ok (.goto 4, 3) := by decide +kernel
theorem dX5_isWithin_47 : decode cX5_isWithin 47 = .ok (.iconst 2, 1) := by decide +kernel
theorem dX5_isWithin_48 : decode cX5_isWithin 48 = .ok (.istore 10, 2) := by decide +kernel
theorem dX5_isWithin_50 : decode cX5_isWithin 50 = .ok (.aload_n 0, 1) := by decide +kernel
theorem dX5_isWithin_51 : decode cX5_isWithin 51 = .ok (.iload 8, 2) := by decide +kernel
theorem dX5_isWithin_53 : decode cX5_isWithin 53 = .ok (.laload, 1) := by decide +kernel
theorem dX5_isWithin_54 : decode cX5_isWithin 54 = .ok (.aload_n 1, 1) := by decide +kernel
theorem dX5_isWithin_55 : decode cX5_isWithin 55 = .ok (.iload 8, 2) := by decide +kernel
theorem dX5_isWithin_57 : decode cX5_isWithin 57 = .ok (.laload, 1) := by decide +kernel
theorem dX5_isWithin_58 : decode cX5_isWithin 58 = .ok (.aload_n 0, 1) := by decide +kernel
theorem dX5_isWithin_59 : decode cX5_isWithin 59 = .ok (.iload 9, 2) := by decide +kernel
theorem dX5_isWithin_61 : decode cX5_isWithin 61 = .ok (.laload, 1) := by decide +kernel
theorem dX5_isWithin_62 : decode cX5_isWithin 62 = .ok (.aload_n 1, 1) := by decide +kernel
theorem dX5_isWithin_63 : decode cX5_isWithin 63 = .ok (.iload 9, 2) := by decide +kernel
theorem dX5_isWithin_65 : decode cX5_isWithin 65 = .ok (.laload, 1) := by decide +kernel
theorem dX5_isWithin_66 : decode cX5_isWithin 66 = .ok (.lload_n 2, 1) := by decide +kernel
theorem dX5_isWithin_67 : decode cX5_isWithin 67 = .ok (.lload 4, 2) := by decide +kernel
theorem dX5_isWithin_69 : decode cX5_isWithin 69 = .ok (.invokestatic 175, 3) := by decide +kernel
theorem dX5_isWithin_72 : decode cX5_isWithin 72 = .ok (.lstore 11, 2) := by decide +kernel
theorem dX5_isWithin_74 : decode cX5_isWithin 74 = .ok (.aload_n 0, 1) := by decide +kernel
theorem dX5_isWithin_75 : decode cX5_isWithin 75 = .ok (.iload 9, 2) := by decide +kernel
theorem dX5_isWithin_77 : decode cX5_isWithin 77 = .ok (.laload, 1) := by decide +kernel
theorem dX5_isWithin_78 : decode cX5_isWithin 78 = .ok (.aload_n 1, 1) := by decide +kernel
theorem dX5_isWithin_79 : decode cX5_isWithin 79 = .ok (.iload 9, 2) := by decide +kernel
theorem dX5_isWithin_81 : decode cX5_isWithin 81 = .ok (.laload, 1) := by decide +kernel
theorem dX5_isWithin_82 : decode cX5_isWithin 82 = .ok (.aload_n 0, 1) := by decide +kernel
theorem dX5_isWithin_83 : decode cX5_isWithin 83 = .ok (.iload 10, 2) := by decide +kernel
theorem dX5_isWithin_85 : decode cX5_isWithin 85 = .ok (.laload, 1) := by decide +kernel
theorem dX5_isWithin_86 : decode cX5_isWithin 86 = .ok (.aload_n 1, 1) := by decide +kernel
theorem dX5_isWithin_87 : decode cX5_isWithin 87 = .ok (.iload 10, 2) := by decide +kernel
theorem dX5_isWithin_89 : decode cX5_isWithin 89 = .ok (.laload, 1) := by decide +kernel
theorem dX5_isWithin_90 : decode cX5_isWithin 90 = .ok (.lload_n 2, 1) := by decide +kernel
theorem dX5_isWithin_91 : decode cX5_isWithin 91 = .ok (.lload 4, 2) := by decide +kernel
theorem dX5_isWithin_93 : decode cX5_isWithin 93 = .ok (.invokestatic 175, 3) := by decide +kernel
theorem dX5_isWithin_96 : decode cX5_isWithin 96 = .ok (.lstore 13, 2) := by decide +kernel
theorem dX5_isWithin_98 : decode cX5_isWithin 98 = .ok (.aload_n 0, 1) := by decide +kernel
theorem dX5_isWithin_99 : decode cX5_isWithin 99 = .ok (.iload 10, 2) := by decide +kernel
theorem dX5_isWithin_101 : decode cX5_isWithin 101 = .ok (.laload, 1) := by decide +kernel
theorem dX5_isWithin_102 : decode cX5_isWithin 102 = .ok (.aload_n 1, 1) := by decide +kernel
theorem dX5_isWithin_103 : decode cX5_isWithin 103 = .ok (.iload 10, 2) := by decide +kernel
theorem dX5_isWithin_105 : decode cX5_isWithin 105 = .ok (.laload, 1) := by decide +kernel
theorem dX5_isWithin_106 : decode cX5_isWithin 106 = .ok (.aload_n 0, 1) := by decide +kernel
theorem dX5_isWithin_107 : decode cX5_isWithin 107 = .ok (.iload 8, 2) := by decide +kernel
theorem dX5_isWithin_109 : decode cX5_isWithin 109 = .ok (.laload, 1) := by decide +kernel
theorem dX5_isWithin_110 : decode cX5_isWithin 110 = .ok (.aload_n 1, 1) := by decide +kernel
theorem dX5_isWithin_111 : decode cX5_isWithin 111 = .ok (.iload 8, 2) := by decide +kernel
theorem dX5_isWithin_113 : decode cX5_isWithin 113 = .ok (.laload, 1) := by decide +kernel
theorem dX5_isWithin_114 : decode cX5_isWithin 114 = .ok (.lload_n 2, 1) := by decide +kernel
theorem dX5_isWithin_115 : decode cX5_isWithin 115 = .ok (.lload 4, 2) := by decide +kernel
theorem dX5_isWithin_117 : decode cX5_isWithin 117 = .ok (.invokestatic 175, 3) := by decide +kernel
theorem dX5_isWithin_120 : decode cX5_isWithin 120 = .ok (.lstore 15, 2) := by decide +kernel
theorem dX5_isWithin_122 : decode cX5_isWithin 122 = .ok (.aload_n 0, 1) := by decide +kernel
theorem dX5_isWithin_123 : decode cX5_isWithin 123 = .ok (.iload 8, 2) := by decide +kernel
theorem dX5_isWithin_125 : decode cX5_isWithin 125 = .ok (.laload, 1) := by decide +kernel
theorem dX5_isWithin_126 : decode cX5_isWithin 126 = .ok (.aload_n 1, 1) := by decide +kernel
theorem dX5_isWithin_127 : decode cX5_isWithin 127 = .ok (.iload 8, 2) := by decide +kernel
theorem dX5_isWithin_129 : decode cX5_isWithin 129 = .ok (.laload, 1) := by decide +kernel
theorem dX5_isWithin_130 : decode cX5_isWithin 130 = .ok (.aload_n 0, 1) := by decide +kernel
theorem dX5_isWithin_131 : decode cX5_isWithin 131 = .ok (.iload 9, 2) := by decide +kernel
theorem dX5_isWithin_133 : decode cX5_isWithin 133 = .ok (.laload, 1) := by decide +kernel
theorem dX5_isWithin_134 : decode cX5_isWithin 134 = .ok (.aload_n 1, 1) := by decide +kernel
theorem dX5_isWithin_135 : decode cX5_isWithin 135 = .ok (.iload 9, 2) := by decide +kernel
theorem dX5_isWithin_137 : decode cX5_isWithin 137 = .ok (.laload, 1) := by decide +kernel
theorem dX5_isWithin_138 : decode cX5_isWithin 138 = .ok (.aload_n 0, 1) := by decide +kernel
theorem dX5_isWithin_139 : decode cX5_isWithin 139 = .ok (.iload 10, 2) := by decide +kernel
theorem dX5_isWithin_141 : decode cX5_isWithin 141 = .ok (.laload, 1) := by decide +kernel
theorem dX5_isWithin_142 : decode cX5_isWithin 142 = .ok (.aload_n 1, 1) := by decide +kernel
theorem dX5_isWithin_143 : decode cX5_isWithin 143 = .ok (.iload 10, 2) := by decide +kernel
theorem dX5_isWithin_145 : decode cX5_isWithin 145 = .ok (.laload, 1) := by decide +kernel
theorem dX5_isWithin_146 : decode cX5_isWithin 146 = .ok (.invokestatic 175, 3) := by decide +kernel
theorem dX5_isWithin_149 : decode cX5_isWithin 149 = .ok (.lconst 0, 1) := by decide +kernel
theorem dX5_isWithin_150 : decode cX5_isWithin 150 = .ok (.lcmp, 1) := by decide +kernel
theorem dX5_isWithin_151 : decode cX5_isWithin 151 = .ok (.ifCond .ne 7, 3) := by decide +kernel
theorem dX5_isWithin_154 : decode cX5_isWithin 154 = .ok (.iconst 1, 1) := by decide +kernel
theorem dX5_isWithin_155 : decode cX5_isWithin 155 = .ok (.goto 4, 3) := by decide +kernel
theorem dX5_isWithin_158 : decode cX5_isWithin 158 = .ok (.iconst 0, 1) := by decide +kernel
theorem dX5_isWithin_159 : decode cX5_isWithin 159 = .ok (.istore 17, 2) := by decide +kernel
theorem dX5_isWithin_161 : decode cX5_isWithin 161 = .ok (.iload 6, 2) := by decide +kernel
theorem dX5_isWithin_163 : decode cX5_isWithin 163 = .ok (.ifCond .ne 50, 3) := by decide +kernel
theorem dX5_isWithin_166 : decode cX5_isWithin 166 = .ok (.iload 17, 2) := by decide +kernel
theorem dX5_isWithin_168 : decode cX5_isWithin 168 = .ok (.ifCond .ne 49, 3) := by decide +kernel
theorem dX5_isWithin_171 : decode cX5_isWithin 171 = .ok (.lload 11, 2) := by decide +kernel
theorem dX5_isWithin_173 : decode cX5_isWithin 173 = .ok (.lconst 0, 1) := by decide +kernel
theorem dX5_isWithin_174 : decode cX5_isWithin 174 = .ok (.lcmp, 1) := by decide +kernel
theorem dX5_isWithin_175 : decode cX5_isWithin 175 = .ok (.ifCond .lt 17, 3) := by decide +kernel
theorem dX5_isWithin_178 : decode cX5_isWithin 178 = .ok (.lload 13, 2) := by decide +kernel
theorem dX5_isWithin_180 : decode cX5_isWithin 180 = .ok (.lconst 0, 1) := by decide +kernel
theorem dX5_isWithin_181 : decode cX5_isWithin 181 = .ok (.lcmp, 1) := by decide +kernel
theorem dX5_isWithin_182 : decode cX5_isWithin 182 = .ok (.ifCond .lt 10, 3) := by decide +kernel
theorem dX5_isWithin_185 : decode cX5_isWithin 185 = .ok (.lload 15, 2) := by decide +kernel
theorem dX5_isWithin_187 : decode cX5_isWithin 187 = .ok (.lconst 0, 1) := by decide +kernel
theorem dX5_isWithin_188 : decode cX5_isWithin 188 = .ok (.lcmp, 1) := by decide +kernel
theorem dX5_isWithin_189 : decode cX5_isWithin 189 = .ok (.ifCond .ge 24, 3) := by decide +kernel
theorem dX5_isWithin_192 : decode cX5_isWithin 192 = .ok (.lload 11, 2) := by decide +kernel
theorem dX5_isWithin_194 : decode cX5_isWithin 194 = .ok (.lconst 0, 1) := by decide +kernel
theorem dX5_isWithin_195 : decode cX5_isWithin 195 = .ok (.lcmp, 1) := by decide +kernel
theorem dX5_isWithin_196 : decode cX5_isWithin 196 = .ok (.ifCond .gt 21, 3) := by decide +kernel
theorem dX5_isWithin_199 : decode cX5_isWithin 199 = .ok (.lload 13, 2) := by decide +kernel
theorem dX5_isWithin_201 : decode cX5_isWithin 201 = .ok (.lconst 0, 1) := by decide +kernel
theorem dX5_isWithin_202 : decode cX5_isWithin 202 = .ok (.lcmp, 1) := by decide +kernel
theorem dX5_isWithin_203 : decode cX5_isWithin 203 = .ok (.ifCond .gt 14, 3) := by decide +kernel
theorem dX5_isWithin_206 : decode cX5_isWithin 206 = .ok (.lload 15, 2) := by decide +kernel
theorem dX5_isWithin_208 : decode cX5_isWithin 208 = .ok (.lconst 0, 1) := by decide +kernel
theorem dX5_isWithin_209 : decode cX5_isWithin 209 = .ok (.lcmp, 1) := by decide +kernel
theorem dX5_isWithin_210 : decode cX5_isWithin 210 = .ok (.ifCond .gt 7, 3) := by decide +kernel
theorem dX5_isWithin_213 : decode cX5_isWithin 213 = .ok (.iconst 1, 1) := by decide +kernel
theorem dX5_isWithin_214 : decode cX5_isWithin 214 = .ok (.goto 4, 3) := by decide +kernel
theorem dX5_isWithin_217 : decode cX5_isWithin 217 = .ok (.iconst 0, 1) := by decide +kernel
theorem dX5_isWithin_218 : decode cX5_isWithin 218 = .ok (.istore 6, 2) := by decide +kernel
theorem dX5_isWithin_220 : decode cX5_isWithin 220 = .ok (.iinc 7 1, 3) := by decide +kernel
theorem dX5_isWithin_223 : decode cX5_isWithin 223 = .ok (.goto (-217), 3) := by decide +kernel
theorem dX5_isWithin_226 : decode cX5_isWithin 226 = .ok (.iload 6, 2) := by decide +kernel
theorem dX5_isWithin_228 : decode cX5_isWithin 228 = .ok (.ireturn, 1) := by decide +kernel
theorem dX5_meets_0 : decode cX5_meets 0 = .ok (.aload_n 0, 1) := by decide +kernel
theorem dX5_meets_1 : decode cX5_meets 1 = .ok (.getfield 92, 3) := by decide +kernel
theorem dX5_meets_4 : decode cX5_meets 4 = .ok (.aload_n 0, 1) := by decide +kernel
theorem dX5_meets_5 : decode cX5_meets 5 = .ok (.getfield 96, 3) := by decide +kernel
theorem dX5_meets_8 : decode cX5_meets 8 = .ok (.aload_n 0, 1) := by decide +kernel
theorem dX5_meets_9 : decode cX5_meets 9 = .ok (.getfield 99, 3) := by decide +kernel
theorem dX5_meets_12 : decode cX5_meets 12 = .ok (.iconst 0, 1) := by decide +kernel
theorem dX5_meets_13 : decode cX5_meets 13 = .ok (.laload, 1) := by decide +kernel
theorem dX5_meets_14 : decode cX5_meets 14 = .ok (.aload_n 0, 1) := by decide +kernel
theorem dX5_meets_15 : decode cX5_meets 15 = .ok (.getfield 102, 3) := by decide +kernel
theorem dX5_meets_18 : decode cX5_meets 18 = .ok (.iconst 0, 1) := by decide +kernel
theorem dX5_meets_19 : decode cX5_meets 19 = .ok (.laload, 1) := by decide +kernel
theorem dX5_meets_20 : decode cX5_meets 20 = .ok (.invokestatic 183, 3) := by decide +kernel
theorem dX5_meets_23 : decode cX5_meets 23 = .ok (.ifCond .ne 29, 3) := by decide +kernel
theorem dX5_meets_26 : decode cX5_meets 26 = .ok (.aload_n 0, 1) := by decide +kernel
theorem dX5_meets_27 : decode cX5_meets 27 = .ok (.getfield 99, 3) := by decide +kernel
theorem dX5_meets_30 : decode cX5_meets 30 = .ok (.aload_n 0, 1) := by decide +kernel
theorem dX5_meets_31 : decode cX5_meets 31 = .ok (.getfield 102, 3) := by decide +kernel
theorem dX5_meets_34 : decode cX5_meets 34 = .ok (.aload_n 0, 1) := by decide +kernel
theorem dX5_meets_35 : decode cX5_meets 35 = .ok (.getfield 92, 3) := by decide +kernel
theorem dX5_meets_38 : decode cX5_meets 38 = .ok (.iconst 0, 1) := by decide +kernel
theorem dX5_meets_39 : decode cX5_meets 39 = .ok (.laload, 1) := by decide +kernel
theorem dX5_meets_40 : decode cX5_meets 40 = .ok (.aload_n 0, 1) := by decide +kernel
theorem dX5_meets_41 : decode cX5_meets 41 = .ok (.getfield 96, 3) := by decide +kernel
theorem dX5_meets_44 : decode cX5_meets 44 = .ok (.iconst 0, 1) := by decide +kernel
theorem dX5_meets_45 : decode cX5_meets 45 = .ok (.laload, 1) := by decide +kernel
theorem dX5_meets_46 : decode cX5_meets 46 = .ok (.invokestatic 183, 3) := by decide +kernel
theorem dX5_meets_49 : decode cX5_meets 49 = .ok (.ifCond .eq 7, 3) := by decide +kernel
theorem dX5_meets_52 : decode cX5_meets 52 = .ok (.iconst 1, 1) := by decide +kernel
theorem dX5_meets_53 : decode cX5_meets 53 = .ok (.goto 4, 3) := by decide +kernel
theorem dX5_meets_56 : decode cX5_meets 56 = .ok (.iconst 0, 1) := by decide +kernel
theorem dX5_meets_57 : decode cX5_meets 57 = .ok (.istore_n 1, 1) := by decide +kernel
theorem dX5_meets_58 : decode cX5_meets 58 = .ok (.iconst 0, 1) := by decide +kernel
theorem dX5_meets_59 : decode cX5_meets 59 = .ok (.istore_n 2, 1) := by decide +kernel
theorem dX5_meets_60 : decode cX5_meets 60 = .ok (.iload_n 2, 1) := by decide +kernel
theorem dX5_meets_61 : decode cX5_meets 61 = .ok (.iconst 4, 1) := by decide +kernel
theorem dX5_meets_62 : decode cX5_meets 62 = .ok (.if_icmp .ge 84, 3) := by decide +kernel
theorem dX5_meets_65 : decode cX5_meets 65 = .ok (.iload_n 1, 1) := by decide +kernel
theorem dX5_meets_66 : decode cX5_meets 66 = .ok (.ifCond .ne 80, 3) := by decide +kernel
theorem dX5_meets_69 : decode cX5_meets 69 = .ok (.iload_n 2, 1) := by decide +kernel
theorem dX5_meets_70 : decode cX5_meets 70 = .ok (.iconst 1, 1) := by decide +kernel
theorem dX5_meets_71 : decode cX5_meets 71 = .ok (.iadd, 1) := by decide +kernel
theorem dX5_meets_72 : decode cX5_meets 72 = .ok (.istore_n 3, 1) := by decide +kernel
theorem dX5_meets_73 : decode cX5_meets 73 = .ok (.iload_n 3, 1) := by decide +kernel
theorem dX5_meets_74 : decode cX5_meets 74 = .ok (.iconst 4, 1) := by decide +kernel
theorem dX5_meets_75 : decode cX5_meets 75 = .ok (.if_icmp .ge 65, 3) := by decide +kernel
theorem dX5_meets_78 : decode cX5_meets 78 = .ok (.iload_n 1, 1) := by decide +kernel
theorem dX5_meets_79 : decode cX5_meets 79 = .ok (.ifCond .ne 61, 3) := by decide +kernel
theorem dX5_meets_82 : decode cX5_meets 82 = .ok (.iconst 0, 1) := by decide +kernel
theorem dX5_meets_83 : decode cX5_meets 83 = .ok (.istore 4, 2) := by decide +kernel
theorem dX5_meets_85 : decode cX5_meets 85 = .ok (.iload 4, 2) := by decide +kernel
theorem dX5_meets_87 : decode cX5_meets 87 = .ok (.iconst 4, 1) := by decide +kernel
theorem dX5_meets_88 : decode cX5_meets 88 = .ok (.if_icmp .ge 46, 3) := by decide +kernel
theorem dX5_meets_91 : decode cX5_meets 91 = .ok (.iload_n 1, 1) := by decide +kernel
theorem dX5_meets_92 : decode cX5_meets 92 = .ok (.ifCond .ne 42, 3) := by decide +kernel
theorem dX5_meets_95 : decode cX5_meets 95 = .ok (.iload 4, 2) := by decide +kernel
theorem dX5_meets_97 : decode cX5_meets 97 = .ok (.iconst 1, 1) := by decide +kernel
theorem dX5_meets_98 : decode cX5_meets 98 = .ok (.iadd, 1) := by decide +kernel
theorem dX5_meets_99 : decode cX5_meets 99 = .ok (.istore 5, 2) := by decide +kernel
theorem dX5_meets_101 : decode cX5_meets 101 = .ok (.iload 5, 2) := by decide +kernel
theorem dX5_meets_103 : decode cX5_meets 103 = .ok (.iconst 4, 1) := by decide +kernel
theorem dX5_meets_104 : decode cX5_meets 104 = .ok (.if_icmp .ge 24, 3) := by decide +kernel
theorem dX5_meets_107 : decode cX5_meets 107 = .ok (.iload_n 1, 1) := by decide +kernel
theorem dX5_meets_108 : decode cX5_meets 108 = .ok (.ifCond .ne 20, 3) := by decide +kernel
theorem dX5_meets_111 : decode cX5_meets 111 = .ok (.aload_n 0, 1) := by decide +kernel
theorem dX5_meets_112 : decode cX5_meets 112 = .ok (.iload_n 2, 1) := by decide +kernel
theorem dX5_meets_113 : decode cX5_meets 113 = .ok (.iload_n 3, 1) := by decide +kernel
theorem dX5_meets_114 : decode cX5_meets 114 = .ok (.iload 4, 2) := by decide +kernel
theorem dX5_meets_116 : decode cX5_meets 116 = .ok (.iload 5, 2) := by decide +kernel
theorem dX5_meets_118 : decode cX5_meets 118 = .ok (.invokevirtual 187, 3) := by decide +kernel
theorem dX5_meets_121 : decode cX5_meets 121 = .ok (.istore_n 1, 1) := by decide +kernel
theorem dX5_meets_122 : decode cX5_meets 122 = .ok (.iinc 5 1, 3) := by decide +kernel
theorem dX5_meets_125 : decode cX5_meets 125 = .ok (.goto (-24), 3) := by decide +kernel
theorem dX5_meets_128 : decode cX5_meets 128 = .ok (.iinc 4 1, 3) := by decide +kernel
theorem dX5_meets_131 : decode cX5_meets 131 = .ok (.goto (-46), 3) := by decide +kernel
theorem dX5_meets_134 : decode cX5_meets 134 = .ok (.iinc 3 1, 3) := by decide +kernel
theorem dX5_meets_137 : decode cX5_meets 137 = .ok (.goto (-64), 3) := by decide +kernel
theorem dX5_meets_140 : decode cX5_meets 140 = .ok (.iinc 2 1, 3) := by decide +kernel
theorem dX5_meets_143 : decode cX5_meets 143 = .ok (.goto (-83), 3) := by decide +kernel
theorem dX5_meets_146 : decode cX5_meets 146 = .ok (.iload_n 1, 1) := by decide +kernel
theorem dX5_meets_147 : decode cX5_meets 147 = .ok (.ireturn, 1) := by decide +kernel
theorem dX5_other_0 : decode cX5_other 0 = .ok (.aload_n 0, 1) := by decide +kernel
theorem dX5_other_1 : decode cX5_other 1 = .ok (.getfield 99, 3) := by decide +kernel
theorem dX5_other_4 : decode cX5_other 4 = .ok (.iload_n 1, 1) := by decide +kernel
theorem dX5_other_5 : decode cX5_other 5 = .ok (.lload_n 2, 1) := by decide +kernel
theorem dX5_other_6 : decode cX5_other 6 = .ok (.lastore, 1) := by decide +kernel
theorem dX5_other_7 : decode cX5_other 7 = .ok (.aload_n 0, 1) := by decide +kernel
theorem dX5_other_8 : decode cX5_other 8 = .ok (.getfield 102, 3) := by decide +kernel
theorem dX5_other_11 : decode cX5_other 11 = .ok (.iload_n 1, 1) := by decide +kernel
theorem dX5_other_12 : decode cX5_other 12 = .ok (.lload 4, 2) := by decide +kernel
theorem dX5_other_14 : decode cX5_other 14 = .ok (.lastore, 1) := by decide +kernel
theorem dX5_other_15 : decode cX5_other 15 = .ok (.return_, 1) := by decide +kernel
theorem dX5_ask_0 : decode cX5_ask 0 = .ok (.iconst 0, 1) := by decide +kernel
theorem dX5_ask_1 : decode cX5_ask 1 = .ok (.istore_n 3, 1) := by decide +kernel
theorem dX5_ask_2 : decode cX5_ask 2 = .ok (.iload_n 3, 1) := by decide +kernel
theorem dX5_ask_3 : decode cX5_ask 3 = .ok (.iconst 4, 1) := by decide +kernel
theorem dX5_ask_4 : decode cX5_ask 4 = .ok (.if_icmp .ge 36, 3) := by decide +kernel
theorem dX5_ask_7 : decode cX5_ask 7 = .ok (.aload_n 0, 1) := by decide +kernel
theorem dX5_ask_8 : decode cX5_ask 8 = .ok (.getfield 92, 3) := by decide +kernel
theorem dX5_ask_11 : decode cX5_ask 11 = .ok (.iload_n 3, 1) := by decide +kernel
theorem dX5_ask_12 : decode cX5_ask 12 = .ok (.aload_n 0, 1) := by decide +kernel
theorem dX5_ask_13 : decode cX5_ask 13 = .ok (.iload_n 1, 1) := by decide +kernel
theorem dX5_ask_14 : decode cX5_ask 14 = .ok (.iload_n 3, 1) := by decide +kernel
theorem dX5_ask_15 : decode cX5_ask 15 = .ok (.invokevirtual 191, 3) := by decide +kernel
theorem dX5_ask_18 : decode cX5_ask 18 = .ok (.i2l, 1) := by decide +kernel
theorem dX5_ask_19 : decode cX5_ask 19 = .ok (.lastore, 1) := by decide +kernel
theorem dX5_ask_20 : decode cX5_ask 20 = .ok (.aload_n 0, 1) := by decide +kernel
theorem dX5_ask_21 : decode cX5_ask 21 = .ok (.getfield 96, 3) := by decide +kernel
theorem dX5_ask_24 : decode cX5_ask 24 = .ok (.iload_n 3, 1) := by decide +kernel
theorem dX5_ask_25 : decode cX5_ask 25 = .ok (.aload_n 0, 1) := by decide +kernel
theorem dX5_ask_26 : decode cX5_ask 26 = .ok (.iload_n 1, 1) := by decide +kernel
theorem dX5_ask_27 : decode cX5_ask 27 = .ok (.iload_n 2, 1) := by decide +kernel
theorem dX5_ask_28 : decode cX5_ask 28 = .ok (.iload_n 3, 1) := by decide +kernel
theorem dX5_ask_29 : decode cX5_ask 29 = .ok (.invokevirtual 194, 3) := by decide +kernel
theorem dX5_ask_32 : decode cX5_ask 32 = .ok (.i2l, 1) := by decide +kernel
theorem dX5_ask_33 : decode cX5_ask 33 = .ok (.lastore, 1) := by decide +kernel
theorem dX5_ask_34 : decode cX5_ask 34 = .ok (.iinc 3 1, 3) := by decide +kernel
theorem dX5_ask_37 : decode cX5_ask 37 = .ok (.goto (-35), 3) := by decide +kernel
theorem dX5_ask_40 : decode cX5_ask 40 = .ok (.return_, 1) := by decide +kernel
theorem dX5_bars_0 : decode cX5_bars 0 = .ok (.aload_n 0, 1) := by decide +kernel
theorem dX5_bars_1 : decode cX5_bars 1 = .ok (.iload_n 1, 1) := by decide +kernel
theorem dX5_bars_2 : decode cX5_bars 2 = .ok (.iload_n 2, 1) := by decide +kernel
theorem dX5_bars_3 : decode cX5_bars 3 = .ok (.invokevirtual 198, 3) := by decide +kernel
theorem dX5_bars_6 : decode cX5_bars 6 = .ok (.iconst 0, 1) := by decide +kernel
theorem dX5_bars_7 : decode cX5_bars 7 = .ok (.istore_n 3, 1) := by decide +kernel
theorem dX5_bars_8 : decode cX5_bars 8 = .ok (.iconst 0, 1) := by decide +kernel
theorem dX5_bars_9 : decode cX5_bars 9 = .ok (.istore 4, 2) := by decide +kernel
theorem dX5_bars_11 : decode cX5_bars 11 = .ok (.iload 4, 2) := by decide +kernel
theorem dX5_bars_13 : decode cX5_bars 13 = .ok (.aload_n 0, 1) := by decide +kernel
theorem dX5_bars_14 : decode cX5_bars 14 = .ok (.getfield 120, 3) := by decide +kernel
theorem dX5_bars_17 : decode cX5_bars 17 = .ok (.if_icmp .ge 156, 3) := by decide +kernel
theorem dX5_bars_20 : decode cX5_bars 20 = .ok (.aload_n 0, 1) := by decide +kernel
theorem dX5_bars_21 : decode cX5_bars 21 = .ok (.getfield 26, 3) := by decide +kernel
theorem dX5_bars_24 : decode cX5_bars 24 = .ok (.iload 4, 2) := by decide +kernel
theorem dX5_bars_26 : decode cX5_bars 26 = .ok (.iaload, 1) := by decide +kernel
theorem dX5_bars_27 : decode cX5_bars 27 = .ok (.aload_n 0, 1) := by decide +kernel
theorem dX5_bars_28 : decode cX5_bars 28 = .ok (.getfield 71, 3) := by decide +kernel
theorem dX5_bars_31 : decode cX5_bars 31 = .ok (.iload_n 1, 1) := by decide +kernel
theorem dX5_bars_32 : decode cX5_bars 32 = .ok (.iaload, 1) := by decide +kernel
theorem dX5_bars_33 : decode cX5_bars 33 = .ok (.if_icmp .ne 134, 3) := by decide +kernel
theorem dX5_bars_36 : decode cX5_bars 36 = .ok (.aload_n 0, 1) := by decide +kernel
theorem dX5_bars_37 : decode cX5_bars 37 = .ok (.iconst 0, 1) := by decide +kernel
theorem dX5_bars_38 : decode cX5_bars 38 = .ok (.aload_n 0, 1) := by decide +kernel
theorem dX5_bars_39 : decode cX5_bars 39 = .ok (.getfield 29, 3) := by decide +kernel
theorem dX5_bars_42 : decode cX5_bars 42 = .ok (.iload 4, 2) := by decide +kernel
theorem dX5_bars_44 : decode cX5_bars 44 = .ok (.iaload, 1) := by decide +kernel
theorem dX5_bars_45 : decode cX5_bars 45 = .ok (.i2l, 1) := by decide +kernel
theorem dX5_bars_46 : decode cX5_bars 46 = .ok (.aload_n 0, 1) := by decide +kernel
theorem dX5_bars_47 : decode cX5_bars 47 = .ok (.getfield 32, 3) := by decide +kernel
theorem dX5_bars_50 : decode cX5_bars 50 = .ok (.iload 4, 2) := by decide +kernel
theorem dX5_bars_52 : decode cX5_bars 52 = .ok (.iaload, 1) := by decide +kernel
theorem dX5_bars_53 : decode cX5_bars 53 = .ok (.i2l, 1) := by decide +kernel
theorem dX5_bars_54 : decode cX5_bars 54 = .ok (.invokevirtual 201, 3) := by decide +kernel
theorem dX5_bars_57 : decode cX5_bars 57 = .ok (.aload_n 0, 1) := by decide +kernel
theorem dX5_bars_58 : decode cX5_bars 58 = .ok (.iconst 1, 1) := by decide +kernel
theorem dX5_bars_59 : decode cX5_bars 59 = .ok (.aload_n 0, 1) := by decide +kernel
theorem dX5_bars_60 : decode cX5_bars 60 = .ok (.getfield 29, 3) := by decide +kernel
theorem dX5_bars_63 : decode cX5_bars 63 = .ok (.iload 4, 2) := by decide +kernel
theorem dX5_bars_65 : decode cX5_bars 65 = .ok (.iaload, 1) := by decide +kernel
theorem dX5_bars_66 : decode cX5_bars 66 = .ok (.aload_n 0, 1) := by decide +kernel
theorem dX5_bars_67 : decode cX5_bars 67 = .ok (.getfield 35, 3) := by decide +kernel
theorem dX5_bars_70 : decode cX5_bars 70 = .ok (.iload 4, 2) := by decide +kernel
theorem dX5_bars_72 : decode cX5_bars 72 = .ok (.iaload, 1) := by decide +kernel
theorem dX5_bars_73 : decode cX5_bars 73 = .ok (.iadd, 1) := by decide +kernel
theorem dX5_bars_74 : decode cX5_bars 74 = .ok (.i2l, 1) := by decide +kernel
theorem dX5_bars_75 : decode cX5_bars 75 = .ok (.aload_n 0, 1) := by decide +kernel
theorem dX5_bars_76 : decode cX5_bars 76 = .ok (.getfield 32, 3) := by decide +kernel
theorem dX5_bars_79 : decode cX5_bars 79 = .ok (.iload 4, 2) := by decide +kernel
theorem dX5_bars_81 : decode cX5_bars 81 = .ok (.iaload, 1) := by decide +kernel
theorem dX5_bars_82 : decode cX5_bars 82 = .ok (.i2l, 1) := by decide +kernel
theorem dX5_bars_83 : decode cX5_bars 83 = .ok (.invokevirtual 201, 3) := by decide +kernel
theorem dX5_bars_86 : decode cX5_bars 86 = .ok (.aload_n 0, 1) := by decide +kernel
theorem dX5_bars_87 : decode cX5_bars 87 = .ok (.iconst 2, 1) := by decide +kernel
theorem dX5_bars_88 : decode cX5_bars 88 = .ok (.aload_n 0, 1) := by decide +kernel
theorem dX5_bars_89 : decode cX5_bars 89 = .ok (.getfield 29, 3) := by decide +kernel
theorem dX5_bars_92 : decode cX5_bars 92 = .ok (.iload 4, 2) := by decide +kernel
theorem dX5_bars_94 : decode cX5_bars 94 = .ok (.iaload, 1) := by decide +kernel
theorem dX5_bars_95 : decode cX5_bars 95 = .ok (.aload_n 0, 1) := by decide +kernel
theorem dX5_bars_96 : decode cX5_bars 96 = .ok (.getfield 35, 3) := by decide +kernel
theorem dX5_bars_99 : decode cX5_bars 99 = .ok (.iload 4, 2) := by decide +kernel
theorem dX5_bars_101 : decode cX5_bars 101 = .ok (.iaload, 1) := by decide +kernel
theorem dX5_bars_102 : decode cX5_bars 102 = .ok (.iadd, 1) := by decide +kernel
theorem dX5_bars_103 : decode cX5_bars 103 = .ok (.i2l, 1) := by decide +kernel
theorem dX5_bars_104 : decode cX5_bars 104 = .ok (.aload_n 0, 1) := by decide +kernel
theorem dX5_bars_105 : decode cX5_bars 105 = .ok (.getfield 32, 3) := by decide +kernel
theorem dX5_bars_108 : decode cX5_bars 108 = .ok (.iload 4, 2) := by decide +kernel
theorem dX5_bars_110 : decode cX5_bars 110 = .ok (.iaload, 1) := by decide +kernel
theorem dX5_bars_111 : decode cX5_bars 111 = .ok (.aload_n 0, 1) := by decide +kernel
theorem dX5_bars_112 : decode cX5_bars 112 = .ok (.getfield 38, 3) := by decide +kernel
theorem dX5_bars_115 : decode cX5_bars 115 = .ok (.iload 4, 2) := by decide +kernel
theorem dX5_bars_117 : decode cX5_bars 117 = .ok (.iaload, 1) := by decide +kernel
theorem dX5_bars_118 : decode cX5_bars 118 = .ok (.iadd, 1) := by decide +kernel
theorem dX5_bars_119 : decode cX5_bars 119 = .ok (.i2l, 1) := by decide +kernel
theorem dX5_bars_120 : decode cX5_bars 120 = .ok (.invokevirtual 201, 3) := by decide +kernel
theorem dX5_bars_123 : decode cX5_bars 123 = .ok (.aload_n 0, 1) := by decide +kernel
theorem dX5_bars_124 : decode cX5_bars 124 = .ok (.iconst 3, 1) := by decide +kernel
theorem dX5_bars_125 : decode cX5_bars 125 = .ok (.aload_n 0, 1) := by decide +kernel
theorem dX5_bars_126 : decode cX5_bars 126 = .ok (.getfield 29, 3) := by decide +kernel
theorem dX5_bars_129 : decode cX5_bars 129 = .ok (.iload 4, 2) := by decide +kernel
theorem dX5_bars_131 : decode cX5_bars 131 = .ok (.iaload, 1) := by decide +kernel
theorem dX5_bars_132 : decode cX5_bars 132 = .ok (.i2l, 1) := by decide +kernel
theorem dX5_bars_133 : decode cX5_bars 133 = .ok (.aload_n 0, 1) := by decide +kernel
theorem dX5_bars_134 : decode cX5_bars 134 = .ok (.getfield 32, 3) := by decide +kernel
theorem dX5_bars_137 : decode cX5_bars 137 = .ok (.iload 4, 2) := by decide +kernel
theorem dX5_bars_139 : decode cX5_bars 139 = .ok (.iaload, 1) := by decide +kernel
theorem dX5_bars_140 : decode cX5_bars 140 = .ok (.aload_n 0, 1) := by decide +kernel
theorem dX5_bars_141 : decode cX5_bars 141 = .ok (.getfield 38, 3) := by decide +kernel
theorem dX5_bars_144 : decode cX5_bars 144 = .ok (.iload 4, 2) := by decide +kernel
theorem dX5_bars_146 : decode cX5_bars 146 = .ok (.iaload, 1) := by decide +kernel
theorem dX5_bars_147 : decode cX5_bars 147 = .ok (.iadd, 1) := by decide +kernel
theorem dX5_bars_148 : decode cX5_bars 148 = .ok (.i2l, 1) := by decide +kernel
theorem dX5_bars_149 : decode cX5_bars 149 = .ok (.invokevirtual 201, 3) := by decide +kernel
theorem dX5_bars_152 : decode cX5_bars 152 = .ok (.iload_n 3, 1) := by decide +kernel
theorem dX5_bars_153 : decode cX5_bars 153 = .ok (.aload_n 0, 1) := by decide +kernel
theorem dX5_bars_154 : decode cX5_bars 154 = .ok (.invokevirtual 205, 3) := by decide +kernel
theorem dX5_bars_157 : decode cX5_bars 157 = .ok (.ifCond .eq 7, 3) := by decide +kernel
theorem dX5_bars_160 : decode cX5_bars 160 = .ok (.iconst 1, 1) := by decide +kernel
theorem dX5_bars_161 : decode cX5_bars 161 = .ok (.goto 4, 3) := by decide +kernel
theorem dX5_bars_164 : decode cX5_bars 164 = .ok (.iconst 0, 1) := by decide +kernel
theorem dX5_bars_165 : decode cX5_bars 165 = .ok (.iadd, 1) := by decide +kernel
theorem dX5_bars_166 : decode cX5_bars 166 = .ok (.istore_n 3, 1) := by decide +kernel
theorem dX5_bars_167 : decode cX5_bars 167 = .ok (.iinc 4 1, 3) := by decide +kernel
theorem dX5_bars_170 : decode cX5_bars 170 = .ok (.goto (-159), 3) := by decide +kernel
theorem dX5_bars_173 : decode cX5_bars 173 = .ok (.iconst 0, 1) := by decide +kernel
theorem dX5_bars_174 : decode cX5_bars 174 = .ok (.istore 4, 2) := by decide +kernel
theorem dX5_bars_176 : decode cX5_bars 176 = .ok (.iload 4, 2) := by decide +kernel
theorem dX5_bars_178 : decode cX5_bars 178 = .ok (.aload_n 0, 1) := by decide +kernel
theorem dX5_bars_179 : decode cX5_bars 179 = .ok (.getfield 123, 3) := by decide +kernel
theorem dX5_bars_182 : decode cX5_bars 182 = .ok (.if_icmp .ge 140, 3) := by decide +kernel
theorem dX5_bars_185 : decode cX5_bars 185 = .ok (.aload_n 0, 1) := by decide +kernel
theorem dX5_bars_186 : decode cX5_bars 186 = .ok (.getfield 41, 3) := by decide +kernel
theorem dX5_bars_189 : decode cX5_bars 189 = .ok (.iload 4, 2) := by decide +kernel
theorem dX5_bars_191 : decode cX5_bars 191 = .ok (.iaload, 1) := by decide +kernel
theorem dX5_bars_192 : decode cX5_bars 192 = .ok (.aload_n 0, 1) := by decide +kernel
theorem dX5_bars_193 : decode cX5_bars 193 = .ok (.getfield 71, 3) := by decide +kernel
theorem dX5_bars_196 : decode cX5_bars 196 = .ok (.iload_n 1, 1) := by decide +kernel
theorem dX5_bars_197 : decode cX5_bars 197 = .ok (.iaload, 1) := by decide +kernel
theorem dX5_bars_198 : decode cX5_bars 198 = .ok (.if_icmp .ne 118, 3) := by decide +kernel
theorem dX5_bars_201 : decode cX5_bars 201 = .ok (.aload_n 0, 1) := by decide +kernel
theorem dX5_bars_202 : decode cX5_bars 202 = .ok (.iconst 0, 1) := by decide +kernel
theorem dX5_bars_203 : decode cX5_bars 203 = .ok (.aload_n 0, 1) := by decide +kernel
theorem dX5_bars_204 : decode cX5_bars 204 = .ok (.getfield 44, 3) := by decide +kernel
theorem dX5_bars_207 : decode cX5_bars 207 = .ok (.iload 4, 2) := by decide +kernel
theorem dX5_bars_209 : decode cX5_bars 209 = .ok (.iaload, 1) := by decide +kernel
theorem dX5_bars_210 : decode cX5_bars 210 = .ok (.i2l, 1) := by decide +kernel
theorem dX5_bars_211 : decode cX5_bars 211 = .ok (.aload_n 0, 1) := by decide +kernel
theorem dX5_bars_212 : decode cX5_bars 212 = .ok (.getfield 50, 3) := by decide +kernel
theorem dX5_bars_215 : decode cX5_bars 215 = .ok (.iload 4, 2) := by decide +kernel
theorem dX5_bars_217 : decode cX5_bars 217 = .ok (.iaload, 1) := by decide +kernel
theorem dX5_bars_218 : decode cX5_bars 218 = .ok (.i2l, 1) := by decide +kernel
theorem dX5_bars_219 : decode cX5_bars 219 = .ok (.invokevirtual 201, 3) := by decide +kernel
theorem dX5_bars_222 : decode cX5_bars 222 = .ok (.aload_n 0, 1) := by decide +kernel
theorem dX5_bars_223 : decode cX5_bars 223 = .ok (.iconst 1, 1) := by decide +kernel
theorem dX5_bars_224 : decode cX5_bars 224 = .ok (.aload_n 0, 1) := by decide +kernel
theorem dX5_bars_225 : decode cX5_bars 225 = .ok (.getfield 47, 3) := by decide +kernel
theorem dX5_bars_228 : decode cX5_bars 228 = .ok (.iload 4, 2) := by decide +kernel
theorem dX5_bars_230 : decode cX5_bars 230 = .ok (.iaload, 1) := by decide +kernel
theorem dX5_bars_231 : decode cX5_bars 231 = .ok (.i2l, 1) := by decide +kernel
theorem dX5_bars_232 : decode cX5_bars 232 = .ok (.aload_n 0, 1) := by decide +kernel
theorem dX5_bars_233 : decode cX5_bars 233 = .ok (.getfield 50, 3) := by decide +kernel
theorem dX5_bars_236 : decode cX5_bars 236 = .ok (.iload 4, 2) := by decide +kernel
theorem dX5_bars_238 : decode cX5_bars 238 = .ok (.iaload, 1) := by decide +kernel
theorem dX5_bars_239 : decode cX5_bars 239 = .ok (.aload_n 0, 1) := by decide +kernel
theorem dX5_bars_240 : decode cX5_bars 240 = .ok (.getfield 53, 3) := by decide +kernel
theorem dX5_bars_243 : decode cX5_bars 243 = .ok (.iload 4, 2) := by decide +kernel
theorem dX5_bars_245 : decode cX5_bars 245 = .ok (.iaload, 1) := by decide +kernel
theorem dX5_bars_246 : decode cX5_bars 246 = .ok (.isub, 1) := by decide +kernel
theorem dX5_bars_247 : decode cX5_bars 247 = .ok (.i2l, 1) := by decide +kernel
theorem dX5_bars_248 : decode cX5_bars 248 = .ok (.invokevirtual 201, 3) := by decide +kernel
theorem dX5_bars_251 : decode cX5_bars 251 = .ok (.aload_n 0, 1) := by decide +kernel
theorem dX5_bars_252 : decode cX5_bars 252 = .ok (.iconst 2, 1) := by decide +kernel
theorem dX5_bars_253 : decode cX5_bars 253 = .ok (.aload_n 0, 1) := by decide +kernel
theorem dX5_bars_254 : decode cX5_bars 254 = .ok (.getfield 47, 3) := by decide +kernel
theorem dX5_bars_257 : decode cX5_bars 257 = .ok (.iload 4, 2) := by decide +kernel
theorem dX5_bars_259 : decode cX5_bars 259 = .ok (.iaload, 1) := by decide +kernel
theorem dX5_bars_260 : decode cX5_bars 260 = .ok (.i2l, 1) := by decide +kernel
theorem dX5_bars_261 : decode cX5_bars 261 = .ok (.aload_n 0, 1) := by decide +kernel
theorem dX5_bars_262 : decode cX5_bars 262 = .ok (.getfield 50, 3) := by decide +kernel
theorem dX5_bars_265 : decode cX5_bars 265 = .ok (.iload 4, 2) := by decide +kernel
theorem dX5_bars_267 : decode cX5_bars 267 = .ok (.iaload, 1) := by decide +kernel
theorem dX5_bars_268 : decode cX5_bars 268 = .ok (.aload_n 0, 1) := by decide +kernel
theorem dX5_bars_269 : decode cX5_bars 269 = .ok (.getfield 53, 3) := by decide +kernel
theorem dX5_bars_272 : decode cX5_bars 272 = .ok (.iload 4, 2) := by decide +kernel
theorem dX5_bars_274 : decode cX5_bars 274 = .ok (.iaload, 1) := by decide +kernel
theorem dX5_bars_275 : decode cX5_bars 275 = .ok (.iadd, 1) := by decide +kernel
theorem dX5_bars_276 : decode cX5_bars 276 = .ok (.i2l, 1) := by decide +kernel
theorem dX5_bars_277 : decode cX5_bars 277 = .ok (.invokevirtual 201, 3) := by decide +kernel
theorem dX5_bars_280 : decode cX5_bars 280 = .ok (.aload_n 0, 1) := by decide +kernel
theorem dX5_bars_281 : decode cX5_bars 281 = .ok (.iconst 3, 1) := by decide +kernel
theorem dX5_bars_282 : decode cX5_bars 282 = .ok (.aload_n 0, 1) := by decide +kernel
theorem dX5_bars_283 : decode cX5_bars 283 = .ok (.getfield 44, 3) := by decide +kernel
theorem dX5_bars_286 : decode cX5_bars 286 = .ok (.iload 4, 2) := by decide +kernel
theorem dX5_bars_288 : decode cX5_bars 288 = .ok (.iaload, 1) := by decide +kernel
theorem dX5_bars_289 : decode cX5_bars 289 = .ok (.i2l, 1) := by decide +kernel
theorem dX5_bars_290 : decode cX5_bars 290 = .ok (.aload_n 0, 1) := by decide +kernel
theorem dX5_bars_291 : decode cX5_bars 291 = .ok (.getfield 50, 3) := by decide +kernel
theorem dX5_bars_294 : decode cX5_bars 294 = .ok (.iload 4, 2) := by decide +kernel
theorem dX5_bars_296 : decode cX5_bars 296 = .ok (.iaload, 1) := by decide +kernel
theorem dX5_bars_297 : decode cX5_bars 297 = .ok (.i2l, 1) := by decide +kernel
theorem dX5_bars_298 : decode cX5_bars 298 = .ok (.invokevirtual 201, 3) := by decide +kernel
theorem dX5_bars_301 : decode cX5_bars 301 = .ok (.iload_n 3, 1) := by decide +kernel
theorem dX5_bars_302 : decode cX5_bars 302 = .ok (.aload_n 0, 1) := by decide +kernel
theorem dX5_bars_303 : decode cX5_bars 303 = .ok (.invokevirtual 205, 3) := by decide +kernel
theorem dX5_bars_306 : decode cX5_bars 306 = .ok (.ifCond .eq 7, 3) := by decide +kernel
theorem dX5_bars_309 : decode cX5_bars 309 = .ok (.iconst 1, 1) := by decide +kernel
theorem dX5_bars_310 : decode cX5_bars 310 = .ok (.goto 4, 3) := by decide +kernel
theorem dX5_bars_313 : decode cX5_bars 313 = .ok (.iconst 0, 1) := by decide +kernel
theorem dX5_bars_314 : decode cX5_bars 314 = .ok (.iadd, 1) := by decide +kernel
theorem dX5_bars_315 : decode cX5_bars 315 = .ok (.istore_n 3, 1) := by decide +kernel
theorem dX5_bars_316 : decode cX5_bars 316 = .ok (.iinc 4 1, 3) := by decide +kernel
theorem dX5_bars_319 : decode cX5_bars 319 = .ok (.goto (-143), 3) := by decide +kernel
theorem dX5_bars_322 : decode cX5_bars 322 = .ok (.iload_n 3, 1) := by decide +kernel
theorem dX5_bars_323 : decode cX5_bars 323 = .ok (.ireturn, 1) := by decide +kernel
theorem dX5_isIn_0 : decode cX5_isIn 0 = .ok (.iload_n 1, 1) := by decide +kernel
theorem dX5_isIn_1 : decode cX5_isIn 1 = .ok (.iconst 2, 1) := by decide +kernel
theorem dX5_isIn_2 : decode cX5_isIn 2 = .ok (.idiv, 1) := by decide +kernel
theorem dX5_isIn_3 : decode cX5_isIn 3 = .ok (.iload_n 2, 1) := by decide +kernel
theorem dX5_isIn_4 : decode cX5_isIn 4 = .ok (.iconst 2, 1) := by decide +kernel
theorem dX5_isIn_5 : decode cX5_isIn 5 = .ok (.idiv, 1) := by decide +kernel
theorem dX5_isIn_6 : decode cX5_isIn 6 = .ok (.if_icmp .ge 71, 3) := by decide +kernel
theorem dX5_isIn_9 : decode cX5_isIn 9 = .ok (.aload_n 0, 1) := by decide +kernel
theorem dX5_isIn_10 : decode cX5_isIn 10 = .ok (.getfield 71, 3) := by decide +kernel
theorem dX5_isIn_13 : decode cX5_isIn 13 = .ok (.iload_n 1, 1) := by decide +kernel
theorem dX5_isIn_14 : decode cX5_isIn 14 = .ok (.iaload, 1) := by decide +kernel
theorem dX5_isIn_15 : decode cX5_isIn 15 = .ok (.aload_n 0, 1) := by decide +kernel
theorem dX5_isIn_16 : decode cX5_isIn 16 = .ok (.getfield 71, 3) := by decide +kernel
theorem dX5_isIn_19 : decode cX5_isIn 19 = .ok (.iload_n 2, 1) := by decide +kernel
theorem dX5_isIn_20 : decode cX5_isIn 20 = .ok (.iaload, 1) := by decide +kernel
theorem dX5_isIn_21 : decode cX5_isIn 21 = .ok (.if_icmp .ne 56, 3) := by decide +kernel
theorem dX5_isIn_24 : decode cX5_isIn 24 = .ok (.aload_n 0, 1) := by decide +kernel
theorem dX5_isIn_25 : decode cX5_isIn 25 = .ok (.getfield 65, 3) := by decide +kernel
theorem dX5_isIn_28 : decode cX5_isIn 28 = .ok (.iload_n 1, 1) := by decide +kernel
theorem dX5_isIn_29 : decode cX5_isIn 29 = .ok (.iconst 2, 1) := by decide +kernel
theorem dX5_isIn_30 : decode cX5_isIn 30 = .ok (.idiv, 1) := by decide +kernel
theorem dX5_isIn_31 : decode cX5_isIn 31 = .ok (.iaload, 1) := by decide +kernel
theorem dX5_isIn_32 : decode cX5_isIn 32 = .ok (.aload_n 0, 1) := by decide +kernel
theorem dX5_isIn_33 : decode cX5_isIn 33 = .ok (.getfield 65, 3) := by decide +kernel
theorem dX5_isIn_36 : decode cX5_isIn 36 = .ok (.iload_n 2, 1) := by decide +kernel
theorem dX5_isIn_37 : decode cX5_isIn 37 = .ok (.iconst 2, 1) := by decide +kernel
theorem dX5_isIn_38 : decode cX5_isIn 38 = .ok (.idiv, 1) := by decide +kernel
theorem dX5_isIn_39 : decode cX5_isIn 39 = .ok (.iaload, 1) := by decide +kernel
theorem dX5_isIn_40 : decode cX5_isIn 40 = .ok (.if_icmp .ne 37, 3) := by decide +kernel
theorem dX5_isIn_43 : decode cX5_isIn 43 = .ok (.aload_n 0, 1) := by decide +kernel
theorem dX5_isIn_44 : decode cX5_isIn 44 = .ok (.getfield 74, 3) := by decide +kernel
theorem dX5_isIn_47 : decode cX5_isIn 47 = .ok (.iload_n 1, 1) := by decide +kernel
theorem dX5_isIn_48 : decode cX5_isIn 48 = .ok (.iaload, 1) := by decide +kernel
theorem dX5_isIn_49 : decode cX5_isIn 49 = .ok (.aload_n 0, 1) := by decide +kernel
theorem dX5_isIn_50 : decode cX5_isIn 50 = .ok (.getfield 74, 3) := by decide +kernel
theorem dX5_isIn_53 : decode cX5_isIn 53 = .ok (.iload_n 2, 1) := by decide +kernel
theorem dX5_isIn_54 : decode cX5_isIn 54 = .ok (.iaload, 1) := by decide +kernel
theorem dX5_isIn_55 : decode cX5_isIn 55 = .ok (.if_icmp .lt 22, 3) := by decide +kernel
theorem dX5_isIn_58 : decode cX5_isIn 58 = .ok (.aload_n 0, 1) := by decide +kernel
theorem dX5_isIn_59 : decode cX5_isIn 59 = .ok (.getfield 80, 3) := by decide +kernel
theorem dX5_isIn_62 : decode cX5_isIn 62 = .ok (.iload_n 1, 1) := by decide +kernel
theorem dX5_isIn_63 : decode cX5_isIn 63 = .ok (.iaload, 1) := by decide +kernel
theorem dX5_isIn_64 : decode cX5_isIn 64 = .ok (.aload_n 0, 1) := by decide +kernel
theorem dX5_isIn_65 : decode cX5_isIn 65 = .ok (.getfield 80, 3) := by decide +kernel
theorem dX5_isIn_68 : decode cX5_isIn 68 = .ok (.iload_n 2, 1) := by decide +kernel
theorem dX5_isIn_69 : decode cX5_isIn 69 = .ok (.iaload, 1) := by decide +kernel
theorem dX5_isIn_70 : decode cX5_isIn 70 = .ok (.if_icmp .gt 7, 3) := by decide +kernel
theorem dX5_isIn_73 : decode cX5_isIn 73 = .ok (.iconst 1, 1) := by decide +kernel
theorem dX5_isIn_74 : decode cX5_isIn 74 = .ok (.goto 4, 3) := by decide +kernel
theorem dX5_isIn_77 : decode cX5_isIn 77 = .ok (.iconst 0, 1) := by decide +kernel
theorem dX5_isIn_78 : decode cX5_isIn 78 = .ok (.ireturn, 1) := by decide +kernel
theorem dX5_hulls_0 : decode cX5_hulls 0 = .ok (.aload_n 0, 1) := by decide +kernel
theorem dX5_hulls_1 : decode cX5_hulls 1 = .ok (.iload_n 1, 1) := by decide +kernel
theorem dX5_hulls_2 : decode cX5_hulls 2 = .ok (.iload_n 2, 1) := by decide +kernel
theorem dX5_hulls_3 : decode cX5_hulls 3 = .ok (.invokevirtual 198, 3) := by decide +kernel
theorem dX5_hulls_6 : decode cX5_hulls 6 = .ok (.iconst 0, 1) := by decide +kernel
theorem dX5_hulls_7 : decode cX5_hulls 7 = .ok (.istore_n 3, 1) := by decide +kernel
theorem dX5_hulls_8 : decode cX5_hulls 8 = .ok (.iconst 0, 1) := by decide +kernel
theorem dX5_hulls_9 : decode cX5_hulls 9 = .ok (.istore 4, 2) := by decide +kernel
theorem dX5_hulls_11 : decode cX5_hulls 11 = .ok (.iload 4, 2) := by decide +kernel
theorem dX5_hulls_13 : decode cX5_hulls 13 = .ok (.iconst 2, 1) := by decide +kernel
theorem dX5_hulls_14 : decode cX5_hulls 14 = .ok (.aload_n 0, 1) := by decide +kernel
theorem dX5_hulls_15 : decode cX5_hulls 15 = .ok (.getfield 136, 3) := by decide +kernel
theorem dX5_hulls_18 : decode cX5_hulls 18 = .ok (.imul, 1) := by decide +kernel
theorem dX5_hulls_19 : decode cX5_hulls 19 = .ok (.if_icmp .ge 96, 3) := by decide +kernel
theorem dX5_hulls_22 : decode cX5_hulls 22 = .ok (.iload 4, 2) := by decide +kernel
theorem dX5_hulls_24 : decode cX5_hulls 24 = .ok (.iconst 2, 1) := by decide +kernel
theorem dX5_hulls_25 : decode cX5_hulls 25 = .ok (.irem, 1) := by decide +kernel
theorem dX5_hulls_26 : decode cX5_hulls 26 = .ok (.aload_n 0, 1) := by decide +kernel
theorem dX5_hulls_27 : decode cX5_hulls 27 = .ok (.getfield 68, 3) := by decide +kernel
theorem dX5_hulls_30 : decode cX5_hulls 30 = .ok (.iload 4, 2) := by decide +kernel
theorem dX5_hulls_32 : decode cX5_hulls 32 = .ok (.iconst 2, 1) := by decide +kernel
theorem dX5_hulls_33 : decode cX5_hulls 33 = .ok (.idiv, 1) := by decide +kernel
theorem dX5_hulls_34 : decode cX5_hulls 34 = .ok (.iaload, 1) := by decide +kernel
theorem dX5_hulls_35 : decode cX5_hulls 35 = .ok (.if_icmp .ge 74, 3) := by decide +kernel
theorem dX5_hulls_38 : decode cX5_hulls 38 = .ok (.aload_n 0, 1) := by decide +kernel
theorem dX5_hulls_39 : decode cX5_hulls 39 = .ok (.iload 4, 2) := by decide +kernel
theorem dX5_hulls_41 : decode cX5_hulls 41 = .ok (.iload_n 1, 1) := by decide +kernel
theorem dX5_hulls_42 : decode cX5_hulls 42 = .ok (.invokevirtual 209, 3) := by decide +kernel
theorem dX5_hulls_45 : decode cX5_hulls 45 = .ok (.ifCond .eq 64, 3) := by decide +kernel
theorem dX5_hulls_48 : decode cX5_hulls 48 = .ok (.iconst 0, 1) := by decide +kernel
theorem dX5_hulls_49 : decode cX5_hulls 49 = .ok (.istore 5, 2) := by decide +kernel
theorem dX5_hulls_51 : decode cX5_hulls 51 = .ok (.iload 5, 2) := by decide +kernel
theorem dX5_hulls_53 : decode cX5_hulls 53 = .ok (.iconst 4, 1) := by decide +kernel
theorem dX5_hulls_54 : decode cX5_hulls 54 = .ok (.if_icmp .ge 40, 3) := by decide +kernel
theorem dX5_hulls_57 : decode cX5_hulls 57 = .ok (.aload_n 0, 1) := by decide +kernel
theorem dX5_hulls_58 : decode cX5_hulls 58 = .ok (.iload 5, 2) := by decide +kernel
theorem dX5_hulls_60 : decode cX5_hulls 60 = .ok (.aload_n 0, 1) := by decide +kernel
theorem dX5_hulls_61 : decode cX5_hulls 61 = .ok (.iload 4, 2) := by decide +kernel
theorem dX5_hulls_63 : decode cX5_hulls 63 = .ok (.iload 5, 2) := by decide +kernel
theorem dX5_hulls_65 : decode cX5_hulls 65 = .ok (.invokevirtual 191, 3) := by decide +kernel
theorem dX5_hulls_68 : decode cX5_hulls 68 = .ok (.i2l, 1) := by decide +kernel
theorem dX5_hulls_69 : decode cX5_hulls 69 = .ok (.aload_n 0, 1) := by decide +kernel
theorem dX5_hulls_70 : decode cX5_hulls 70 = .ok (.iload 4, 2) := by decide +kernel
theorem dX5_hulls_72 : decode cX5_hulls 72 = .ok (.aload_n 0, 1) := by decide +kernel
theorem dX5_hulls_73 : decode cX5_hulls 73 = .ok (.getfield 86, 3) := by decide +kernel
theorem dX5_hulls_76 : decode cX5_hulls 76 = .ok (.iload 4, 2) := by decide +kernel
theorem dX5_hulls_78 : decode cX5_hulls 78 = .ok (.iaload, 1) := by decide +kernel
theorem dX5_hulls_79 : decode cX5_hulls 79 = .ok (.iload 5, 2) := by decide +kernel
theorem dX5_hulls_81 : decode cX5_hulls 81 = .ok (.invokevirtual 194, 3) := by decide +kernel
theorem dX5_hulls_84 : decode cX5_hulls 84 = .ok (.i2l, 1) := by decide +kernel
theorem dX5_hulls_85 : decode cX5_hulls 85 = .ok (.invokevirtual 201, 3) := by decide +kernel
theorem dX5_hulls_88 : decode cX5_hulls 88 = .ok (.iinc 5 1, 3) := by decide +kernel
theorem dX5_hulls_91 : decode cX5_hulls 91 = .ok (.goto (-40), 3) := by decide +kernel
theorem dX5_hulls_94 : decode cX5_hulls 94 = .ok (.iload_n 3, 1) := by decide +kernel
theorem dX5_hulls_95 : decode cX5_hulls 95 = .ok (.aload_n 0, 1) := by decide +kernel
theorem dX5_hulls_96 : decode cX5_hulls 96 = .ok (.invokevirtual 205, 3) := by decide +kernel
theorem dX5_hulls_99 : decode cX5_hulls 99 = .ok (.ifCond .eq 7, 3) := by decide +kernel
theorem dX5_hulls_102 : decode cX5_hulls 102 = .ok (.iconst 1, 1) := by decide +kernel
theorem dX5_hulls_103 : decode cX5_hulls 103 = .ok (.goto 4, 3) := by decide +kernel
theorem dX5_hulls_106 : decode cX5_hulls 106 = .ok (.iconst 0, 1) := by decide +kernel
theorem dX5_hulls_107 : decode cX5_hulls 107 = .ok (.iadd, 1) := by decide +kernel
theorem dX5_hulls_108 : decode cX5_hulls 108 = .ok (.istore_n 3, 1) := by decide +kernel
theorem dX5_hulls_109 : decode cX5_hulls 109 = .ok (.iinc 4 1, 3) := by decide +kernel
theorem dX5_hulls_112 : decode cX5_hulls 112 = .ok (.goto (-101), 3) := by decide +kernel
theorem dX5_hulls_115 : decode cX5_hulls 115 = .ok (.iload_n 3, 1) := by decide +kernel
theorem dX5_hulls_116 : decode cX5_hulls 116 = .ok (.ireturn, 1) := by decide +kernel
theorem dX5_choose_0 : decode cX5_choose 0 = .ok (.iconst 2, 1) := by decide +kernel
theorem dX5_choose_1 : decode cX5_choose 1 = .ok (.iload_n 1, 1) := by decide +kernel
theorem dX5_choose_2 : decode cX5_choose 2 = .ok (.imul, 1) := by decide +kernel
theorem dX5_choose_3 : decode cX5_choose 3 = .ok (.iload_n 2, 1) := by decide +kernel
theorem dX5_choose_4 : decode cX5_choose 4 = .ok (.iadd, 1) := by decide +kernel
theorem dX5_choose_5 : decode cX5_choose 5 = .ok (.istore_n 3, 1) := by decide +kernel
theorem dX5_choose_6 : decode cX5_choose 6 = .ok (.sipush (-9005), 3) := by decide +kernel
theorem dX5_choose_9 : decode cX5_choose 9 = .ok (.istore 4, 2) := by decide +kernel
theorem dX5_choose_11 : decode cX5_choose 11 = .ok (.iconst 0, 1) := by decide +kernel
theorem dX5_choose_12 : decode cX5_choose 12 = .ok (.istore 5, 2) := by decide +kernel
theorem dX5_choose_14 : decode cX5_choose 14 = .ok (.iload 5, 2) := by decide +kernel
theorem dX5_choose_16 : decode cX5_choose 16 = .ok (.aload_n 0, 1) := by decide +kernel
theorem dX5_choose_17 : decode cX5_choose 17 = .ok (.iload_n 3, 1) := by decide +kernel
theorem dX5_choose_18 : decode cX5_choose 18 = .ok (.invokevirtual 212, 3) := by decide +kernel
theorem dX5_choose_21 : decode cX5_choose 21 = .ok (.if_icmp .ge 66, 3) := by decide +kernel
theorem dX5_choose_24 : decode cX5_choose 24 = .ok (.iload 4, 2) := by decide +kernel
theorem dX5_choose_26 : decode cX5_choose 26 = .ok (.sipush (-9005), 3) := by decide +kernel
theorem dX5_choose_29 : decode cX5_choose 29 = .ok (.if_icmp .eq 16, 3) := by decide +kernel
theorem dX5_choose_32 : decode cX5_choose 32 = .ok (.iload 5, 2) := by decide +kernel
theorem dX5_choose_34 : decode cX5_choose 34 = .ok (.invokestatic 215, 3) := by decide +kernel
theorem dX5_choose_37 : decode cX5_choose 37 = .ok (.iload 4, 2) := by decide +kernel
theorem dX5_choose_39 : decode cX5_choose 39 = .ok (.invokestatic 215, 3) := by decide +kernel
theorem dX5_choose_42 : decode cX5_choose 42 = .ok (.if_icmp .ge 7, 3) := by decide +kernel
theorem dX5_choose_45 : decode cX5_choose 45 = .ok (.iconst 1, 1) := by decide +kernel
theorem dX5_choose_46 : decode cX5_choose 46 = .ok (.goto 4, 3) := by decide +kernel
theorem dX5_choose_49 : decode cX5_choose 49 = .ok (.iconst 0, 1) := by decide +kernel
theorem dX5_choose_50 : decode cX5_choose 50 = .ok (.istore 6, 2) := by decide +kernel
theorem dX5_choose_52 : decode cX5_choose 52 = .ok (.iload 6, 2) := by decide +kernel
theorem dX5_choose_54 : decode cX5_choose 54 = .ok (.ifCond .eq 27, 3) := by decide +kernel
theorem dX5_choose_57 : decode cX5_choose 57 = .ok (.aload_n 0, 1) := by decide +kernel
theorem dX5_choose_58 : decode cX5_choose 58 = .ok (.iload_n 3, 1) := by decide +kernel
theorem dX5_choose_59 : decode cX5_choose 59 = .ok (.iload 5, 2) := by decide +kernel
theorem dX5_choose_61 : decode cX5_choose 61 = .ok (.invokevirtual 218, 3) := by decide +kernel
theorem dX5_choose_64 : decode cX5_choose 64 = .ok (.ifCond .ne 17, 3) := by decide +kernel
theorem dX5_choose_67 : decode cX5_choose 67 = .ok (.aload_n 0, 1) := by decide +kernel
theorem dX5_choose_68 : decode cX5_choose 68 = .ok (.iload_n 3, 1) := by decide +kernel
theorem dX5_choose_69 : decode cX5_choose 69 = .ok (.iload 5, 2) := by decide +kernel
theorem dX5_choose_71 : decode cX5_choose 71 = .ok (.invokevirtual 221, 3) := by decide +kernel
theorem dX5_choose_74 : decode cX5_choose 74 = .ok (.ifCond .ne 7, 3) := by decide +kernel
theorem dX5_choose_77 : decode cX5_choose 77 = .ok (.iload 5, 2) := by decide +kernel
theorem dX5_choose_79 : decode cX5_choose 79 = .ok (.istore 4, 2) := by decide +kernel
theorem dX5_choose_81 : decode cX5_choose 81 = .ok (.iinc 5 1, 3) := by decide +kernel
theorem dX5_choose_84 : decode cX5_choose 84 = .ok (.goto (-70), 3) := by decide +kernel
theorem dX5_choose_87 : decode cX5_choose 87 = .ok (.aload_n 0, 1) := by decide +kernel
theorem dX5_choose_88 : decode cX5_choose 88 = .ok (.getfield 89, 3) := by decide +kernel
theorem dX5_choose_91 : decode cX5_choose 91 = .ok (.iload_n 3, 1) := by decide +kernel
theorem dX5_choose_92 : decode cX5_choose 92 = .ok (.iload 4, 2) := by decide +kernel
theorem dX5_choose_94 : decode cX5_choose 94 = .ok (.sipush (-9005), 3) := by decide +kernel
theorem dX5_choose_97 : decode cX5_choose 97 = .ok (.if_icmp .ne 7, 3) := by decide +kernel
theorem dX5_choose_100 : decode cX5_choose 100 = .ok (.iconst 1, 1) := by decide +kernel
theorem dX5_choose_101 : decode cX5_choose 101 = .ok (.goto 4, 3) := by decide +kernel
theorem dX5_choose_104 : decode cX5_choose 104 = .ok (.iconst 0, 1) := by decide +kernel
theorem dX5_choose_105 : decode cX5_choose 105 = .ok (.iastore, 1) := by decide +kernel
theorem dX5_choose_106 : decode cX5_choose 106 = .ok (.aload_n 0, 1) := by decide +kernel
theorem dX5_choose_107 : decode cX5_choose 107 = .ok (.getfield 86, 3) := by decide +kernel
theorem dX5_choose_110 : decode cX5_choose 110 = .ok (.iload_n 3, 1) := by decide +kernel
theorem dX5_choose_111 : decode cX5_choose 111 = .ok (.iload 4, 2) := by decide +kernel
theorem dX5_choose_113 : decode cX5_choose 113 = .ok (.sipush (-9005), 3) := by decide +kernel
theorem dX5_choose_116 : decode cX5_choose 116 = .ok (.if_icmp .ne 13, 3) := by decide +kernel
theorem dX5_choose_119 : decode cX5_choose 119 = .ok (.aload_n 0, 1) := by decide +kernel
theorem dX5_choose_120 : decode cX5_choose 120 = .ok (.iload_n 3, 1) := by decide +kernel
theorem dX5_choose_121 : decode cX5_choose 121 = .ok (.invokevirtual 212, 3) := by decide +kernel
theorem dX5_choose_124 : decode cX5_choose 124 = .ok (.iconst 1, 1) := by decide +kernel
theorem dX5_choose_125 : decode cX5_choose 125 = .ok (.isub, 1) := by decide +kernel
theorem dX5_choose_126 : decode cX5_choose 126 = .ok (.goto 5, 3) := by decide +kernel
theorem dX5_choose_129 : decode cX5_choose 129 = .ok (.iload 4, 2) := by decide +kernel
theorem dX5_choose_131 : decode cX5_choose 131 = .ok (.iastore, 1) := by decide +kernel
theorem dX5_choose_132 : decode cX5_choose 132 = .ok (.return_, 1) := by decide +kernel
theorem dX5_again_0 : decode cX5_again 0 = .ok (.iconst 0, 1) := by decide +kernel
theorem dX5_again_1 : decode cX5_again 1 = .ok (.istore_n 1, 1) := by decide +kernel
theorem dX5_again_2 : decode cX5_again 2 = .ok (.iconst 0, 1) := by decide +kernel
theorem dX5_again_3 : decode cX5_again 3 = .ok (.istore_n 2, 1) := by decide +kernel
theorem dX5_again_4 : decode cX5_again 4 = .ok (.iload_n 2, 1) := by decide +kernel
theorem dX5_again_5 : decode cX5_again 5 = .ok (.aload_n 0, 1) := by decide +kernel
theorem dX5_again_6 : decode cX5_again 6 = .ok (.getfield 136, 3) := by decide +kernel
theorem dX5_again_9 : decode cX5_again 9 = .ok (.if_icmp .ge 68, 3) := by decide +kernel
theorem dX5_again_12 : decode cX5_again 12 = .ok (.iconst 0, 1) := by decide +kernel
theorem dX5_again_13 : decode cX5_again 13 = .ok (.istore_n 3, 1) := by decide +kernel
theorem dX5_again_14 : decode cX5_again 14 = .ok (.iload_n 3, 1) := by decide +kernel
theorem dX5_again_15 : decode cX5_again 15 = .ok (.aload_n 0, 1) := by decide +kernel
theorem dX5_again_16 : decode cX5_again 16 = .ok (.getfield 68, 3) := by decide +kernel
theorem dX5_again_19 : decode cX5_again 19 = .ok (.iload_n 2, 1) := by decide +kernel
theorem dX5_again_20 : decode cX5_again 20 = .ok (.iaload, 1) := by decide +kernel
theorem dX5_again_21 : decode cX5_again 21 = .ok (.if_icmp .ge 50, 3) := by decide +kernel
theorem dX5_again_24 : decode cX5_again 24 = .ok (.aload_n 0, 1) := by decide +kernel
theorem dX5_again_25 : decode cX5_again 25 = .ok (.getfield 86, 3) := by decide +kernel
theorem dX5_again_28 : decode cX5_again 28 = .ok (.iconst 2, 1) := by decide +kernel
theorem dX5_again_29 : decode cX5_again 29 = .ok (.iload_n 2, 1) := by decide +kernel
theorem dX5_again_30 : decode cX5_again 30 = .ok (.imul, 1) := by decide +kernel
theorem dX5_again_31 : decode cX5_again 31 = .ok (.iload_n 3, 1) := by decide +kernel
theorem dX5_again_32 : decode cX5_again 32 = .ok (.iadd, 1) := by decide +kernel
theorem dX5_again_33 : decode cX5_again 33 = .ok (.iaload, 1) := by decide +kernel
theorem dX5_again_34 : decode cX5_again 34 = .ok (.istore 4, 2) := by decide +kernel
theorem dX5_again_36 : decode cX5_again 36 = .ok (.aload_n 0, 1) := by decide +kernel
theorem dX5_again_37 : decode cX5_again 37 = .ok (.iload_n 2, 1) := by decide +kernel
theorem dX5_again_38 : decode cX5_again 38 = .ok (.iload_n 3, 1) := by decide +kernel
theorem dX5_again_39 : decode cX5_again 39 = .ok (.invokevirtual 143, 3) := by decide +kernel
theorem dX5_again_42 : decode cX5_again 42 = .ok (.iload_n 1, 1) := by decide +kernel
theorem dX5_again_43 : decode cX5_again 43 = .ok (.aload_n 0, 1) := by decide +kernel
theorem dX5_again_44 : decode cX5_again 44 = .ok (.getfield 86, 3) := by decide +kernel
theorem dX5_again_47 : decode cX5_again 47 = .ok (.iconst 2, 1) := by decide +kernel
theorem dX5_again_48 : decode cX5_again 48 = .ok (.iload_n 2, 1) := by decide +kernel
theorem dX5_again_49 : decode cX5_again 49 = .ok (.imul, 1) := by decide +kernel
theorem dX5_again_50 : decode cX5_again 50 = .ok (.iload_n 3, 1) := by decide +kernel
theorem dX5_again_51 : decode cX5_again 51 = .ok (.iadd, 1) := by decide +kernel
theorem dX5_again_52 : decode cX5_again 52 = .ok (.iaload, 1) := by decide +kernel
theorem dX5_again_53 : decode cX5_again 53 = .ok (.iload 4, 2) := by decide +kernel
theorem dX5_again_55 : decode cX5_again 55 = .ok (.if_icmp .ne 7, 3) := by decide +kernel
theorem dX5_again_58 : decode cX5_again 58 = .ok (.iconst 0, 1) := by decide +kernel
theorem dX5_again_59 : decode cX5_again 59 = .ok (.goto 4, 3) := by decide +kernel
theorem dX5_again_62 : decode cX5_again 62 = .ok (.iconst 1, 1) := by decide +kernel
theorem dX5_again_63 : decode cX5_again 63 = .ok (.iadd, 1) := by decide +kernel
theorem dX5_again_64 : decode cX5_again 64 = .ok (.istore_n 1, 1) := by decide +kernel
theorem dX5_again_65 : decode cX5_again 65 = .ok (.iinc 3 1, 3) := by decide +kernel
theorem dX5_again_68 : decode cX5_again 68 = .ok (.goto (-54), 3) := by decide +kernel
theorem dX5_again_71 : decode cX5_again 71 = .ok (.iinc 2 1, 3) := by decide +kernel
theorem dX5_again_74 : decode cX5_again 74 = .ok (.goto (-70), 3) := by decide +kernel
theorem dX5_again_77 : decode cX5_again 77 = .ok (.iload_n 1, 1) := by decide +kernel
theorem dX5_again_78 : decode cX5_again 78 = .ok (.ireturn, 1) := by decide +kernel
theorem dX5_isCurve_0 : decode cX5_isCurve 0 = .ok (.iload_n 1, 1) := by decide +kernel
theorem dX5_isCurve_1 : decode cX5_isCurve 1 = .ok (.iconst 0, 1) := by decide +kernel
theorem dX5_isCurve_2 : decode cX5_isCurve 2 = .ok (.aload_n 0, 1) := by decide +kernel
theorem dX5_isCurve_3 : decode cX5_isCurve 3 = .ok (.getfield 136, 3) := by decide +kernel
theorem dX5_isCurve_6 : decode cX5_isCurve 6 = .ok (.iconst 1, 1) := by decide +kernel
theorem dX5_isCurve_7 : decode cX5_isCurve 7 = .ok (.isub, 1) := by decide +kernel
theorem dX5_isCurve_8 : decode cX5_isCurve 8 = .ok (.invokestatic 109, 3) := by decide +kernel
theorem dX5_isCurve_11 : decode cX5_isCurve 11 = .ok (.ireturn, 1) := by decide +kernel
theorem dX5_isPart_0 : decode cX5_isPart 0 = .ok (.aload_n 0, 1) := by decide +kernel
theorem dX5_isPart_1 : decode cX5_isPart 1 = .ok (.iload_n 1, 1) := by decide +kernel
theorem dX5_isPart_2 : decode cX5_isPart 2 = .ok (.invokevirtual 224, 3) := by decide +kernel
theorem dX5_isPart_5 : decode cX5_isPart 5 = .ok (.ifCond .eq 23, 3) := by decide +kernel
theorem dX5_isPart_8 : decode cX5_isPart 8 = .ok (.iload_n 2, 1) := by decide +kernel
theorem dX5_isPart_9 : decode cX5_isPart 9 = .ok (.iconst 0, 1) := by decide +kernel
theorem dX5_isPart_10 : decode cX5_isPart 10 = .ok (.aload_n 0, 1) := by decide +kernel
theorem dX5_isPart_11 : decode cX5_isPart 11 = .ok (.getfield 68, 3) := by decide +kernel
theorem dX5_isPart_14 : decode cX5_isPart 14 = .ok (.iload_n 1, 1) := by decide +kernel
theorem dX5_isPart_15 : decode cX5_isPart 15 = .ok (.iaload, 1) := by decide +kernel
theorem dX5_isPart_16 : decode cX5_isPart 16 = .ok (.iconst 1, 1) := by decide +kernel
theorem dX5_isPart_17 : decode cX5_isPart 17 = .ok (.isub, 1) := by decide +kernel
theorem dX5_isPart_18 : decode cX5_isPart 18 = .ok (.invokestatic 109, 3) := by decide +kernel
theorem dX5_isPart_21 : decode cX5_isPart 21 = .ok (.ifCond .eq 7, 3) := by decide +kernel
theorem dX5_isPart_24 : decode cX5_isPart 24 = .ok (.iconst 1, 1) := by decide +kernel
theorem dX5_isPart_25 : decode cX5_isPart 25 = .ok (.goto 4, 3) := by decide +kernel
theorem dX5_isPart_28 : decode cX5_isPart 28 = .ok (.iconst 0, 1) := by decide +kernel
theorem dX5_isPart_29 : decode cX5_isPart 29 = .ok (.ireturn, 1) := by decide +kernel
theorem dX5_curve_0 : decode cX5_curve 0 = .ok (.aload_n 0, 1) := by decide +kernel
theorem dX5_curve_1 : decode cX5_curve 1 = .ok (.iload_n 1, 1) := by decide +kernel
theorem dX5_curve_2 : decode cX5_curve 2 = .ok (.invokevirtual 224, 3) := by decide +kernel
theorem dX5_curve_5 : decode cX5_curve 5 = .ok (.ifCond .ne 7, 3) := by decide +kernel
theorem dX5_curve_8 : decode cX5_curve 8 = .ok (.sipush (-9001), 3) := by decide +kernel
theorem dX5_curve_11 : decode cX5_curve 11 = .ok (.ireturn, 1) := by decide +kernel
theorem dX5_curve_12 : decode cX5_curve 12 = .ok (.iload_n 2, 1) := by decide +kernel
theorem dX5_curve_13 : decode cX5_curve 13 = .ok (.tableswitch 78 0 4 #[35, 42, 49, 56, 63], 35) := by decide +kernel
theorem dX5_curve_48 : decode cX5_curve 48 = .ok (.aload_n 0, 1) := by decide +kernel
theorem dX5_curve_49 : decode cX5_curve 49 = .ok (.getfield 56, 3) := by decide +kernel
theorem dX5_curve_52 : decode cX5_curve 52 = .ok (.iload_n 1, 1) := by decide +kernel
theorem dX5_curve_53 : decode cX5_curve 53 = .ok (.iaload, 1) := by decide +kernel
theorem dX5_curve_54 : decode cX5_curve 54 = .ok (.ireturn, 1) := by decide +kernel
theorem dX5_curve_55 : decode cX5_curve 55 = .ok (.aload_n 0, 1) := by decide +kernel
theorem dX5_curve_56 : decode cX5_curve 56 = .ok (.getfield 59, 3) := by decide +kernel
theorem dX5_curve_59 : decode cX5_curve 59 = .ok (.iload_n 1, 1) := by decide +kernel
theorem dX5_curve_60 : decode cX5_curve 60 = .ok (.iaload, 1) := by decide +kernel
theorem dX5_curve_61 : decode cX5_curve 61 = .ok (.ireturn, 1) := by decide +kernel
theorem dX5_curve_62 : decode cX5_curve 62 = .ok (.aload_n 0, 1) := by decide +kernel
theorem dX5_curve_63 : decode cX5_curve 63 = .ok (.getfield 65, 3) := by decide +kernel
theorem dX5_curve_66 : decode cX5_curve 66 = .ok (.iload_n 1, 1) := by decide +kernel
theorem dX5_curve_67 : decode cX5_curve 67 = .ok (.iaload, 1) := by decide +kernel
theorem dX5_curve_68 : decode cX5_curve 68 = .ok (.ireturn, 1) := by decide +kernel
theorem dX5_curve_69 : decode cX5_curve 69 = .ok (.aload_n 0, 1) := by decide +kernel
theorem dX5_curve_70 : decode cX5_curve 70 = .ok (.getfield 68, 3) := by decide +kernel
theorem dX5_curve_73 : decode cX5_curve 73 = .ok (.iload_n 1, 1) := by decide +kernel
theorem dX5_curve_74 : decode cX5_curve 74 = .ok (.iaload, 1) := by decide +kernel
theorem dX5_curve_75 : decode cX5_curve 75 = .ok (.ireturn, 1) := by decide +kernel
theorem dX5_curve_76 : decode cX5_curve 76 = .ok (.aload_n 0, 1) := by decide +kernel
theorem dX5_curve_77 : decode cX5_curve 77 = .ok (.getfield 62, 3) := by decide +kernel
theorem dX5_curve_80 : decode cX5_curve 80 = .ok (.iload_n 1, 1) := by decide +kernel
theorem dX5_curve_81 : decode cX5_curve 81 = .ok (.baload, 1) := by decide +kernel
theorem dX5_curve_82 : decode cX5_curve 82 = .ok (.ifCond .eq 7, 3) := by decide +kernel
theorem dX5_curve_85 : decode cX5_curve 85 = .ok (.iconst 1, 1) := by decide +kernel
theorem dX5_curve_86 : decode cX5_curve 86 = .ok (.goto 4, 3) := by decide +kernel
theorem dX5_curve_89 : decode cX5_curve 89 = .ok (.iconst 0, 1) := by decide +kernel
theorem dX5_curve_90 : decode cX5_curve 90 = .ok (.ireturn, 1) := by decide +kernel
theorem dX5_curve_91 : decode cX5_curve 91 = .ok (.sipush (-9002), 3) := by decide +kernel
theorem dX5_curve_94 : decode cX5_curve 94 = .ok (.ireturn, 1) := by decide +kernel
theorem dX5_part_0 : decode cX5_part 0 = .ok (.aload_n 0, 1) := by decide +kernel
theorem dX5_part_1 : decode cX5_part 1 = .ok (.iload_n 1, 1) := by decide +kernel
theorem dX5_part_2 : decode cX5_part 2 = .ok (.iload_n 2, 1) := by decide +kernel
theorem dX5_part_3 : decode cX5_part 3 = .ok (.invokevirtual 227, 3) := by decide +kernel
theorem dX5_part_6 : decode cX5_part 6 = .ok (.ifCond .ne 7, 3) := by decide +kernel
theorem dX5_part_9 : decode cX5_part 9 = .ok (.sipush (-9001), 3) := by decide +kernel
theorem dX5_part_12 : decode cX5_part 12 = .ok (.ireturn, 1) := by decide +kernel
theorem dX5_part_13 : decode cX5_part 13 = .ok (.iconst 2, 1) := by decide +kernel
theorem dX5_part_14 : decode cX5_part 14 = .ok (.iload_n 1, 1) := by decide +kernel
theorem dX5_part_15 : decode cX5_part 15 = .ok (.imul, 1) := by decide +kernel
theorem dX5_part_16 : decode cX5_part 16 = .ok (.iload_n 2, 1) := by decide +kernel
theorem dX5_part_17 : decode cX5_part 17 = .ok (.iadd, 1) := by decide +kernel
theorem dX5_part_18 : decode cX5_part 18 = .ok (.istore 4, 2) := by decide +kernel
theorem dX5_part_20 : decode cX5_part 20 = .ok (.iload_n 3, 1) := by decide +kernel
theorem dX5_part_21 : decode cX5_part 21 = .ok (.tableswitch 88 0 5 #[39, 47, 55, 66, 74, 81], 39) := by decide +kernel
theorem dX5_part_60 : decode cX5_part 60 = .ok (.aload_n 0, 1) := by decide +kernel
theorem dX5_part_61 : decode cX5_part 61 = .ok (.getfield 71, 3) := by decide +kernel
theorem dX5_part_64 : decode cX5_part 64 = .ok (.iload 4, 2) := by decide +kernel
theorem dX5_part_66 : decode cX5_part 66 = .ok (.iaload, 1) := by decide +kernel
theorem dX5_part_67 : decode cX5_part 67 = .ok (.ireturn, 1) := by decide +kernel
theorem dX5_part_68 : decode cX5_part 68 = .ok (.aload_n 0, 1) := by decide +kernel
theorem dX5_part_69 : decode cX5_part 69 = .ok (.getfield 86, 3) := by decide +kernel
theorem dX5_part_72 : decode cX5_part 72 = .ok (.iload 4, 2) := by decide +kernel
theorem dX5_part_74 : decode cX5_part 74 = .ok (.iaload, 1) := by decide +kernel
theorem dX5_part_75 : decode cX5_part 75 = .ok (.ireturn, 1) := by decide +kernel
theorem dX5_part_76 : decode cX5_part 76 = .ok (.aload_n 0, 1) := by decide +kernel
theorem dX5_part_77 : decode cX5_part 77 = .ok (.getfield 86, 3) := by decide +kernel
theorem dX5_part_80 : decode cX5_part 80 = .ok (.iload 4, 2) := by decide +kernel
theorem dX5_part_82 : decode cX5_part 82 = .ok (.iaload, 1) := by decide +kernel
theorem dX5_part_83 : decode cX5_part 83 = .ok (.invokestatic 215, 3) := by decide +kernel
theorem dX5_part_86 : decode cX5_part 86 = .ok (.ireturn, 1) := by decide +kernel
theorem dX5_part_87 : decode cX5_part 87 = .ok (.aload_n 0, 1) := by decide +kernel
theorem dX5_part_88 : decode cX5_part 88 = .ok (.getfield 89, 3) := by decide +kernel
theorem dX5_part_91 : decode cX5_part 91 = .ok (.iload 4, 2) := by decide +kernel
theorem dX5_part_93 : decode cX5_part 93 = .ok (.iaload, 1) := by decide +kernel
theorem dX5_part_94 : decode cX5_part 94 = .ok (.ireturn, 1) := by decide +kernel
theorem dX5_part_95 : decode cX5_part 95 = .ok (.aload_n 0, 1) := by decide +kernel
theorem dX5_part_96 : decode cX5_part 96 = .ok (.iload 4, 2) := by decide +kernel
theorem dX5_part_98 : decode cX5_part 98 = .ok (.invokevirtual 166, 3) := by decide +kernel
theorem dX5_part_101 : decode cX5_part 101 = .ok (.ireturn, 1) := by decide +kernel
theorem dX5_part_102 : decode cX5_part 102 = .ok (.aload_n 0, 1) := by decide +kernel
theorem dX5_part_103 : decode cX5_part 103 = .ok (.iload 4, 2) := by decide +kernel
theorem dX5_part_105 : decode cX5_part 105 = .ok (.invokevirtual 212, 3) := by decide +kernel
theorem dX5_part_108 : decode cX5_part 108 = .ok (.ireturn, 1) := by decide +kernel
theorem dX5_part_109 : decode cX5_part 109 = .ok (.sipush (-9002), 3) := by decide +kernel
theorem dX5_part_112 : decode cX5_part 112 = .ok (.ireturn, 1) := by decide +kernel
theorem dX5_point_0 : decode cX5_point 0 = .ok (.aload_n 0, 1) := by decide +kernel
theorem dX5_point_1 : decode cX5_point 1 = .ok (.iload_n 1, 1) := by decide +kernel
theorem dX5_point_2 : decode cX5_point 2 = .ok (.iload_n 2, 1) := by decide +kernel
theorem dX5_point_3 : decode cX5_point 3 = .ok (.invokevirtual 227, 3) := by decide +kernel
theorem dX5_point_6 : decode cX5_point 6 = .ok (.ifCond .ne 7, 3) := by decide +kernel
theorem dX5_point_9 : decode cX5_point 9 = .ok (.sipush (-9001), 3) := by decide +kernel
theorem dX5_point_12 : decode cX5_point 12 = .ok (.ireturn, 1) := by decide +kernel
theorem dX5_point_13 : decode cX5_point 13 = .ok (.iload_n 3, 1) := by decide +kernel
theorem dX5_point_14 : decode cX5_point 14 = .ok (.iconst 0, 1) := by decide +kernel
theorem dX5_point_15 : decode cX5_point 15 = .ok (.iconst 3, 1) := by decide +kernel
theorem dX5_point_16 : decode cX5_point 16 = .ok (.invokestatic 109, 3) := by decide +kernel
theorem dX5_point_19 : decode cX5_point 19 = .ok (.ifCond .eq 13, 3) := by decide +kernel
theorem dX5_point_22 : decode cX5_point 22 = .ok (.iload 4, 2) := by decide +kernel
theorem dX5_point_24 : decode cX5_point 24 = .ok (.iconst 0, 1) := by decide +kernel
theorem dX5_point_25 : decode cX5_point 25 = .ok (.iconst 1, 1) := by decide +kernel
theorem dX5_point_26 : decode cX5_point 26 = .ok (.invokestatic 109, 3) := by decide +kernel
theorem dX5_point_29 : decode cX5_point 29 = .ok (.ifCond .ne 7, 3) := by decide +kernel
theorem dX5_point_32 : decode cX5_point 32 = .ok (.sipush (-9002), 3) := by decide +kernel
theorem dX5_point_35 : decode cX5_point 35 = .ok (.ireturn, 1) := by decide +kernel
theorem dX5_point_36 : decode cX5_point 36 = .ok (.iconst 2, 1) := by decide +kernel
theorem dX5_point_37 : decode cX5_point 37 = .ok (.iload_n 1, 1) := by decide +kernel
theorem dX5_point_38 : decode cX5_point 38 = .ok (.imul, 1) := by decide +kernel
theorem dX5_point_39 : decode cX5_point 39 = .ok (.iload_n 2, 1) := by decide +kernel
theorem dX5_point_40 : decode cX5_point 40 = .ok (.iadd, 1) := by decide +kernel
theorem dX5_point_41 : decode cX5_point 41 = .ok (.istore 5, 2) := by decide +kernel
theorem dX5_point_43 : decode cX5_point 43 = .ok (.iload 4, 2) := by decide +kernel
theorem dX5_point_45 : decode cX5_point 45 = .ok (.ifCond .ne 13, 3) := by decide +kernel
theorem dX5_point_48 : decode cX5_point 48 = .ok (.aload_n 0, 1) := by decide +kernel
theorem dX5_point_49 : decode cX5_point 49 = .ok (.iload 5, 2) := by decide +kernel
theorem dX5_point_51 : decode cX5_point 51 = .ok (.iload_n 3, 1) := by decide +kernel
theorem dX5_point_52 : decode cX5_point 52 = .ok (.invokevirtual 191, 3) := by decide +kernel
theorem dX5_point_55 : decode cX5_point 55 = .ok (.goto 17, 3) := by decide +kernel
theorem dX5_point_58 : decode cX5_point 58 = .ok (.aload_n 0, 1) := by decide +kernel
theorem dX5_point_59 : decode cX5_point 59 = .ok (.iload 5, 2) := by decide +kernel
theorem dX5_point_61 : decode cX5_point 61 = .ok (.aload_n 0, 1) := by decide +kernel
theorem dX5_point_62 : decode cX5_point 62 = .ok (.getfield 86, 3) := by decide +kernel
theorem dX5_point_65 : decode cX5_point 65 = .ok (.iload 5, 2) := by decide +kernel
theorem dX5_point_67 : decode cX5_point 67 = .ok (.iaload, 1) := by decide +kernel
theorem dX5_point_68 : decode cX5_point 68 = .ok (.iload_n 3, 1) := by decide +kernel
theorem dX5_point_69 : decode cX5_point 69 = .ok (.invokevirtual 194, 3) := by decide +kernel
theorem dX5_point_72 : decode cX5_point 72 = .ok (.ireturn, 1) := by decide +kernel
theorem dX5_candidate_0 : decode cX5_candidate 0 = .ok (.aload_n 0, 1) := by decide +kernel
theorem dX5_candidate_1 : decode cX5_candidate 1 = .ok (.iload_n 1, 1) := by decide +kernel
theorem dX5_candidate_2 : decode cX5_candidate 2 = .ok (.iload_n 2, 1) := by decide +kernel
theorem dX5_candidate_3 : decode cX5_candidate 3 = .ok (.invokevirtual 227, 3) := by decide +kernel
theorem dX5_candidate_6 : decode cX5_candidate 6 = .ok (.ifCond .ne 7, 3) := by decide +kernel
theorem dX5_candidate_9 : decode cX5_candidate 9 = .ok (.sipush (-9001), 3) := by decide +kernel
theorem dX5_candidate_12 : decode cX5_candidate 12 = .ok (.ireturn, 1) := by decide +kernel
theorem dX5_candidate_13 : decode cX5_candidate 13 = .ok (.iconst 2, 1) := by decide +kernel
theorem dX5_candidate_14 : decode cX5_candidate 14 = .ok (.iload_n 1, 1) := by decide +kernel
theorem dX5_candidate_15 : decode cX5_candidate 15 = .ok (.imul, 1) := by decide +kernel
theorem dX5_candidate_16 : decode cX5_candidate 16 = .ok (.iload_n 2, 1) := by decide +kernel
theorem dX5_candidate_17 : decode cX5_candidate 17 = .ok (.iadd, 1) := by decide +kernel
theorem dX5_candidate_18 : decode cX5_candidate 18 = .ok (.istore 5, 2) := by decide +kernel
theorem dX5_candidate_20 : decode cX5_candidate 20 = .ok (.iload_n 3, 1) := by decide +kernel
theorem dX5_candidate_21 : decode cX5_candidate 21 = .ok (.iconst 0, 1) := by decide +kernel
theorem dX5_candidate_22 : decode cX5_candidate 22 = .ok (.aload_n 0, 1) := by decide +kernel
theorem dX5_candidate_23 : decode cX5_candidate 23 = .ok (.iload 5, 2) := by decide +kernel
theorem dX5_candidate_25 : decode cX5_candidate 25 = .ok (.invokevirtual 212, 3) := by decide +kernel
theorem dX5_candidate_28 : decode cX5_candidate 28 = .ok (.iconst 1, 1) := by decide +kernel
theorem dX5_candidate_29 : decode cX5_candidate 29 = .ok (.isub, 1) := by decide +kernel
theorem dX5_candidate_30 : decode cX5_candidate 30 = .ok (.invokestatic 109, 3) := by decide +kernel
theorem dX5_candidate_33 : decode cX5_candidate 33 = .ok (.ifCond .eq 13, 3) := by decide +kernel
theorem dX5_candidate_36 : decode cX5_candidate 36 = .ok (.iload 4, 2) := by decide +kernel
theorem dX5_candidate_38 : decode cX5_candidate 38 = .ok (.iconst 0, 1) := by decide +kernel
theorem dX5_candidate_39 : decode cX5_candidate 39 = .ok (.iconst 2, 1) := by decide +kernel
theorem dX5_candidate_40 : decode cX5_candidate 40 = .ok (.invokestatic 109, 3) := by decide +kernel
theorem dX5_candidate_43 : decode cX5_candidate 43 = .ok (.ifCond .ne 7, 3) := by decide +kernel
theorem dX5_candidate_46 : decode cX5_candidate 46 = .ok (.sipush (-9002), 3) := by decide +kernel
theorem dX5_candidate_49 : decode cX5_candidate 49 = .ok (.ireturn, 1) := by decide +kernel
theorem dX5_candidate_50 : decode cX5_candidate 50 = .ok (.iload 4, 2) := by decide +kernel
theorem dX5_candidate_52 : decode cX5_candidate 52 = .ok (.ifCond .ne 13, 3) := by decide +kernel
theorem dX5_candidate_55 : decode cX5_candidate 55 = .ok (.aload_n 0, 1) := by decide +kernel
theorem dX5_candidate_56 : decode cX5_candidate 56 = .ok (.iload 5, 2) := by decide +kernel
theorem dX5_candidate_58 : decode cX5_candidate 58 = .ok (.iload_n 3, 1) := by decide +kernel
theorem dX5_candidate_59 : decode cX5_candidate 59 = .ok (.invokevirtual 218, 3) := by decide +kernel
theorem dX5_candidate_62 : decode cX5_candidate 62 = .ok (.goto 23, 3) := by decide +kernel
theorem dX5_candidate_65 : decode cX5_candidate 65 = .ok (.iload 4, 2) := by decide +kernel
theorem dX5_candidate_67 : decode cX5_candidate 67 = .ok (.iconst 1, 1) := by decide +kernel
theorem dX5_candidate_68 : decode cX5_candidate 68 = .ok (.if_icmp .ne 13, 3) := by decide +kernel
theorem dX5_candidate_71 : decode cX5_candidate 71 = .ok (.aload_n 0, 1) := by decide +kernel
theorem dX5_candidate_72 : decode cX5_candidate 72 = .ok (.iload 5, 2) := by decide +kernel
theorem dX5_candidate_74 : decode cX5_candidate 74 = .ok (.iload_n 3, 1) := by decide +kernel
theorem dX5_candidate_75 : decode cX5_candidate 75 = .ok (.invokevirtual 221, 3) := by decide +kernel
theorem dX5_candidate_78 : decode cX5_candidate 78 = .ok (.goto 7, 3) := by decide +kernel
theorem dX5_candidate_81 : decode cX5_candidate 81 = .ok (.iload_n 3, 1) := by decide +kernel
theorem dX5_candidate_82 : decode cX5_candidate 82 = .ok (.invokestatic 215, 3) := by decide +kernel
theorem dX5_candidate_85 : decode cX5_candidate 85 = .ok (.ireturn, 1) := by decide +kernel
theorem dX5_along_0 : decode cX5_along 0 = .ok (.aload_n 0, 1) := by decide +kernel
theorem dX5_along_1 : decode cX5_along 1 = .ok (.iload_n 1, 1) := by decide +kernel
theorem dX5_along_2 : decode cX5_along 2 = .ok (.iload_n 2, 1) := by decide +kernel
theorem dX5_along_3 : decode cX5_along 3 = .ok (.invokevirtual 227, 3) := by decide +kernel
theorem dX5_along_6 : decode cX5_along 6 = .ok (.ifCond .ne 7, 3) := by decide +kernel
theorem dX5_along_9 : decode cX5_along 9 = .ok (.ldc2_w 230, 3) := by decide +kernel
theorem dX5_along_12 : decode cX5_along 12 = .ok (.lreturn, 1) := by decide +kernel
theorem dX5_along_13 : decode cX5_along 13 = .ok (.iload_n 3, 1) := by decide +kernel
theorem dX5_along_14 : decode cX5_along 14 = .ok (.iconst 0, 1) := by decide +kernel
theorem dX5_along_15 : decode cX5_along 15 = .ok (.bipush 64, 2) := by decide +kernel
theorem dX5_along_17 : decode cX5_along 17 = .ok (.invokestatic 109, 3) := by decide +kernel
theorem dX5_along_20 : decode cX5_along 20 = .ok (.ifCond .eq 13, 3) := by decide +kernel
theorem dX5_along_23 : decode cX5_along 23 = .ok (.iload 4, 2) := by decide +kernel
theorem dX5_along_25 : decode cX5_along 25 = .ok (.iconst 0, 1) := by decide +kernel
theorem dX5_along_26 : decode cX5_along 26 = .ok (.iconst 1, 1) := by decide +kernel
theorem dX5_along_27 : decode cX5_along 27 = .ok (.invokestatic 109, 3) := by decide +kernel
theorem dX5_along_30 : decode cX5_along 30 = .ok (.ifCond .ne 7, 3) := by decide +kernel
theorem dX5_along_33 : decode cX5_along 33 = .ok (.ldc2_w 232, 3) := by decide +kernel
theorem dX5_along_36 : decode cX5_along 36 = .ok (.lreturn, 1) := by decide +kernel
theorem dX5_along_37 : decode cX5_along 37 = .ok (.iconst 2, 1) := by decide +kernel
theorem dX5_along_38 : decode cX5_along 38 = .ok (.iload_n 1, 1) := by decide +kernel
theorem dX5_along_39 : decode cX5_along 39 = .ok (.imul, 1) := by decide +kernel
theorem dX5_along_40 : decode cX5_along 40 = .ok (.iload_n 2, 1) := by decide +kernel
theorem dX5_along_41 : decode cX5_along 41 = .ok (.iadd, 1) := by decide +kernel
theorem dX5_along_42 : decode cX5_along 42 = .ok (.istore 5, 2) := by decide +kernel
theorem dX5_along_44 : decode cX5_along 44 = .ok (.bipush 64, 2) := by decide +kernel
theorem dX5_along_46 : decode cX5_along 46 = .ok (.iload_n 3, 1) := by decide +kernel
theorem dX5_along_47 : decode cX5_along 47 = .ok (.isub, 1) := by decide +kernel
theorem dX5_along_48 : decode cX5_along 48 = .ok (.i2l, 1) := by decide +kernel
theorem dX5_along_49 : decode cX5_along 49 = .ok (.lstore 6, 2) := by decide +kernel
theorem dX5_along_51 : decode cX5_along 51 = .ok (.lconst 0, 1) := by decide +kernel
theorem dX5_along_52 : decode cX5_along 52 = .ok (.lstore 8, 2) := by decide +kernel
theorem dX5_along_54 : decode cX5_along 54 = .ok (.iconst 0, 1) := by decide +kernel
theorem dX5_along_55 : decode cX5_along 55 = .ok (.istore 10, 2) := by decide +kernel
theorem dX5_along_57 : decode cX5_along 57 = .ok (.iload 10, 2) := by decide +kernel
theorem dX5_along_59 : decode cX5_along 59 = .ok (.iconst 4, 1) := by decide +kernel
theorem dX5_along_60 : decode cX5_along 60 = .ok (.if_icmp .ge 117, 3) := by decide +kernel
theorem dX5_along_63 : decode cX5_along 63 = .ok (.iload 10, 2) := by decide +kernel
theorem dX5_along_65 : decode cX5_along 65 = .ok (.ifCond .ne 14, 3) := by decide +kernel
theorem dX5_along_68 : decode cX5_along 68 = .ok (.lload 6, 2) := by decide +kernel
theorem dX5_along_70 : decode cX5_along 70 = .ok (.lload 6, 2) := by decide +kernel
theorem dX5_along_72 : decode cX5_along 72 = .ok (.lmul, 1) := by decide +kernel
theorem dX5_along_73 : decode cX5_along 73 = .ok (.lload 6, 2) := by decide +kernel
theorem dX5_along_75 : decode cX5_along 75 = .ok (.lmul, 1) := by decide +kernel
theorem dX5_along_76 : decode cX5_along 76 = .ok (.goto 53, 3) := by decide +kernel
theorem dX5_along_79 : decode cX5_along 79 = .ok (.iload 10, 2) := by decide +kernel
theorem dX5_along_81 : decode cX5_along 81 = .ok (.iconst 1, 1) := by decide +kernel
theorem dX5_along_82 : decode cX5_along 82 = .ok (.if_icmp .ne 18, 3) := by decide +kernel
theorem dX5_along_85 : decode cX5_along 85 = .ok (.ldc2_w 234, 3) := by decide +kernel
theorem dX5_along_88 : decode cX5_along 88 = .ok (.lload 6, 2) := by decide +kernel
theorem dX5_along_90 : decode cX5_along 90 = .ok (.lmul, 1) := by decide +kernel
theorem dX5_along_91 : decode cX5_along 91 = .ok (.lload 6, 2) := by decide +kernel
theorem dX5_along_93 : decode cX5_along 93 = .ok (.lmul, 1) := by decide +kernel
theorem dX5_along_94 : decode cX5_along 94 = .ok (.iload_n 3, 1) := by decide +kernel
theorem dX5_along_95 : decode cX5_along 95 = .ok (.i2l, 1) := by decide +kernel
theorem dX5_along_96 : decode cX5_along 96 = .ok (.lmul, 1) := by decide +kernel
theorem dX5_along_97 : decode cX5_along 97 = .ok (.goto 32, 3) := by decide +kernel
theorem dX5_along_100 : decode cX5_along 100 = .ok (.iload 10, 2) := by decide +kernel
theorem dX5_along_102 : decode cX5_along 102 = .ok (.iconst 2, 1) := by decide +kernel
theorem dX5_along_103 : decode cX5_along 103 = .ok (.if_icmp .ne 18, 3) := by decide +kernel
theorem dX5_along_106 : decode cX5_along 106 = .ok (.ldc2_w 234, 3) := by decide +kernel
theorem dX5_along_109 : decode cX5_along 109 = .ok (.lload 6, 2) := by decide +kernel
theorem dX5_along_111 : decode cX5_along 111 = .ok (.lmul, 1) := by decide +kernel
theorem dX5_along_112 : decode cX5_along 112 = .ok (.iload_n 3, 1) := by decide +kernel
theorem dX5_along_113 : decode cX5_along 113 = .ok (.i2l, 1) := by decide +kernel
theorem dX5_along_114 : decode cX5_along 114 = .ok (.lmul, 1) := by decide +kernel
theorem dX5_along_115 : decode cX5_along 115 = .ok (.iload_n 3, 1) := by decide +kernel
theorem dX5_along_116 : decode cX5_along 116 = .ok (.i2l, 1) := by decide +kernel
theorem dX5_along_117 : decode cX5_along 117 = .ok (.lmul, 1) := by decide +kernel
theorem dX5_along_118 : decode cX5_along 118 = .ok (.goto 11, 3) := by decide +kernel
theorem dX5_along_121 : decode cX5_along 121 = .ok (.iload_n 3, 1) := by decide +kernel
theorem dX5_along_122 : decode cX5_along 122 = .ok (.i2l, 1) := by decide +kernel
theorem dX5_along_123 : decode cX5_along 123 = .ok (.iload_n 3, 1) := by decide +kernel
theorem dX5_along_124 : decode cX5_along 124 = .ok (.i2l, 1) := by decide +kernel
theorem dX5_along_125 : decode cX5_along 125 = .ok (.lmul, 1) := by decide +kernel
theorem dX5_along_126 : decode cX5_along 126 = .ok (.iload_n 3, 1) := by decide +kernel
theorem dX5_along_127 : decode cX5_along 127 = .ok (.i2l, 1) := by decide +kernel
theorem dX5_along_128 : decode cX5_along 128 = .ok (.lmul, 1) := by decide +kernel
theorem dX5_along_129 : decode cX5_along 129 = .ok (.lstore 11, 2) := by decide +kernel
theorem dX5_along_131 : decode cX5_along 131 = .ok (.lload 8, 2) := by decide +kernel
theorem dX5_along_133 : decode cX5_along 133 = .ok (.lload 11, 2) := by decide +kernel
theorem dX5_along_135 : decode cX5_along 135 = .ok (.iload 4, 2) := by decide +kernel
theorem dX5_along_137 : decode cX5_along 137 = .ok (.ifCond .ne 14, 3) := by decide +kernel
theorem dX5_along_140 : decode cX5_along 140 = .ok (.aload_n 0, 1) := by decide +kernel
theorem dX5_along_141 : decode cX5_along 141 = .ok (.iload 5, 2) := by decide +kernel
theorem dX5_along_143 : decode cX5_along 143 = .ok (.iload 10, 2) := by decide +kernel
theorem dX5_along_145 : decode cX5_along 145 = .ok (.invokevirtual 191, 3) := by decide +kernel
theorem dX5_along_148 : decode cX5_along 148 = .ok (.goto 18, 3) := by decide +kernel
theorem dX5_along_151 : decode cX5_along 151 = .ok (.aload_n 0, 1) := by decide +kernel
theorem dX5_along_152 : decode cX5_along 152 = .ok (.iload 5, 2) := by decide +kernel
theorem dX5_along_154 : decode cX5_along 154 = .ok (.aload_n 0, 1) := by decide +kernel
theorem dX5_along_155 : decode cX5_along 155 = .ok (.getfield 86, 3) := by decide +kernel
theorem dX5_along_158 : decode cX5_along 158 = .ok (.iload 5, 2) := by decide +kernel
theorem dX5_along_160 : decode cX5_along 160 = .ok (.iaload, 1) := by decide +kernel
theorem dX5_along_161 : decode cX5_along 161 = .ok (.iload 10, 2) := by decide +kernel
theorem dX5_along_163 : decode cX5_along 163 = .ok (.invokevirtual 194, 3) := by decide +kernel
theorem dX5_along_166 : decode cX5_along 166 = .ok (.i2l, 1) := by decide +kernel
theorem dX5_along_167 : decode cX5_along 167 = .ok (.lmul, 1) := by decide +kernel
theorem dX5_along_168 : decode cX5_along 168 = .ok (.ladd, 1) := by decide +kernel
theorem dX5_along_169 : decode cX5_along 169 = .ok (.lstore 8, 2) := by decide +kernel
theorem dX5_along_171 : decode cX5_along 171 = .ok (.iinc 10 1, 3) := by decide +kernel
theorem dX5_along_174 : decode cX5_along 174 = .ok (.goto (-117), 3) := by decide +kernel
theorem dX5_along_177 : decode cX5_along 177 = .ok (.lload 8, 2) := by decide +kernel
theorem dX5_along_179 : decode cX5_along 179 = .ok (.lreturn, 1) := by decide +kernel
theorem dX5_within_0 : decode cX5_within 0 = .ok (.aload_n 0, 1) := by decide +kernel
theorem dX5_within_1 : decode cX5_within 1 = .ok (.iload_n 1, 1) := by decide +kernel
theorem dX5_within_2 : decode cX5_within 2 = .ok (.iload_n 2, 1) := by decide +kernel
theorem dX5_within_3 : decode cX5_within 3 = .ok (.invokevirtual 227, 3) := by decide +kernel
theorem dX5_within_6 : decode cX5_within 6 = .ok (.ifCond .eq 13, 3) := by decide +kernel
theorem dX5_within_9 : decode cX5_within 9 = .ok (.aload_n 0, 1) := by decide +kernel
theorem dX5_within_10 : decode cX5_within 10 = .ok (.iload_n 3, 1) := by decide +kernel
theorem dX5_within_11 : decode cX5_within 11 = .ok (.iload 4, 2) := by decide +kernel
theorem dX5_within_13 : decode cX5_within 13 = .ok (.invokevirtual 227, 3) := by decide +kernel
theorem dX5_within_16 : decode cX5_within 16 = .ok (.ifCond .ne 7, 3) := by decide +kernel
theorem dX5_within_19 : decode cX5_within 19 = .ok (.sipush (-9001), 3) := by decide +kernel
theorem dX5_within_22 : decode cX5_within 22 = .ok (.ireturn, 1) := by decide +kernel
theorem dX5_within_23 : decode cX5_within 23 = .ok (.aload_n 0, 1) := by decide +kernel
theorem dX5_within_24 : decode cX5_within 24 = .ok (.iconst 2, 1) := by decide +kernel
theorem dX5_within_25 : decode cX5_within 25 = .ok (.iload_n 1, 1) := by decide +kernel
theorem dX5_within_26 : decode cX5_within 26 = .ok (.imul, 1) := by decide +kernel
theorem dX5_within_27 : decode cX5_within 27 = .ok (.iload_n 2, 1) := by decide +kernel
theorem dX5_within_28 : decode cX5_within 28 = .ok (.iadd, 1) := by decide +kernel
theorem dX5_within_29 : decode cX5_within 29 = .ok (.iconst 2, 1) := by decide +kernel
theorem dX5_within_30 : decode cX5_within 30 = .ok (.iload_n 3, 1) := by decide +kernel
theorem dX5_within_31 : decode cX5_within 31 = .ok (.imul, 1) := by decide +kernel
theorem dX5_within_32 : decode cX5_within 32 = .ok (.iload 4, 2) := by decide +kernel
theorem dX5_within_34 : decode cX5_within 34 = .ok (.iadd, 1) := by decide +kernel
theorem dX5_within_35 : decode cX5_within 35 = .ok (.invokevirtual 209, 3) := by decide +kernel
theorem dX5_within_38 : decode cX5_within 38 = .ok (.ifCond .eq 7, 3) := by decide +kernel
theorem dX5_within_41 : decode cX5_within 41 = .ok (.iconst 1, 1) := by decide +kernel
theorem dX5_within_42 : decode cX5_within 42 = .ok (.goto 4, 3) := by decide +kernel
theorem dX5_within_45 : decode cX5_within 45 = .ok (.iconst 0, 1) := by decide +kernel
theorem dX5_within_46 : decode cX5_within 46 = .ok (.ireturn, 1) := by decide +kernel
theorem dX5_count_0 : decode cX5_count 0 = .ok (.iconst 0, 1) := by decide +kernel
theorem dX5_count_1 : decode cX5_count 1 = .ok (.istore_n 2, 1) := by decide +kernel
theorem dX5_count_2 : decode cX5_count 2 = .ok (.iconst 0, 1) := by decide +kernel
theorem dX5_count_3 : decode cX5_count 3 = .ok (.istore_n 3, 1) := by decide +kernel
theorem dX5_count_4 : decode cX5_count 4 = .ok (.iload_n 3, 1) := by decide +kernel
theorem dX5_count_5 : decode cX5_count 5 = .ok (.iconst 2, 1) := by decide +kernel
theorem dX5_count_6 : decode cX5_count 6 = .ok (.aload_n 0, 1) := by decide +kernel
theorem dX5_count_7 : decode cX5_count 7 = .ok (.getfield 136, 3) := by decide +kernel
theorem dX5_count_10 : decode cX5_count 10 = .ok (.imul, 1) := by decide +kernel
theorem dX5_count_11 : decode cX5_count 11 = .ok (.if_icmp .ge 36, 3) := by decide +kernel
theorem dX5_count_14 : decode cX5_count 14 = .ok (.iload_n 2, 1) := by decide +kernel
theorem dX5_count_15 : decode cX5_count 15 = .ok (.iload_n 3, 1) := by decide +kernel
theorem dX5_count_16 : decode cX5_count 16 = .ok (.iconst 2, 1) := by decide +kernel
theorem dX5_count_17 : decode cX5_count 17 = .ok (.irem, 1) := by decide +kernel
theorem dX5_count_18 : decode cX5_count 18 = .ok (.aload_n 0, 1) := by decide +kernel
theorem dX5_count_19 : decode cX5_count 19 = .ok (.getfield 68, 3) := by decide +kernel
theorem dX5_count_22 : decode cX5_count 22 = .ok (.iload_n 3, 1) := by decide +kernel
theorem dX5_count_23 : decode cX5_count 23 = .ok (.iconst 2, 1) := by decide +kernel
theorem dX5_count_24 : decode cX5_count 24 = .ok (.idiv, 1) := by decide +kernel
theorem dX5_count_25 : decode cX5_count 25 = .ok (.iaload, 1) := by decide +kernel
theorem dX5_count_26 : decode cX5_count 26 = .ok (.if_icmp .ge 12, 3) := by decide +kernel
theorem dX5_count_29 : decode cX5_count 29 = .ok (.aload_n 0, 1) := by decide +kernel
theorem dX5_count_30 : decode cX5_count 30 = .ok (.getfield 89, 3) := by decide +kernel
theorem dX5_count_33 : decode cX5_count 33 = .ok (.iload_n 3, 1) := by decide +kernel
theorem dX5_count_34 : decode cX5_count 34 = .ok (.iaload, 1) := by decide +kernel
theorem dX5_count_35 : decode cX5_count 35 = .ok (.goto 4, 3) := by decide +kernel
theorem dX5_count_38 : decode cX5_count 38 = .ok (.iconst 0, 1) := by decide +kernel
theorem dX5_count_39 : decode cX5_count 39 = .ok (.iadd, 1) := by decide +kernel
theorem dX5_count_40 : decode cX5_count 40 = .ok (.istore_n 2, 1) := by decide +kernel
theorem dX5_count_41 : decode cX5_count 41 = .ok (.iinc 3 1, 3) := by decide +kernel
theorem dX5_count_44 : decode cX5_count 44 = .ok (.goto (-40), 3) := by decide +kernel
theorem dX5_count_47 : decode cX5_count 47 = .ok (.iload_n 1, 1) := by decide +kernel
theorem dX5_count_48 : decode cX5_count 48 = .ok (.tableswitch 67 0 5 #[40, 45, 50, 55, 60, 65], 40) := by decide +kernel
theorem dX5_count_88 : decode cX5_count 88 = .ok (.aload_n 0, 1) := by decide +kernel
theorem dX5_count_89 : decode cX5_count 89 = .ok (.getfield 105, 3) := by decide +kernel
theorem dX5_count_92 : decode cX5_count 92 = .ok (.ireturn, 1) := by decide +kernel
theorem dX5_count_93 : decode cX5_count 93 = .ok (.aload_n 0, 1) := by decide +kernel
theorem dX5_count_94 : decode cX5_count 94 = .ok (.getfield 113, 3) := by decide +kernel
theorem dX5_count_97 : decode cX5_count 97 = .ok (.ireturn, 1) := by decide +kernel
theorem dX5_count_98 : decode cX5_count 98 = .ok (.aload_n 0, 1) := by decide +kernel
theorem dX5_count_99 : decode cX5_count 99 = .ok (.getfield 120, 3) := by decide +kernel
theorem dX5_count_102 : decode cX5_count 102 = .ok (.ireturn, 1) := by decide +kernel
theorem dX5_count_103 : decode cX5_count 103 = .ok (.aload_n 0, 1) := by decide +kernel
theorem dX5_count_104 : decode cX5_count 104 = .ok (.getfield 123, 3) := by decide +kernel
theorem dX5_count_107 : decode cX5_count 107 = .ok (.ireturn, 1) := by decide +kernel
theorem dX5_count_108 : decode cX5_count 108 = .ok (.aload_n 0, 1) := by decide +kernel
theorem dX5_count_109 : decode cX5_count 109 = .ok (.getfield 136, 3) := by decide +kernel
theorem dX5_count_112 : decode cX5_count 112 = .ok (.ireturn, 1) := by decide +kernel
theorem dX5_count_113 : decode cX5_count 113 = .ok (.iload_n 2, 1) := by decide +kernel
theorem dX5_count_114 : decode cX5_count 114 = .ok (.ireturn, 1) := by decide +kernel
theorem dX5_count_115 : decode cX5_count 115 = .ok (.sipush (-9002), 3) := by decide +kernel
theorem dX5_count_118 : decode cX5_count 118 = .ok (.ireturn, 1) := by decide +kernel
theorem dX5_clear_0 : decode cX5_clear 0 = .ok (.aload_n 0, 1) := by decide +kernel
theorem dX5_clear_1 : decode cX5_clear 1 = .ok (.getfield 136, 3) := by decide +kernel
theorem dX5_clear_4 : decode cX5_clear 4 = .ok (.istore_n 1, 1) := by decide +kernel
theorem dX5_clear_5 : decode cX5_clear 5 = .ok (.aload_n 0, 1) := by decide +kernel
theorem dX5_clear_6 : decode cX5_clear 6 = .ok (.iconst 0, 1) := by decide +kernel
theorem dX5_clear_7 : decode cX5_clear 7 = .ok (.putfield 105, 3) := by decide +kernel
theorem dX5_clear_10 : decode cX5_clear 10 = .ok (.aload_n 0, 1) := by decide +kernel
theorem dX5_clear_11 : decode cX5_clear 11 = .ok (.iconst 0, 1) := by decide +kernel
theorem dX5_clear_12 : decode cX5_clear 12 = .ok (.putfield 113, 3) := by decide +kernel
theorem dX5_clear_15 : decode cX5_clear 15 = .ok (.aload_n 0, 1) := by decide +kernel
theorem dX5_clear_16 : decode cX5_clear 16 = .ok (.iconst 0, 1) := by decide +kernel
theorem dX5_clear_17 : decode cX5_clear 17 = .ok (.putfield 120, 3) := by decide +kernel
theorem dX5_clear_20 : decode cX5_clear 20 = .ok (.aload_n 0, 1) := by decide +kernel
theorem dX5_clear_21 : decode cX5_clear 21 = .ok (.iconst 0, 1) := by decide +kernel
theorem dX5_clear_22 : decode cX5_clear 22 = .ok (.putfield 123, 3) := by decide +kernel
theorem dX5_clear_25 : decode cX5_clear 25 = .ok (.aload_n 0, 1) := by decide +kernel
theorem dX5_clear_26 : decode cX5_clear 26 = .ok (.iconst 0, 1) := by decide +kernel
theorem dX5_clear_27 : decode cX5_clear 27 = .ok (.putfield 136, 3) := by decide +kernel
theorem dX5_clear_30 : decode cX5_clear 30 = .ok (.iload_n 1, 1) := by decide +kernel
theorem dX5_clear_31 : decode cX5_clear 31 = .ok (.ireturn, 1) := by decide +kernel
