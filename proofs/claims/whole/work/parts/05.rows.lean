theorem dX4_init_0 : decode cX4_init 0 = .ok (.aload_n 0, 1) := by decide +kernel
theorem dX4_init_1 : decode cX4_init 1 = .ok (.invokespecial 1, 3) := by decide +kernel
theorem dX4_init_4 : decode cX4_init 4 = .ok (.aload_n 0, 1) := by decide +kernel
theorem dX4_init_5 : decode cX4_init 5 = .ok (.sipush 1792, 3) := by decide +kernel
theorem dX4_init_8 : decode cX4_init 8 = .ok (.newarray .byte, 2) := by decide +kernel
theorem dX4_init_10 : decode cX4_init 10 = .ok (.putfield 7, 3) := by decide +kernel
theorem dX4_init_13 : decode cX4_init 13 = .ok (.aload_n 0, 1) := by decide +kernel
theorem dX4_init_14 : decode cX4_init 14 = .ok (.sipush 8960, 3) := by decide +kernel
theorem dX4_init_17 : decode cX4_init 17 = .ok (.newarray .byte, 2) := by decide +kernel
theorem dX4_init_19 : decode cX4_init 19 = .ok (.putfield 13, 3) := by decide +kernel
theorem dX4_init_22 : decode cX4_init 22 = .ok (.aload_n 0, 1) := by decide +kernel
theorem dX4_init_23 : decode cX4_init 23 = .ok (.bipush 112, 2) := by decide +kernel
theorem dX4_init_25 : decode cX4_init 25 = .ok (.newarray .int, 2) := by decide +kernel
theorem dX4_init_27 : decode cX4_init 27 = .ok (.putfield 16, 3) := by decide +kernel
theorem dX4_init_30 : decode cX4_init 30 = .ok (.aload_n 0, 1) := by decide +kernel
theorem dX4_init_31 : decode cX4_init 31 = .ok (.sipush 560, 3) := by decide +kernel
theorem dX4_init_34 : decode cX4_init 34 = .ok (.newarray .int, 2) := by decide +kernel
theorem dX4_init_36 : decode cX4_init 36 = .ok (.putfield 20, 3) := by decide +kernel
theorem dX4_init_39 : decode cX4_init 39 = .ok (.aload_n 0, 1) := by decide +kernel
theorem dX4_init_40 : decode cX4_init 40 = .ok (.bipush 12, 2) := by decide +kernel
theorem dX4_init_42 : decode cX4_init 42 = .ok (.newarray .int, 2) := by decide +kernel
theorem dX4_init_44 : decode cX4_init 44 = .ok (.putfield 23, 3) := by decide +kernel
theorem dX4_init_47 : decode cX4_init 47 = .ok (.aload_n 0, 1) := by decide +kernel
theorem dX4_init_48 : decode cX4_init 48 = .ok (.bipush 24, 2) := by decide +kernel
theorem dX4_init_50 : decode cX4_init 50 = .ok (.newarray .int, 2) := by decide +kernel
theorem dX4_init_52 : decode cX4_init 52 = .ok (.putfield 26, 3) := by decide +kernel
theorem dX4_init_55 : decode cX4_init 55 = .ok (.aload_n 0, 1) := by decide +kernel
theorem dX4_init_56 : decode cX4_init 56 = .ok (.bipush 60, 2) := by decide +kernel
theorem dX4_init_58 : decode cX4_init 58 = .ok (.newarray .int, 2) := by decide +kernel
theorem dX4_init_60 : decode cX4_init 60 = .ok (.putfield 29, 3) := by decide +kernel
theorem dX4_init_63 : decode cX4_init 63 = .ok (.aload_n 0, 1) := by decide +kernel
theorem dX4_init_64 : decode cX4_init 64 = .ok (.bipush 120, 2) := by decide +kernel
theorem dX4_init_66 : decode cX4_init 66 = .ok (.newarray .int, 2) := by decide +kernel
theorem dX4_init_68 : decode cX4_init 68 = .ok (.putfield 32, 3) := by decide +kernel
theorem dX4_init_71 : decode cX4_init 71 = .ok (.aload_n 0, 1) := by decide +kernel
theorem dX4_init_72 : decode cX4_init 72 = .ok (.iconst 5, 1) := by decide +kernel
theorem dX4_init_73 : decode cX4_init 73 = .ok (.newarray .int, 2) := by decide +kernel
theorem dX4_init_75 : decode cX4_init 75 = .ok (.putfield 35, 3) := by decide +kernel
theorem dX4_init_78 : decode cX4_init 78 = .ok (.aload_n 0, 1) := by decide +kernel
theorem dX4_init_79 : decode cX4_init 79 = .ok (.bipush 40, 2) := by decide +kernel
theorem dX4_init_81 : decode cX4_init 81 = .ok (.newarray .int, 2) := by decide +kernel
theorem dX4_init_83 : decode cX4_init 83 = .ok (.putfield 38, 3) := by decide +kernel
theorem dX4_init_86 : decode cX4_init 86 = .ok (.aload_n 0, 1) := by decide +kernel
theorem dX4_init_87 : decode cX4_init 87 = .ok (.bipush 40, 2) := by decide +kernel
theorem dX4_init_89 : decode cX4_init 89 = .ok (.newarray .int, 2) := by decide +kernel
theorem dX4_init_91 : decode cX4_init 91 = .ok (.putfield 41, 3) := by decide +kernel
theorem dX4_init_94 : decode cX4_init 94 = .ok (.aload_n 0, 1) := by decide +kernel
theorem dX4_init_95 : decode cX4_init 95 = .ok (.bipush 40, 2) := by decide +kernel
theorem dX4_init_97 : decode cX4_init 97 = .ok (.newarray .int, 2) := by decide +kernel
theorem dX4_init_99 : decode cX4_init 99 = .ok (.putfield 44, 3) := by decide +kernel
theorem dX4_init_102 : decode cX4_init 102 = .ok (.aload_n 0, 1) := by decide +kernel
theorem dX4_init_103 : decode cX4_init 103 = .ok (.bipush 100, 2) := by decide +kernel
theorem dX4_init_105 : decode cX4_init 105 = .ok (.newarray .int, 2) := by decide +kernel
theorem dX4_init_107 : decode cX4_init 107 = .ok (.putfield 47, 3) := by decide +kernel
theorem dX4_init_110 : decode cX4_init 110 = .ok (.aload_n 0, 1) := by decide +kernel
theorem dX4_init_111 : decode cX4_init 111 = .ok (.iload_n 1, 1) := by decide +kernel
theorem dX4_init_112 : decode cX4_init 112 = .ok (.iconst 1, 1) := by decide +kernel
theorem dX4_init_113 : decode cX4_init 113 = .ok (.if_icmp .ge 7, 3) := by decide +kernel
theorem dX4_init_116 : decode cX4_init 116 = .ok (.iconst 1, 1) := by decide +kernel
theorem dX4_init_117 : decode cX4_init 117 = .ok (.goto 15, 3) := by decide +kernel
theorem dX4_init_120 : decode cX4_init 120 = .ok (.iload_n 1, 1) := by decide +kernel
theorem dX4_init_121 : decode cX4_init 121 = .ok (.bipush 12, 2) := by decide +kernel
theorem dX4_init_123 : decode cX4_init 123 = .ok (.if_icmp .le 8, 3) := by decide +kernel
theorem dX4_init_126 : decode cX4_init 126 = .ok (.bipush 12, 2) := by decide +kernel
theorem dX4_init_128 : decode cX4_init 128 = .ok (.goto 4, 3) := by decide +kernel
theorem dX4_init_131 : decode cX4_init 131 = .ok (.iload_n 1, 1) := by decide +kernel
theorem dX4_init_132 : decode cX4_init 132 = .ok (.putfield 50, 3) := by decide +kernel
theorem dX4_init_135 : decode cX4_init 135 = .ok (.aload_n 0, 1) := by decide +kernel
theorem dX4_init_136 : decode cX4_init 136 = .ok (.iload_n 2, 1) := by decide +kernel
theorem dX4_init_137 : decode cX4_init 137 = .ok (.iconst 1, 1) := by decide +kernel
theorem dX4_init_138 : decode cX4_init 138 = .ok (.if_icmp .ge 7, 3) := by decide +kernel
theorem dX4_init_141 : decode cX4_init 141 = .ok (.iconst 1, 1) := by decide +kernel
theorem dX4_init_142 : decode cX4_init 142 = .ok (.goto 15, 3) := by decide +kernel
theorem dX4_init_145 : decode cX4_init 145 = .ok (.iload_n 2, 1) := by decide +kernel
theorem dX4_init_146 : decode cX4_init 146 = .ok (.bipush 8, 2) := by decide +kernel
theorem dX4_init_148 : decode cX4_init 148 = .ok (.if_icmp .le 8, 3) := by decide +kernel
theorem dX4_init_151 : decode cX4_init 151 = .ok (.bipush 8, 2) := by decide +kernel
theorem dX4_init_153 : decode cX4_init 153 = .ok (.goto 4, 3) := by decide +kernel
theorem dX4_init_156 : decode cX4_init 156 = .ok (.iload_n 2, 1) := by decide +kernel
theorem dX4_init_157 : decode cX4_init 157 = .ok (.putfield 54, 3) := by decide +kernel
theorem dX4_init_160 : decode cX4_init 160 = .ok (.iconst 0, 1) := by decide +kernel
theorem dX4_init_161 : decode cX4_init 161 = .ok (.istore_n 3, 1) := by decide +kernel
theorem dX4_init_162 : decode cX4_init 162 = .ok (.iload_n 3, 1) := by decide +kernel
theorem dX4_init_163 : decode cX4_init 163 = .ok (.bipush 12, 2) := by decide +kernel
theorem dX4_init_165 : decode cX4_init 165 = .ok (.if_icmp .ge 16, 3) := by decide +kernel
theorem dX4_init_168 : decode cX4_init 168 = .ok (.aload_n 0, 1) := by decide +kernel
theorem dX4_init_169 : decode cX4_init 169 = .ok (.getfield 23, 3) := by decide +kernel
theorem dX4_init_172 : decode cX4_init 172 = .ok (.iload_n 3, 1) := by decide +kernel
theorem dX4_init_173 : decode cX4_init 173 = .ok (.iconst (-1), 1) := by decide +kernel
theorem dX4_init_174 : decode cX4_init 174 = .ok (.iastore, 1) := by decide +kernel
theorem dX4_init_175 : decode cX4_init 175 = .ok (.iinc 3 1, 3) := by decide +kernel
theorem dX4_init_178 : decode cX4_init 178 = .ok (.goto (-16), 3) := by decide +kernel
theorem dX4_init_181 : decode cX4_init 181 = .ok (.iconst 0, 1) := by decide +kernel
theorem dX4_init_182 : decode cX4_init 182 = .ok (.istore_n 3, 1) := by decide +kernel
theorem dX4_init_183 : decode cX4_init 183 = .ok (.iload_n 3, 1) := by decide +kernel
theorem dX4_init_184 : decode cX4_init 184 = .ok (.aload_n 0, 1) := by decide +kernel
theorem dX4_init_185 : decode cX4_init 185 = .ok (.getfield 50, 3) := by decide +kernel
theorem dX4_init_188 : decode cX4_init 188 = .ok (.iconst 2, 1) := by decide +kernel
theorem dX4_init_189 : decode cX4_init 189 = .ok (.iadd, 1) := by decide +kernel
theorem dX4_init_190 : decode cX4_init 190 = .ok (.if_icmp .ge 50, 3) := by decide +kernel
theorem dX4_init_193 : decode cX4_init 193 = .ok (.iconst 0, 1) := by decide +kernel
theorem dX4_init_194 : decode cX4_init 194 = .ok (.istore 4, 2) := by decide +kernel
theorem dX4_init_196 : decode cX4_init 196 = .ok (.iload 4, 2) := by decide +kernel
theorem dX4_init_198 : decode cX4_init 198 = .ok (.aload_n 0, 1) := by decide +kernel
theorem dX4_init_199 : decode cX4_init 199 = .ok (.getfield 54, 3) := by decide +kernel
theorem dX4_init_202 : decode cX4_init 202 = .ok (.if_icmp .ge 32, 3) := by decide +kernel
theorem dX4_init_205 : decode cX4_init 205 = .ok (.aload_n 0, 1) := by decide +kernel
theorem dX4_init_206 : decode cX4_init 206 = .ok (.getfield 16, 3) := by decide +kernel
theorem dX4_init_209 : decode cX4_init 209 = .ok (.bipush 8, 2) := by decide +kernel
theorem dX4_init_211 : decode cX4_init 211 = .ok (.iload_n 3, 1) := by decide +kernel
theorem dX4_init_212 : decode cX4_init 212 = .ok (.imul, 1) := by decide +kernel
theorem dX4_init_213 : decode cX4_init 213 = .ok (.iload 4, 2) := by decide +kernel
theorem dX4_init_215 : decode cX4_init 215 = .ok (.iadd, 1) := by decide +kernel
theorem dX4_init_216 : decode cX4_init 216 = .ok (.aload_n 0, 1) := by decide +kernel
theorem dX4_init_217 : decode cX4_init 217 = .ok (.bipush 8, 2) := by decide +kernel
theorem dX4_init_219 : decode cX4_init 219 = .ok (.iload_n 3, 1) := by decide +kernel
theorem dX4_init_220 : decode cX4_init 220 = .ok (.imul, 1) := by decide +kernel
theorem dX4_init_221 : decode cX4_init 221 = .ok (.iload 4, 2) := by decide +kernel
theorem dX4_init_223 : decode cX4_init 223 = .ok (.iadd, 1) := by decide +kernel
theorem dX4_init_224 : decode cX4_init 224 = .ok (.invokevirtual 57, 3) := by decide +kernel
theorem dX4_init_227 : decode cX4_init 227 = .ok (.iastore, 1) := by decide +kernel
theorem dX4_init_228 : decode cX4_init 228 = .ok (.iinc 4 1, 3) := by decide +kernel
theorem dX4_init_231 : decode cX4_init 231 = .ok (.goto (-35), 3) := by decide +kernel
theorem dX4_init_234 : decode cX4_init 234 = .ok (.iinc 3 1, 3) := by decide +kernel
theorem dX4_init_237 : decode cX4_init 237 = .ok (.goto (-54), 3) := by decide +kernel
theorem dX4_init_240 : decode cX4_init 240 = .ok (.return_, 1) := by decide +kernel
theorem dX4_thrown_0 : decode cX4_thrown 0 = .ok (.aload_n 0, 1) := by decide +kernel
theorem dX4_thrown_1 : decode cX4_thrown 1 = .ok (.getfield 61, 3) := by decide +kernel
theorem dX4_thrown_4 : decode cX4_thrown 4 = .ok (.ireturn, 1) := by decide +kernel
theorem dX4_isTrack_0 : decode cX4_isTrack 0 = .ok (.iload_n 1, 1) := by decide +kernel
theorem dX4_isTrack_1 : decode cX4_isTrack 1 = .ok (.ifCond .lt 15, 3) := by decide +kernel
theorem dX4_isTrack_4 : decode cX4_isTrack 4 = .ok (.iload_n 1, 1) := by decide +kernel
theorem dX4_isTrack_5 : decode cX4_isTrack 5 = .ok (.aload_n 0, 1) := by decide +kernel
theorem dX4_isTrack_6 : decode cX4_isTrack 6 = .ok (.getfield 50, 3) := by decide +kernel
theorem dX4_isTrack_9 : decode cX4_isTrack 9 = .ok (.if_icmp .ge 7, 3) := by decide +kernel
theorem dX4_isTrack_12 : decode cX4_isTrack 12 = .ok (.iconst 1, 1) := by decide +kernel
theorem dX4_isTrack_13 : decode cX4_isTrack 13 = .ok (.goto 4, 3) := by decide +kernel
theorem dX4_isTrack_16 : decode cX4_isTrack 16 = .ok (.iconst 0, 1) := by decide +kernel
theorem dX4_isTrack_17 : decode cX4_isTrack 17 = .ok (.ireturn, 1) := by decide +kernel
set_option maxRecDepth 20000 in
theorem ggX4_isSector_X4_isTrack : GoodIn wsX4_isSector wsX4_isTrack := goodIn_r _ [6, 7, 8, 9, 10, 11, 12, 13, 14, 15, 16, 17, 18, 19, 20, 21, 22, 23, 24, 25, 26, 27, 28] (by decide +kernel) (by decide +kernel)
set_option maxRecDepth 20000 in
theorem gX4_isSector_X4_isTrack : GoodIn wsX4_isSector (wsV RX4 64 RX4 yX4_isTrack wsX4_isTrack) := goodIn_app (goodIn_of _ (by decide +kernel)) ggX4_isSector_X4_isTrack
theorem dX4_isSector_0 : decode cX4_isSector 0 = .ok (.aload_n 0, 1) := by decide +kernel
theorem dX4_isSector_1 : decode cX4_isSector 1 = .ok (.iload_n 1, 1) := by decide +kernel
theorem dX4_isSector_2 : decode cX4_isSector 2 = .ok (.invokevirtual 64, 3) := by decide +kernel
theorem dX4_isSector_5 : decode cX4_isSector 5 = .ok (.ifCond .eq 19, 3) := by decide +kernel
theorem dX4_isSector_8 : decode cX4_isSector 8 = .ok (.iload_n 2, 1) := by decide +kernel
theorem dX4_isSector_9 : decode cX4_isSector 9 = .ok (.ifCond .lt 15, 3) := by decide +kernel
theorem dX4_isSector_12 : decode cX4_isSector 12 = .ok (.iload_n 2, 1) := by decide +kernel
theorem dX4_isSector_13 : decode cX4_isSector 13 = .ok (.aload_n 0, 1) := by decide +kernel
theorem dX4_isSector_14 : decode cX4_isSector 14 = .ok (.getfield 54, 3) := by decide +kernel
theorem dX4_isSector_17 : decode cX4_isSector 17 = .ok (.if_icmp .ge 7, 3) := by decide +kernel
theorem dX4_isSector_20 : decode cX4_isSector 20 = .ok (.iconst 1, 1) := by decide +kernel
theorem dX4_isSector_21 : decode cX4_isSector 21 = .ok (.goto 4, 3) := by decide +kernel
theorem dX4_isSector_24 : decode cX4_isSector 24 = .ok (.iconst 0, 1) := by decide +kernel
theorem dX4_isSector_25 : decode cX4_isSector 25 = .ok (.ireturn, 1) := by decide +kernel
theorem dX4_lies_0 : decode cX4_lies 0 = .ok (.bipush 8, 2) := by decide +kernel
theorem dX4_lies_2 : decode cX4_lies 2 = .ok (.aload_n 0, 1) := by decide +kernel
theorem dX4_lies_3 : decode cX4_lies 3 = .ok (.getfield 23, 3) := by decide +kernel
theorem dX4_lies_6 : decode cX4_lies 6 = .ok (.iload_n 1, 1) := by decide +kernel
theorem dX4_lies_7 : decode cX4_lies 7 = .ok (.iaload, 1) := by decide +kernel
theorem dX4_lies_8 : decode cX4_lies 8 = .ok (.iconst (-1), 1) := by decide +kernel
theorem dX4_lies_9 : decode cX4_lies 9 = .ok (.if_icmp .ne 7, 3) := by decide +kernel
theorem dX4_lies_12 : decode cX4_lies 12 = .ok (.iload_n 1, 1) := by decide +kernel
theorem dX4_lies_13 : decode cX4_lies 13 = .ok (.goto 9, 3) := by decide +kernel
theorem dX4_lies_16 : decode cX4_lies 16 = .ok (.aload_n 0, 1) := by decide +kernel
theorem dX4_lies_17 : decode cX4_lies 17 = .ok (.getfield 23, 3) := by decide +kernel
theorem dX4_lies_20 : decode cX4_lies 20 = .ok (.iload_n 1, 1) := by decide +kernel
theorem dX4_lies_21 : decode cX4_lies 21 = .ok (.iaload, 1) := by decide +kernel
theorem dX4_lies_22 : decode cX4_lies 22 = .ok (.imul, 1) := by decide +kernel
theorem dX4_lies_23 : decode cX4_lies 23 = .ok (.iload_n 2, 1) := by decide +kernel
theorem dX4_lies_24 : decode cX4_lies 24 = .ok (.iadd, 1) := by decide +kernel
theorem dX4_lies_25 : decode cX4_lies 25 = .ok (.ireturn, 1) := by decide +kernel
theorem dX4_sumOf_0 : decode cX4_sumOf 0 = .ok (.bipush 64, 2) := by decide +kernel
theorem dX4_sumOf_2 : decode cX4_sumOf 2 = .ok (.iload_n 1, 1) := by decide +kernel
theorem dX4_sumOf_3 : decode cX4_sumOf 3 = .ok (.bipush 8, 2) := by decide +kernel
theorem dX4_sumOf_5 : decode cX4_sumOf 5 = .ok (.idiv, 1) := by decide +kernel
theorem dX4_sumOf_6 : decode cX4_sumOf 6 = .ok (.imul, 1) := by decide +kernel
theorem dX4_sumOf_7 : decode cX4_sumOf 7 = .ok (.iload_n 1, 1) := by decide +kernel
theorem dX4_sumOf_8 : decode cX4_sumOf 8 = .ok (.bipush 8, 2) := by decide +kernel
theorem dX4_sumOf_10 : decode cX4_sumOf 10 = .ok (.irem, 1) := by decide +kernel
theorem dX4_sumOf_11 : decode cX4_sumOf 11 = .ok (.iadd, 1) := by decide +kernel
theorem dX4_sumOf_12 : decode cX4_sumOf 12 = .ok (.istore_n 2, 1) := by decide +kernel
theorem dX4_sumOf_13 : decode cX4_sumOf 13 = .ok (.iconst 0, 1) := by decide +kernel
theorem dX4_sumOf_14 : decode cX4_sumOf 14 = .ok (.istore_n 3, 1) := by decide +kernel
theorem dX4_sumOf_15 : decode cX4_sumOf 15 = .ok (.iload_n 3, 1) := by decide +kernel
theorem dX4_sumOf_16 : decode cX4_sumOf 16 = .ok (.bipush 16, 2) := by decide +kernel
theorem dX4_sumOf_18 : decode cX4_sumOf 18 = .ok (.if_icmp .ge 42, 3) := by decide +kernel
theorem dX4_sumOf_21 : decode cX4_sumOf 21 = .ok (.iload_n 2, 1) := by decide +kernel
theorem dX4_sumOf_22 : decode cX4_sumOf 22 = .ok (.aload_n 0, 1) := by decide +kernel
theorem dX4_sumOf_23 : decode cX4_sumOf 23 = .ok (.getfield 7, 3) := by decide +kernel
theorem dX4_sumOf_26 : decode cX4_sumOf 26 = .ok (.bipush 16, 2) := by decide +kernel
theorem dX4_sumOf_28 : decode cX4_sumOf 28 = .ok (.iload_n 1, 1) := by decide +kernel
theorem dX4_sumOf_29 : decode cX4_sumOf 29 = .ok (.imul, 1) := by decide +kernel
theorem dX4_sumOf_30 : decode cX4_sumOf 30 = .ok (.iload_n 3, 1) := by decide +kernel
theorem dX4_sumOf_31 : decode cX4_sumOf 31 = .ok (.iadd, 1) := by decide +kernel
theorem dX4_sumOf_32 : decode cX4_sumOf 32 = .ok (.baload, 1) := by decide +kernel
theorem dX4_sumOf_33 : decode cX4_sumOf 33 = .ok (.sipush 255, 3) := by decide +kernel
theorem dX4_sumOf_36 : decode cX4_sumOf 36 = .ok (.iand, 1) := by decide +kernel
theorem dX4_sumOf_37 : decode cX4_sumOf 37 = .ok (.ixor, 1) := by decide +kernel
theorem dX4_sumOf_38 : decode cX4_sumOf 38 = .ok (.istore 4, 2) := by decide +kernel
theorem dX4_sumOf_40 : decode cX4_sumOf 40 = .ok (.iload 4, 2) := by decide +kernel
theorem dX4_sumOf_42 : decode cX4_sumOf 42 = .ok (.iconst 3, 1) := by decide +kernel
theorem dX4_sumOf_43 : decode cX4_sumOf 43 = .ok (.ishl, 1) := by decide +kernel
theorem dX4_sumOf_44 : decode cX4_sumOf 44 = .ok (.iload 4, 2) := by decide +kernel
theorem dX4_sumOf_46 : decode cX4_sumOf 46 = .ok (.bipush 29, 2) := by decide +kernel
theorem dX4_sumOf_48 : decode cX4_sumOf 48 = .ok (.iushr, 1) := by decide +kernel
theorem dX4_sumOf_49 : decode cX4_sumOf 49 = .ok (.ior, 1) := by decide +kernel
theorem dX4_sumOf_50 : decode cX4_sumOf 50 = .ok (.ldc 68, 2) := by decide +kernel
theorem dX4_sumOf_52 : decode cX4_sumOf 52 = .ok (.imul, 1) := by decide +kernel
theorem dX4_sumOf_53 : decode cX4_sumOf 53 = .ok (.istore_n 2, 1) := by decide +kernel
theorem dX4_sumOf_54 : decode cX4_sumOf 54 = .ok (.iinc 3 1, 3) := by decide +kernel
theorem dX4_sumOf_57 : decode cX4_sumOf 57 = .ok (.goto (-42), 3) := by decide +kernel
theorem dX4_sumOf_60 : decode cX4_sumOf 60 = .ok (.iload_n 2, 1) := by decide +kernel
theorem dX4_sumOf_61 : decode cX4_sumOf 61 = .ok (.ireturn, 1) := by decide +kernel
set_option maxRecDepth 20000 in
theorem ggX4_write_X4_isSector : GoodIn wsX4_write wsX4_isSector := goodIn_r _ [11, 12, 13, 14, 15, 10, 16, 17, 18, 19, 20, 21, 22, 23, 24, 25, 26, 27, 28, 29, 30, 31, 32, 33, 34, 35, 36, 37, 38] (by decide +kernel) (by decide +kernel)
set_option maxRecDepth 20000 in
theorem gX4_write_X4_isSector : GoodIn wsX4_write (wsV RX4 69 RX4 yX4_isSector wsX4_isSector) := goodIn_app (goodIn_of _ (by decide +kernel)) ggX4_write_X4_isSector
theorem dX4_write_0 : decode cX4_write 0 = .ok (.aload_n 0, 1) := by decide +kernel
theorem dX4_write_1 : decode cX4_write 1 = .ok (.iconst 0, 1) := by decide +kernel
theorem dX4_write_2 : decode cX4_write 2 = .ok (.putfield 61, 3) := by decide +kernel
theorem dX4_write_5 : decode cX4_write 5 = .ok (.aload_n 0, 1) := by decide +kernel
theorem dX4_write_6 : decode cX4_write 6 = .ok (.iload_n 1, 1) := by decide +kernel
theorem dX4_write_7 : decode cX4_write 7 = .ok (.iload_n 2, 1) := by decide +kernel
theorem dX4_write_8 : decode cX4_write 8 = .ok (.invokevirtual 69, 3) := by decide +kernel
theorem dX4_write_11 : decode cX4_write 11 = .ok (.ifCond .ne 6, 3) := by decide +kernel
theorem dX4_write_14 : decode cX4_write 14 = .ok (.bipush (-2), 2) := by decide +kernel
theorem dX4_write_16 : decode cX4_write 16 = .ok (.ireturn, 1) := by decide +kernel
theorem dX4_write_17 : decode cX4_write 17 = .ok (.aload_n 0, 1) := by decide +kernel
theorem dX4_write_18 : decode cX4_write 18 = .ok (.getfield 73, 3) := by decide +kernel
theorem dX4_write_21 : decode cX4_write 21 = .ok (.ifCond .eq 6, 3) := by decide +kernel
theorem dX4_write_24 : decode cX4_write 24 = .ok (.bipush (-5), 2) := by decide +kernel
theorem dX4_write_26 : decode cX4_write 26 = .ok (.ireturn, 1) := by decide +kernel
theorem dX4_write_27 : decode cX4_write 27 = .ok (.aload_n 0, 1) := by decide +kernel
theorem dX4_write_28 : decode cX4_write 28 = .ok (.getfield 77, 3) := by decide +kernel
theorem dX4_write_31 : decode cX4_write 31 = .ok (.bipush 40, 2) := by decide +kernel
theorem dX4_write_33 : decode cX4_write 33 = .ok (.if_icmp .ne 5, 3) := by decide +kernel
theorem dX4_write_36 : decode cX4_write 36 = .ok (.iconst (-1), 1) := by decide +kernel
theorem dX4_write_37 : decode cX4_write 37 = .ok (.ireturn, 1) := by decide +kernel
theorem dX4_write_38 : decode cX4_write 38 = .ok (.aload_n 0, 1) := by decide +kernel
theorem dX4_write_39 : decode cX4_write 39 = .ok (.getfield 38, 3) := by decide +kernel
theorem dX4_write_42 : decode cX4_write 42 = .ok (.aload_n 0, 1) := by decide +kernel
theorem dX4_write_43 : decode cX4_write 43 = .ok (.getfield 77, 3) := by decide +kernel
theorem dX4_write_46 : decode cX4_write 46 = .ok (.iload_n 1, 1) := by decide +kernel
theorem dX4_write_47 : decode cX4_write 47 = .ok (.iastore, 1) := by decide +kernel
theorem dX4_write_48 : decode cX4_write 48 = .ok (.aload_n 0, 1) := by decide +kernel
theorem dX4_write_49 : decode cX4_write 49 = .ok (.getfield 41, 3) := by decide +kernel
theorem dX4_write_52 : decode cX4_write 52 = .ok (.aload_n 0, 1) := by decide +kernel
theorem dX4_write_53 : decode cX4_write 53 = .ok (.getfield 77, 3) := by decide +kernel
theorem dX4_write_56 : decode cX4_write 56 = .ok (.iload_n 2, 1) := by decide +kernel
theorem dX4_write_57 : decode cX4_write 57 = .ok (.iastore, 1) := by decide +kernel
theorem dX4_write_58 : decode cX4_write 58 = .ok (.aload_n 0, 1) := by decide +kernel
theorem dX4_write_59 : decode cX4_write 59 = .ok (.getfield 44, 3) := by decide +kernel
theorem dX4_write_62 : decode cX4_write 62 = .ok (.aload_n 0, 1) := by decide +kernel
theorem dX4_write_63 : decode cX4_write 63 = .ok (.getfield 77, 3) := by decide +kernel
theorem dX4_write_66 : decode cX4_write 66 = .ok (.iload_n 3, 1) := by decide +kernel
theorem dX4_write_67 : decode cX4_write 67 = .ok (.iastore, 1) := by decide +kernel
theorem dX4_write_68 : decode cX4_write 68 = .ok (.aload_n 0, 1) := by decide +kernel
theorem dX4_write_69 : decode cX4_write 69 = .ok (.dup, 1) := by decide +kernel
theorem dX4_write_70 : decode cX4_write 70 = .ok (.getfield 77, 3) := by decide +kernel
theorem dX4_write_73 : decode cX4_write 73 = .ok (.iconst 1, 1) := by decide +kernel
theorem dX4_write_74 : decode cX4_write 74 = .ok (.iadd, 1) := by decide +kernel
theorem dX4_write_75 : decode cX4_write 75 = .ok (.putfield 77, 3) := by decide +kernel
theorem dX4_write_78 : decode cX4_write 78 = .ok (.aload_n 0, 1) := by decide +kernel
theorem dX4_write_79 : decode cX4_write 79 = .ok (.getfield 77, 3) := by decide +kernel
theorem dX4_write_82 : decode cX4_write 82 = .ok (.ireturn, 1) := by decide +kernel
set_option maxRecDepth 20000 in
theorem ggX4_done_X4_lies : GoodIn wsX4_done wsX4_lies := goodIn_r _ [10, 11, 12, 13, 14, 15, 16, 17, 18, 19, 20, 21, 22, 23, 24, 25, 26, 27, 28, 29, 30, 31, 32] (by decide +kernel) (by decide +kernel)
set_option maxRecDepth 20000 in
theorem gX4_done_X4_lies : GoodIn wsX4_done (wsV RX4 80 RX4 yX4_lies wsX4_lies) := goodIn_app (goodIn_of _ (by decide +kernel)) ggX4_done_X4_lies
theorem dX4_done_0 : decode cX4_done 0 = .ok (.aload_n 0, 1) := by decide +kernel
theorem dX4_done_1 : decode cX4_done 1 = .ok (.aload_n 0, 1) := by decide +kernel
theorem dX4_done_2 : decode cX4_done 2 = .ok (.getfield 38, 3) := by decide +kernel
theorem dX4_done_5 : decode cX4_done 5 = .ok (.iload_n 1, 1) := by decide +kernel
theorem dX4_done_6 : decode cX4_done 6 = .ok (.iaload, 1) := by decide +kernel
theorem dX4_done_7 : decode cX4_done 7 = .ok (.aload_n 0, 1) := by decide +kernel
theorem dX4_done_8 : decode cX4_done 8 = .ok (.getfield 41, 3) := by decide +kernel
theorem dX4_done_11 : decode cX4_done 11 = .ok (.iload_n 1, 1) := by decide +kernel
theorem dX4_done_12 : decode cX4_done 12 = .ok (.iaload, 1) := by decide +kernel
theorem dX4_done_13 : decode cX4_done 13 = .ok (.invokevirtual 80, 3) := by decide +kernel
theorem dX4_done_16 : decode cX4_done 16 = .ok (.istore_n 3, 1) := by decide +kernel
theorem dX4_done_17 : decode cX4_done 17 = .ok (.iconst 0, 1) := by decide +kernel
theorem dX4_done_18 : decode cX4_done 18 = .ok (.istore 4, 2) := by decide +kernel
theorem dX4_done_20 : decode cX4_done 20 = .ok (.iload 4, 2) := by decide +kernel
theorem dX4_done_22 : decode cX4_done 22 = .ok (.iload_n 2, 1) := by decide +kernel
theorem dX4_done_23 : decode cX4_done 23 = .ok (.if_icmp .ge 31, 3) := by decide +kernel
theorem dX4_done_26 : decode cX4_done 26 = .ok (.aload_n 0, 1) := by decide +kernel
theorem dX4_done_27 : decode cX4_done 27 = .ok (.getfield 7, 3) := by decide +kernel
theorem dX4_done_30 : decode cX4_done 30 = .ok (.bipush 16, 2) := by decide +kernel
theorem dX4_done_32 : decode cX4_done 32 = .ok (.iload_n 3, 1) := by decide +kernel
theorem dX4_done_33 : decode cX4_done 33 = .ok (.imul, 1) := by decide +kernel
theorem dX4_done_34 : decode cX4_done 34 = .ok (.iload 4, 2) := by decide +kernel
theorem dX4_done_36 : decode cX4_done 36 = .ok (.iadd, 1) := by decide +kernel
theorem dX4_done_37 : decode cX4_done 37 = .ok (.aload_n 0, 1) := by decide +kernel
theorem dX4_done_38 : decode cX4_done 38 = .ok (.getfield 44, 3) := by decide +kernel
theorem dX4_done_41 : decode cX4_done 41 = .ok (.iload_n 1, 1) := by decide +kernel
theorem dX4_done_42 : decode cX4_done 42 = .ok (.iaload, 1) := by decide +kernel
theorem dX4_done_43 : decode cX4_done 43 = .ok (.iload 4, 2) := by decide +kernel
theorem dX4_done_45 : decode cX4_done 45 = .ok (.iadd, 1) := by decide +kernel
theorem dX4_done_46 : decode cX4_done 46 = .ok (.i2b, 1) := by decide +kernel
theorem dX4_done_47 : decode cX4_done 47 = .ok (.bastore, 1) := by decide +kernel
theorem dX4_done_48 : decode cX4_done 48 = .ok (.iinc 4 1, 3) := by decide +kernel
theorem dX4_done_51 : decode cX4_done 51 = .ok (.goto (-31), 3) := by decide +kernel
theorem dX4_done_54 : decode cX4_done 54 = .ok (.aload_n 0, 1) := by decide +kernel
theorem dX4_done_55 : decode cX4_done 55 = .ok (.getfield 26, 3) := by decide +kernel
theorem dX4_done_58 : decode cX4_done 58 = .ok (.aload_n 0, 1) := by decide +kernel
theorem dX4_done_59 : decode cX4_done 59 = .ok (.getfield 38, 3) := by decide +kernel
theorem dX4_done_62 : decode cX4_done 62 = .ok (.iload_n 1, 1) := by decide +kernel
theorem dX4_done_63 : decode cX4_done 63 = .ok (.iaload, 1) := by decide +kernel
theorem dX4_done_64 : decode cX4_done 64 = .ok (.iconst 1, 1) := by decide +kernel
theorem dX4_done_65 : decode cX4_done 65 = .ok (.iastore, 1) := by decide +kernel
theorem dX4_done_66 : decode cX4_done 66 = .ok (.return_, 1) := by decide +kernel
set_option maxRecDepth 20000 in
theorem ggX4_whole_X4_done : GoodIn wsX4_whole wsX4_done := goodIn_r _ [9, 1, 2, 10, 11, 4, 12, 13, 14, 8, 15, 16, 22, 23, 24, 25, 26, 27, 28, 29, 30, 31, 32, 33, 34, 35, 36, 37, 38, 39, 40, 41, 42] (by decide +kernel) (by decide +kernel)
set_option maxRecDepth 20000 in
theorem gX4_whole_X4_done : GoodIn wsX4_whole (wsV RX4 84 RX4 yX4_done wsX4_done) := goodIn_app (goodIn_of _ (by decide +kernel)) ggX4_whole_X4_done
set_option maxRecDepth 20000 in
theorem ggX4_whole_X4_lies : GoodIn wsX4_whole wsX4_lies := goodIn_r _ [15, 16, 22, 23, 24, 25, 26, 27, 28, 29, 30, 31, 32, 33, 34, 35, 36, 37, 38, 39, 40, 41, 42] (by decide +kernel) (by decide +kernel)
set_option maxRecDepth 20000 in
theorem gX4_whole_X4_lies : GoodIn wsX4_whole (wsV RX4 80 RX4 yX4_lies wsX4_lies) := goodIn_app (goodIn_of _ (by decide +kernel)) ggX4_whole_X4_lies
set_option maxRecDepth 20000 in
theorem ggX4_whole_X4_sumOf : GoodIn wsX4_whole wsX4_sumOf := goodIn_r _ [20, 10, 21, 22, 23, 24, 25, 26, 27, 28, 29, 30, 31, 32, 33, 34, 35, 36, 37, 38, 39, 40, 41, 42] (by decide +kernel) (by decide +kernel)
set_option maxRecDepth 20000 in
theorem gX4_whole_X4_sumOf : GoodIn wsX4_whole (wsV RX4 57 RX4 yX4_sumOf wsX4_sumOf) := goodIn_app (goodIn_of _ (by decide +kernel)) ggX4_whole_X4_sumOf
theorem dX4_whole_0 : decode cX4_whole 0 = .ok (.aload_n 0, 1) := by decide +kernel
theorem dX4_whole_1 : decode cX4_whole 1 = .ok (.iload_n 1, 1) := by decide +kernel
theorem dX4_whole_2 : decode cX4_whole 2 = .ok (.bipush 16, 2) := by decide +kernel
theorem dX4_whole_4 : decode cX4_whole 4 = .ok (.invokevirtual 84, 3) := by decide +kernel
theorem dX4_whole_7 : decode cX4_whole 7 = .ok (.aload_n 0, 1) := by decide +kernel
theorem dX4_whole_8 : decode cX4_whole 8 = .ok (.aload_n 0, 1) := by decide +kernel
theorem dX4_whole_9 : decode cX4_whole 9 = .ok (.getfield 38, 3) := by decide +kernel
theorem dX4_whole_12 : decode cX4_whole 12 = .ok (.iload_n 1, 1) := by decide +kernel
theorem dX4_whole_13 : decode cX4_whole 13 = .ok (.iaload, 1) := by decide +kernel
theorem dX4_whole_14 : decode cX4_whole 14 = .ok (.aload_n 0, 1) := by decide +kernel
theorem dX4_whole_15 : decode cX4_whole 15 = .ok (.getfield 41, 3) := by decide +kernel
theorem dX4_whole_18 : decode cX4_whole 18 = .ok (.iload_n 1, 1) := by decide +kernel
theorem dX4_whole_19 : decode cX4_whole 19 = .ok (.iaload, 1) := by decide +kernel
theorem dX4_whole_20 : decode cX4_whole 20 = .ok (.invokevirtual 80, 3) := by decide +kernel
theorem dX4_whole_23 : decode cX4_whole 23 = .ok (.istore_n 2, 1) := by decide +kernel
theorem dX4_whole_24 : decode cX4_whole 24 = .ok (.aload_n 0, 1) := by decide +kernel
theorem dX4_whole_25 : decode cX4_whole 25 = .ok (.getfield 16, 3) := by decide +kernel
theorem dX4_whole_28 : decode cX4_whole 28 = .ok (.iload_n 2, 1) := by decide +kernel
theorem dX4_whole_29 : decode cX4_whole 29 = .ok (.aload_n 0, 1) := by decide +kernel
theorem dX4_whole_30 : decode cX4_whole 30 = .ok (.iload_n 2, 1) := by decide +kernel
theorem dX4_whole_31 : decode cX4_whole 31 = .ok (.invokevirtual 57, 3) := by decide +kernel
theorem dX4_whole_34 : decode cX4_whole 34 = .ok (.iastore, 1) := by decide +kernel
theorem dX4_whole_35 : decode cX4_whole 35 = .ok (.aload_n 0, 1) := by decide +kernel
theorem dX4_whole_36 : decode cX4_whole 36 = .ok (.getfield 26, 3) := by decide +kernel
theorem dX4_whole_39 : decode cX4_whole 39 = .ok (.bipush 12, 2) := by decide +kernel
theorem dX4_whole_41 : decode cX4_whole 41 = .ok (.aload_n 0, 1) := by decide +kernel
theorem dX4_whole_42 : decode cX4_whole 42 = .ok (.getfield 38, 3) := by decide +kernel
theorem dX4_whole_45 : decode cX4_whole 45 = .ok (.iload_n 1, 1) := by decide +kernel
theorem dX4_whole_46 : decode cX4_whole 46 = .ok (.iaload, 1) := by decide +kernel
theorem dX4_whole_47 : decode cX4_whole 47 = .ok (.iadd, 1) := by decide +kernel
theorem dX4_whole_48 : decode cX4_whole 48 = .ok (.iconst 1, 1) := by decide +kernel
theorem dX4_whole_49 : decode cX4_whole 49 = .ok (.iastore, 1) := by decide +kernel
theorem dX4_whole_50 : decode cX4_whole 50 = .ok (.return_, 1) := by decide +kernel
set_option maxRecDepth 20000 in
theorem ggX4_sync_X4_whole : GoodIn wsX4_sync wsX4_whole := goodIn_r _ [8, 9, 10, 11, 12, 13, 14, 15, 7, 16, 17, 18, 19, 20, 21, 22, 23, 24, 25, 26, 27, 28, 29, 30, 31, 32, 33, 34, 35, 36, 37, 38, 39, 40, 41, 42, 43, 44, 45, 46, 47, 48, 49] (by decide +kernel) (by decide +kernel)
set_option maxRecDepth 20000 in
theorem gX4_sync_X4_whole : GoodIn wsX4_sync (wsV RX4 88 RX4 yX4_whole wsX4_whole) := goodIn_app (goodIn_of _ (by decide +kernel)) ggX4_sync_X4_whole
theorem dX4_sync_0 : decode cX4_sync 0 = .ok (.aload_n 0, 1) := by decide +kernel
theorem dX4_sync_1 : decode cX4_sync 1 = .ok (.iconst 0, 1) := by decide +kernel
theorem dX4_sync_2 : decode cX4_sync 2 = .ok (.putfield 61, 3) := by decide +kernel
theorem dX4_sync_5 : decode cX4_sync 5 = .ok (.aload_n 0, 1) := by decide +kernel
theorem dX4_sync_6 : decode cX4_sync 6 = .ok (.getfield 73, 3) := by decide +kernel
theorem dX4_sync_9 : decode cX4_sync 9 = .ok (.ifCond .eq 6, 3) := by decide +kernel
theorem dX4_sync_12 : decode cX4_sync 12 = .ok (.bipush (-5), 2) := by decide +kernel
theorem dX4_sync_14 : decode cX4_sync 14 = .ok (.ireturn, 1) := by decide +kernel
theorem dX4_sync_15 : decode cX4_sync 15 = .ok (.iconst 0, 1) := by decide +kernel
theorem dX4_sync_16 : decode cX4_sync 16 = .ok (.istore_n 1, 1) := by decide +kernel
theorem dX4_sync_17 : decode cX4_sync 17 = .ok (.iload_n 1, 1) := by decide +kernel
theorem dX4_sync_18 : decode cX4_sync 18 = .ok (.aload_n 0, 1) := by decide +kernel
theorem dX4_sync_19 : decode cX4_sync 19 = .ok (.getfield 77, 3) := by decide +kernel
theorem dX4_sync_22 : decode cX4_sync 22 = .ok (.if_icmp .ge 14, 3) := by decide +kernel
theorem dX4_sync_25 : decode cX4_sync 25 = .ok (.aload_n 0, 1) := by decide +kernel
theorem dX4_sync_26 : decode cX4_sync 26 = .ok (.iload_n 1, 1) := by decide +kernel
theorem dX4_sync_27 : decode cX4_sync 27 = .ok (.invokevirtual 88, 3) := by decide +kernel
theorem dX4_sync_30 : decode cX4_sync 30 = .ok (.iinc 1 1, 3) := by decide +kernel
theorem dX4_sync_33 : decode cX4_sync 33 = .ok (.goto (-16), 3) := by decide +kernel
theorem dX4_sync_36 : decode cX4_sync 36 = .ok (.aload_n 0, 1) := by decide +kernel
theorem dX4_sync_37 : decode cX4_sync 37 = .ok (.getfield 77, 3) := by decide +kernel
theorem dX4_sync_40 : decode cX4_sync 40 = .ok (.istore_n 1, 1) := by decide +kernel
theorem dX4_sync_41 : decode cX4_sync 41 = .ok (.aload_n 0, 1) := by decide +kernel
theorem dX4_sync_42 : decode cX4_sync 42 = .ok (.iconst 0, 1) := by decide +kernel
theorem dX4_sync_43 : decode cX4_sync 43 = .ok (.putfield 77, 3) := by decide +kernel
theorem dX4_sync_46 : decode cX4_sync 46 = .ok (.iload_n 1, 1) := by decide +kernel
theorem dX4_sync_47 : decode cX4_sync 47 = .ok (.ireturn, 1) := by decide +kernel
set_option maxRecDepth 20000 in
theorem ggX4_cut_X4_whole : GoodIn wsX4_cut wsX4_whole := goodIn_r _ [8, 9, 10, 11, 12, 13, 14, 15, 7, 16, 17, 18, 19, 20, 21, 22, 23, 24, 25, 26, 27, 28, 29, 30, 31, 32, 33, 34, 35, 36, 37, 38, 39, 40, 41, 42, 43, 44, 45, 46, 47, 48, 49] (by decide +kernel) (by decide +kernel)
set_option maxRecDepth 20000 in
theorem gX4_cut_X4_whole : GoodIn wsX4_cut (wsV RX4 88 RX4 yX4_whole wsX4_whole) := goodIn_app (goodIn_of _ (by decide +kernel)) ggX4_cut_X4_whole
set_option maxRecDepth 20000 in
theorem ggX4_cut_X4_done : GoodIn wsX4_cut wsX4_done := goodIn_r _ [16, 9, 10, 17, 18, 12, 19, 20, 21, 7, 22, 23, 29, 30, 31, 32, 33, 34, 35, 36, 37, 38, 39, 40, 41, 42, 43, 44, 45, 46, 47, 48, 49] (by decide +kernel) (by decide +kernel)
set_option maxRecDepth 20000 in
theorem gX4_cut_X4_done : GoodIn wsX4_cut (wsV RX4 84 RX4 yX4_done wsX4_done) := goodIn_app (goodIn_of _ (by decide +kernel)) ggX4_cut_X4_done
theorem dX4_cut_0 : decode cX4_cut 0 = .ok (.aload_n 0, 1) := by decide +kernel
theorem dX4_cut_1 : decode cX4_cut 1 = .ok (.iconst 0, 1) := by decide +kernel
theorem dX4_cut_2 : decode cX4_cut 2 = .ok (.putfield 61, 3) := by decide +kernel
theorem dX4_cut_5 : decode cX4_cut 5 = .ok (.aload_n 0, 1) := by decide +kernel
theorem dX4_cut_6 : decode cX4_cut 6 = .ok (.getfield 73, 3) := by decide +kernel
theorem dX4_cut_9 : decode cX4_cut 9 = .ok (.ifCond .eq 4, 3) := by decide +kernel
theorem dX4_cut_12 : decode cX4_cut 12 = .ok (.return_, 1) := by decide +kernel
theorem dX4_cut_13 : decode cX4_cut 13 = .ok (.iload_n 1, 1) := by decide +kernel
theorem dX4_cut_14 : decode cX4_cut 14 = .ok (.ifCond .ge 7, 3) := by decide +kernel
theorem dX4_cut_17 : decode cX4_cut 17 = .ok (.iconst 0, 1) := by decide +kernel
theorem dX4_cut_18 : decode cX4_cut 18 = .ok (.goto 19, 3) := by decide +kernel
theorem dX4_cut_21 : decode cX4_cut 21 = .ok (.iload_n 1, 1) := by decide +kernel
theorem dX4_cut_22 : decode cX4_cut 22 = .ok (.aload_n 0, 1) := by decide +kernel
theorem dX4_cut_23 : decode cX4_cut 23 = .ok (.getfield 77, 3) := by decide +kernel
theorem dX4_cut_26 : decode cX4_cut 26 = .ok (.if_icmp .le 10, 3) := by decide +kernel
theorem dX4_cut_29 : decode cX4_cut 29 = .ok (.aload_n 0, 1) := by decide +kernel
theorem dX4_cut_30 : decode cX4_cut 30 = .ok (.getfield 77, 3) := by decide +kernel
theorem dX4_cut_33 : decode cX4_cut 33 = .ok (.goto 4, 3) := by decide +kernel
theorem dX4_cut_36 : decode cX4_cut 36 = .ok (.iload_n 1, 1) := by decide +kernel
theorem dX4_cut_37 : decode cX4_cut 37 = .ok (.istore_n 3, 1) := by decide +kernel
theorem dX4_cut_38 : decode cX4_cut 38 = .ok (.iconst 0, 1) := by decide +kernel
theorem dX4_cut_39 : decode cX4_cut 39 = .ok (.istore 4, 2) := by decide +kernel
theorem dX4_cut_41 : decode cX4_cut 41 = .ok (.iload 4, 2) := by decide +kernel
theorem dX4_cut_43 : decode cX4_cut 43 = .ok (.iload_n 3, 1) := by decide +kernel
theorem dX4_cut_44 : decode cX4_cut 44 = .ok (.if_icmp .ge 15, 3) := by decide +kernel
theorem dX4_cut_47 : decode cX4_cut 47 = .ok (.aload_n 0, 1) := by decide +kernel
theorem dX4_cut_48 : decode cX4_cut 48 = .ok (.iload 4, 2) := by decide +kernel
theorem dX4_cut_50 : decode cX4_cut 50 = .ok (.invokevirtual 88, 3) := by decide +kernel
theorem dX4_cut_53 : decode cX4_cut 53 = .ok (.iinc 4 1, 3) := by decide +kernel
theorem dX4_cut_56 : decode cX4_cut 56 = .ok (.goto (-15), 3) := by decide +kernel
theorem dX4_cut_59 : decode cX4_cut 59 = .ok (.iload_n 3, 1) := by decide +kernel
theorem dX4_cut_60 : decode cX4_cut 60 = .ok (.aload_n 0, 1) := by decide +kernel
theorem dX4_cut_61 : decode cX4_cut 61 = .ok (.getfield 77, 3) := by decide +kernel
theorem dX4_cut_64 : decode cX4_cut 64 = .ok (.if_icmp .ge 28, 3) := by decide +kernel
theorem dX4_cut_67 : decode cX4_cut 67 = .ok (.aload_n 0, 1) := by decide +kernel
theorem dX4_cut_68 : decode cX4_cut 68 = .ok (.iload_n 3, 1) := by decide +kernel
theorem dX4_cut_69 : decode cX4_cut 69 = .ok (.iload_n 2, 1) := by decide +kernel
theorem dX4_cut_70 : decode cX4_cut 70 = .ok (.ifCond .ge 7, 3) := by decide +kernel
theorem dX4_cut_73 : decode cX4_cut 73 = .ok (.iconst 0, 1) := by decide +kernel
theorem dX4_cut_74 : decode cX4_cut 74 = .ok (.goto 15, 3) := by decide +kernel
theorem dX4_cut_77 : decode cX4_cut 77 = .ok (.iload_n 2, 1) := by decide +kernel
theorem dX4_cut_78 : decode cX4_cut 78 = .ok (.bipush 16, 2) := by decide +kernel
theorem dX4_cut_80 : decode cX4_cut 80 = .ok (.if_icmp .le 8, 3) := by decide +kernel
theorem dX4_cut_83 : decode cX4_cut 83 = .ok (.bipush 16, 2) := by decide +kernel
theorem dX4_cut_85 : decode cX4_cut 85 = .ok (.goto 4, 3) := by decide +kernel
theorem dX4_cut_88 : decode cX4_cut 88 = .ok (.iload_n 2, 1) := by decide +kernel
theorem dX4_cut_89 : decode cX4_cut 89 = .ok (.invokevirtual 84, 3) := by decide +kernel
theorem dX4_cut_92 : decode cX4_cut 92 = .ok (.aload_n 0, 1) := by decide +kernel
theorem dX4_cut_93 : decode cX4_cut 93 = .ok (.iconst 0, 1) := by decide +kernel
theorem dX4_cut_94 : decode cX4_cut 94 = .ok (.putfield 77, 3) := by decide +kernel
theorem dX4_cut_97 : decode cX4_cut 97 = .ok (.aload_n 0, 1) := by decide +kernel
theorem dX4_cut_98 : decode cX4_cut 98 = .ok (.iconst 1, 1) := by decide +kernel
theorem dX4_cut_99 : decode cX4_cut 99 = .ok (.putfield 73, 3) := by decide +kernel
theorem dX4_cut_102 : decode cX4_cut 102 = .ok (.return_, 1) := by decide +kernel
set_option maxRecDepth 20000 in
theorem ggX4_isWrong_X4_lies : GoodIn wsX4_isWrong wsX4_lies := goodIn_r _ [6, 7, 14, 15, 16, 17, 18, 19, 20, 21, 22, 23, 24, 25, 26, 27, 28, 29, 30, 31, 32, 33, 34] (by decide +kernel) (by decide +kernel)
set_option maxRecDepth 20000 in
theorem gX4_isWrong_X4_lies : GoodIn wsX4_isWrong (wsV RX4 80 RX4 yX4_lies wsX4_lies) := goodIn_app (goodIn_of _ (by decide +kernel)) ggX4_isWrong_X4_lies
set_option maxRecDepth 20000 in
theorem ggX4_isWrong_X4_sumOf : GoodIn wsX4_isWrong wsX4_sumOf := goodIn_r _ [11, 12, 13, 14, 15, 16, 17, 18, 19, 20, 21, 22, 23, 24, 25, 26, 27, 28, 29, 30, 31, 32, 33, 34] (by decide +kernel) (by decide +kernel)
set_option maxRecDepth 20000 in
theorem gX4_isWrong_X4_sumOf : GoodIn wsX4_isWrong (wsV RX4 57 RX4 yX4_sumOf wsX4_sumOf) := goodIn_app (goodIn_of _ (by decide +kernel)) ggX4_isWrong_X4_sumOf
theorem dX4_isWrong_0 : decode cX4_isWrong 0 = .ok (.aload_n 0, 1) := by decide +kernel
theorem dX4_isWrong_1 : decode cX4_isWrong 1 = .ok (.iload_n 1, 1) := by decide +kernel
theorem dX4_isWrong_2 : decode cX4_isWrong 2 = .ok (.iload_n 2, 1) := by decide +kernel
theorem dX4_isWrong_3 : decode cX4_isWrong 3 = .ok (.invokevirtual 80, 3) := by decide +kernel
theorem dX4_isWrong_6 : decode cX4_isWrong 6 = .ok (.istore_n 3, 1) := by decide +kernel
theorem dX4_isWrong_7 : decode cX4_isWrong 7 = .ok (.aload_n 0, 1) := by decide +kernel
theorem dX4_isWrong_8 : decode cX4_isWrong 8 = .ok (.getfield 16, 3) := by decide +kernel
theorem dX4_isWrong_11 : decode cX4_isWrong 11 = .ok (.iload_n 3, 1) := by decide +kernel
theorem dX4_isWrong_12 : decode cX4_isWrong 12 = .ok (.iaload, 1) := by decide +kernel
theorem dX4_isWrong_13 : decode cX4_isWrong 13 = .ok (.aload_n 0, 1) := by decide +kernel
theorem dX4_isWrong_14 : decode cX4_isWrong 14 = .ok (.iload_n 3, 1) := by decide +kernel
theorem dX4_isWrong_15 : decode cX4_isWrong 15 = .ok (.invokevirtual 57, 3) := by decide +kernel
theorem dX4_isWrong_18 : decode cX4_isWrong 18 = .ok (.if_icmp .eq 7, 3) := by decide +kernel
theorem dX4_isWrong_21 : decode cX4_isWrong 21 = .ok (.iconst 1, 1) := by decide +kernel
theorem dX4_isWrong_22 : decode cX4_isWrong 22 = .ok (.goto 4, 3) := by decide +kernel
theorem dX4_isWrong_25 : decode cX4_isWrong 25 = .ok (.iconst 0, 1) := by decide +kernel
theorem dX4_isWrong_26 : decode cX4_isWrong 26 = .ok (.ireturn, 1) := by decide +kernel
set_option maxRecDepth 20000 in
theorem ggX4_wrong_X4_isWrong : GoodIn wsX4_wrong wsX4_isWrong := goodIn_r _ [8, 9, 10, 11, 12, 7, 13, 14, 15, 16, 17, 18, 19, 20, 21, 22, 23, 24, 25, 26, 27, 28, 29, 30, 31, 32, 33, 34, 35, 36, 37, 38, 39, 40, 41] (by decide +kernel) (by decide +kernel)
set_option maxRecDepth 20000 in
theorem gX4_wrong_X4_isWrong : GoodIn wsX4_wrong (wsV RX4 92 RX4 yX4_isWrong wsX4_isWrong) := goodIn_app (goodIn_of _ (by decide +kernel)) ggX4_wrong_X4_isWrong
theorem dX4_wrong_0 : decode cX4_wrong 0 = .ok (.aload_n 0, 1) := by decide +kernel
theorem dX4_wrong_1 : decode cX4_wrong 1 = .ok (.iconst 0, 1) := by decide +kernel
theorem dX4_wrong_2 : decode cX4_wrong 2 = .ok (.putfield 61, 3) := by decide +kernel
theorem dX4_wrong_5 : decode cX4_wrong 5 = .ok (.iconst 0, 1) := by decide +kernel
theorem dX4_wrong_6 : decode cX4_wrong 6 = .ok (.istore_n 2, 1) := by decide +kernel
theorem dX4_wrong_7 : decode cX4_wrong 7 = .ok (.iconst (-1), 1) := by decide +kernel
theorem dX4_wrong_8 : decode cX4_wrong 8 = .ok (.istore_n 3, 1) := by decide +kernel
theorem dX4_wrong_9 : decode cX4_wrong 9 = .ok (.aload_n 0, 1) := by decide +kernel
theorem dX4_wrong_10 : decode cX4_wrong 10 = .ok (.getfield 50, 3) := by decide +kernel
theorem dX4_wrong_13 : decode cX4_wrong 13 = .ok (.bipush 8, 2) := by decide +kernel
theorem dX4_wrong_15 : decode cX4_wrong 15 = .ok (.imul, 1) := by decide +kernel
theorem dX4_wrong_16 : decode cX4_wrong 16 = .ok (.iconst 1, 1) := by decide +kernel
theorem dX4_wrong_17 : decode cX4_wrong 17 = .ok (.isub, 1) := by decide +kernel
theorem dX4_wrong_18 : decode cX4_wrong 18 = .ok (.istore 4, 2) := by decide +kernel
theorem dX4_wrong_20 : decode cX4_wrong 20 = .ok (.iload 4, 2) := by decide +kernel
theorem dX4_wrong_22 : decode cX4_wrong 22 = .ok (.ifCond .lt 47, 3) := by decide +kernel
theorem dX4_wrong_25 : decode cX4_wrong 25 = .ok (.iload 4, 2) := by decide +kernel
theorem dX4_wrong_27 : decode cX4_wrong 27 = .ok (.bipush 8, 2) := by decide +kernel
theorem dX4_wrong_29 : decode cX4_wrong 29 = .ok (.irem, 1) := by decide +kernel
theorem dX4_wrong_30 : decode cX4_wrong 30 = .ok (.aload_n 0, 1) := by decide +kernel
theorem dX4_wrong_31 : decode cX4_wrong 31 = .ok (.getfield 54, 3) := by decide +kernel
theorem dX4_wrong_34 : decode cX4_wrong 34 = .ok (.if_icmp .ge 29, 3) := by decide +kernel
theorem dX4_wrong_37 : decode cX4_wrong 37 = .ok (.aload_n 0, 1) := by decide +kernel
theorem dX4_wrong_38 : decode cX4_wrong 38 = .ok (.iload 4, 2) := by decide +kernel
theorem dX4_wrong_40 : decode cX4_wrong 40 = .ok (.bipush 8, 2) := by decide +kernel
theorem dX4_wrong_42 : decode cX4_wrong 42 = .ok (.idiv, 1) := by decide +kernel
theorem dX4_wrong_43 : decode cX4_wrong 43 = .ok (.iload 4, 2) := by decide +kernel
theorem dX4_wrong_45 : decode cX4_wrong 45 = .ok (.bipush 8, 2) := by decide +kernel
theorem dX4_wrong_47 : decode cX4_wrong 47 = .ok (.irem, 1) := by decide +kernel
theorem dX4_wrong_48 : decode cX4_wrong 48 = .ok (.invokevirtual 92, 3) := by decide +kernel
theorem dX4_wrong_51 : decode cX4_wrong 51 = .ok (.ifCond .ne 6, 3) := by decide +kernel
theorem dX4_wrong_54 : decode cX4_wrong 54 = .ok (.goto 9, 3) := by decide +kernel
theorem dX4_wrong_57 : decode cX4_wrong 57 = .ok (.iinc 2 1, 3) := by decide +kernel
theorem dX4_wrong_60 : decode cX4_wrong 60 = .ok (.iload 4, 2) := by decide +kernel
theorem dX4_wrong_62 : decode cX4_wrong 62 = .ok (.istore_n 3, 1) := by decide +kernel
theorem dX4_wrong_63 : decode cX4_wrong 63 = .ok (.iinc 4 (-1), 3) := by decide +kernel
theorem dX4_wrong_66 : decode cX4_wrong 66 = .ok (.goto (-46), 3) := by decide +kernel
theorem dX4_wrong_69 : decode cX4_wrong 69 = .ok (.iload_n 1, 1) := by decide +kernel
theorem dX4_wrong_70 : decode cX4_wrong 70 = .ok (.ifCond .ne 5, 3) := by decide +kernel
theorem dX4_wrong_73 : decode cX4_wrong 73 = .ok (.iload_n 2, 1) := by decide +kernel
theorem dX4_wrong_74 : decode cX4_wrong 74 = .ok (.ireturn, 1) := by decide +kernel
theorem dX4_wrong_75 : decode cX4_wrong 75 = .ok (.iload_n 2, 1) := by decide +kernel
theorem dX4_wrong_76 : decode cX4_wrong 76 = .ok (.ifCond .eq 13, 3) := by decide +kernel
theorem dX4_wrong_79 : decode cX4_wrong 79 = .ok (.iload_n 1, 1) := by decide +kernel
theorem dX4_wrong_80 : decode cX4_wrong 80 = .ok (.iconst 1, 1) := by decide +kernel
theorem dX4_wrong_81 : decode cX4_wrong 81 = .ok (.if_icmp .lt 8, 3) := by decide +kernel
theorem dX4_wrong_84 : decode cX4_wrong 84 = .ok (.iload_n 1, 1) := by decide +kernel
theorem dX4_wrong_85 : decode cX4_wrong 85 = .ok (.iconst 2, 1) := by decide +kernel
theorem dX4_wrong_86 : decode cX4_wrong 86 = .ok (.if_icmp .le 5, 3) := by decide +kernel
theorem dX4_wrong_89 : decode cX4_wrong 89 = .ok (.iconst (-1), 1) := by decide +kernel
theorem dX4_wrong_90 : decode cX4_wrong 90 = .ok (.ireturn, 1) := by decide +kernel
theorem dX4_wrong_91 : decode cX4_wrong 91 = .ok (.iload_n 1, 1) := by decide +kernel
theorem dX4_wrong_92 : decode cX4_wrong 92 = .ok (.iconst 1, 1) := by decide +kernel
theorem dX4_wrong_93 : decode cX4_wrong 93 = .ok (.if_icmp .ne 10, 3) := by decide +kernel
theorem dX4_wrong_96 : decode cX4_wrong 96 = .ok (.iload_n 3, 1) := by decide +kernel
theorem dX4_wrong_97 : decode cX4_wrong 97 = .ok (.bipush 8, 2) := by decide +kernel
theorem dX4_wrong_99 : decode cX4_wrong 99 = .ok (.idiv, 1) := by decide +kernel
theorem dX4_wrong_100 : decode cX4_wrong 100 = .ok (.goto 7, 3) := by decide +kernel
theorem dX4_wrong_103 : decode cX4_wrong 103 = .ok (.iload_n 3, 1) := by decide +kernel
theorem dX4_wrong_104 : decode cX4_wrong 104 = .ok (.bipush 8, 2) := by decide +kernel
theorem dX4_wrong_106 : decode cX4_wrong 106 = .ok (.irem, 1) := by decide +kernel
theorem dX4_wrong_107 : decode cX4_wrong 107 = .ok (.ireturn, 1) := by decide +kernel
set_option maxRecDepth 20000 in
theorem ggX4_start_X4_wrong : GoodIn wsX4_start wsX4_wrong := goodIn_r _ [7, 1, 8, 9, 10, 11, 12, 6, 13, 14, 15, 16, 17, 18, 19, 20, 21, 22, 23, 24, 25, 26, 27, 28, 29, 30, 31, 32, 33, 34, 35, 36, 37, 38, 39, 40, 41, 42, 43, 44, 45, 46] (by decide +kernel) (by decide +kernel)
set_option maxRecDepth 20000 in
theorem gX4_start_X4_wrong : GoodIn wsX4_start (wsV RX4 95 RX4 yX4_wrong wsX4_wrong) := goodIn_app (goodIn_of _ (by decide +kernel)) ggX4_start_X4_wrong
theorem dX4_start_0 : decode cX4_start 0 = .ok (.aload_n 0, 1) := by decide +kernel
theorem dX4_start_1 : decode cX4_start 1 = .ok (.iconst 0, 1) := by decide +kernel
theorem dX4_start_2 : decode cX4_start 2 = .ok (.putfield 61, 3) := by decide +kernel
theorem dX4_start_5 : decode cX4_start 5 = .ok (.aload_n 0, 1) := by decide +kernel
theorem dX4_start_6 : decode cX4_start 6 = .ok (.getfield 73, 3) := by decide +kernel
theorem dX4_start_9 : decode cX4_start 9 = .ok (.ifCond .ne 6, 3) := by decide +kernel
theorem dX4_start_12 : decode cX4_start 12 = .ok (.bipush (-5), 2) := by decide +kernel
theorem dX4_start_14 : decode cX4_start 14 = .ok (.ireturn, 1) := by decide +kernel
theorem dX4_start_15 : decode cX4_start 15 = .ok (.aload_n 0, 1) := by decide +kernel
theorem dX4_start_16 : decode cX4_start 16 = .ok (.iconst 0, 1) := by decide +kernel
theorem dX4_start_17 : decode cX4_start 17 = .ok (.putfield 73, 3) := by decide +kernel
theorem dX4_start_20 : decode cX4_start 20 = .ok (.aload_n 0, 1) := by decide +kernel
theorem dX4_start_21 : decode cX4_start 21 = .ok (.iconst 0, 1) := by decide +kernel
theorem dX4_start_22 : decode cX4_start 22 = .ok (.invokevirtual 95, 3) := by decide +kernel
theorem dX4_start_25 : decode cX4_start 25 = .ok (.ireturn, 1) := by decide +kernel
set_option maxRecDepth 20000 in
theorem ggX4_poke_X4_isSector : GoodIn wsX4_poke wsX4_isSector := goodIn_r _ [7, 8, 9, 10, 11, 6, 12, 13, 19, 20, 21, 22, 23, 24, 25, 26, 27, 28, 29, 30, 31, 32, 33, 34, 35, 36, 37, 38, 39] (by decide +kernel) (by decide +kernel)
set_option maxRecDepth 20000 in
theorem gX4_poke_X4_isSector : GoodIn wsX4_poke (wsV RX4 69 RX4 yX4_isSector wsX4_isSector) := goodIn_app (goodIn_of _ (by decide +kernel)) ggX4_poke_X4_isSector
set_option maxRecDepth 20000 in
theorem ggX4_poke_X4_lies : GoodIn wsX4_poke wsX4_lies := goodIn_r _ [17, 18, 19, 20, 21, 22, 23, 24, 25, 26, 27, 28, 29, 30, 31, 32, 33, 34, 35, 36, 37, 38, 39] (by decide +kernel) (by decide +kernel)
set_option maxRecDepth 20000 in
theorem gX4_poke_X4_lies : GoodIn wsX4_poke (wsV RX4 80 RX4 yX4_lies wsX4_lies) := goodIn_app (goodIn_of _ (by decide +kernel)) ggX4_poke_X4_lies
theorem dX4_poke_0 : decode cX4_poke 0 = .ok (.aload_n 0, 1) := by decide +kernel
theorem dX4_poke_1 : decode cX4_poke 1 = .ok (.iconst 0, 1) := by decide +kernel
theorem dX4_poke_2 : decode cX4_poke 2 = .ok (.putfield 61, 3) := by decide +kernel
theorem dX4_poke_5 : decode cX4_poke 5 = .ok (.aload_n 0, 1) := by decide +kernel
theorem dX4_poke_6 : decode cX4_poke 6 = .ok (.iload_n 1, 1) := by decide +kernel
theorem dX4_poke_7 : decode cX4_poke 7 = .ok (.iload_n 2, 1) := by decide +kernel
theorem dX4_poke_8 : decode cX4_poke 8 = .ok (.invokevirtual 69, 3) := by decide +kernel
theorem dX4_poke_11 : decode cX4_poke 11 = .ok (.ifCond .ne 6, 3) := by decide +kernel
theorem dX4_poke_14 : decode cX4_poke 14 = .ok (.bipush (-2), 2) := by decide +kernel
theorem dX4_poke_16 : decode cX4_poke 16 = .ok (.ireturn, 1) := by decide +kernel
theorem dX4_poke_17 : decode cX4_poke 17 = .ok (.iload_n 3, 1) := by decide +kernel
theorem dX4_poke_18 : decode cX4_poke 18 = .ok (.ifCond .lt 18, 3) := by decide +kernel
theorem dX4_poke_21 : decode cX4_poke 21 = .ok (.iload_n 3, 1) := by decide +kernel
theorem dX4_poke_22 : decode cX4_poke 22 = .ok (.bipush 16, 2) := by decide +kernel
theorem dX4_poke_24 : decode cX4_poke 24 = .ok (.if_icmp .ge 12, 3) := by decide +kernel
theorem dX4_poke_27 : decode cX4_poke 27 = .ok (.iload 4, 2) := by decide +kernel
theorem dX4_poke_29 : decode cX4_poke 29 = .ok (.sipush 255, 3) := by decide +kernel
theorem dX4_poke_32 : decode cX4_poke 32 = .ok (.iand, 1) := by decide +kernel
theorem dX4_poke_33 : decode cX4_poke 33 = .ok (.ifCond .ne 6, 3) := by decide +kernel
theorem dX4_poke_36 : decode cX4_poke 36 = .ok (.bipush (-4), 2) := by decide +kernel
theorem dX4_poke_38 : decode cX4_poke 38 = .ok (.ireturn, 1) := by decide +kernel
theorem dX4_poke_39 : decode cX4_poke 39 = .ok (.bipush 16, 2) := by decide +kernel
theorem dX4_poke_41 : decode cX4_poke 41 = .ok (.aload_n 0, 1) := by decide +kernel
theorem dX4_poke_42 : decode cX4_poke 42 = .ok (.iload_n 1, 1) := by decide +kernel
theorem dX4_poke_43 : decode cX4_poke 43 = .ok (.iload_n 2, 1) := by decide +kernel
theorem dX4_poke_44 : decode cX4_poke 44 = .ok (.invokevirtual 80, 3) := by decide +kernel
theorem dX4_poke_47 : decode cX4_poke 47 = .ok (.imul, 1) := by decide +kernel
theorem dX4_poke_48 : decode cX4_poke 48 = .ok (.iload_n 3, 1) := by decide +kernel
theorem dX4_poke_49 : decode cX4_poke 49 = .ok (.iadd, 1) := by decide +kernel
theorem dX4_poke_50 : decode cX4_poke 50 = .ok (.istore 5, 2) := by decide +kernel
theorem dX4_poke_52 : decode cX4_poke 52 = .ok (.aload_n 0, 1) := by decide +kernel
theorem dX4_poke_53 : decode cX4_poke 53 = .ok (.getfield 7, 3) := by decide +kernel
theorem dX4_poke_56 : decode cX4_poke 56 = .ok (.iload 5, 2) := by decide +kernel
theorem dX4_poke_58 : decode cX4_poke 58 = .ok (.baload, 1) := by decide +kernel
theorem dX4_poke_59 : decode cX4_poke 59 = .ok (.sipush 255, 3) := by decide +kernel
theorem dX4_poke_62 : decode cX4_poke 62 = .ok (.iand, 1) := by decide +kernel
theorem dX4_poke_63 : decode cX4_poke 63 = .ok (.istore 6, 2) := by decide +kernel
theorem dX4_poke_65 : decode cX4_poke 65 = .ok (.aload_n 0, 1) := by decide +kernel
theorem dX4_poke_66 : decode cX4_poke 66 = .ok (.getfield 7, 3) := by decide +kernel
theorem dX4_poke_69 : decode cX4_poke 69 = .ok (.iload 5, 2) := by decide +kernel
theorem dX4_poke_71 : decode cX4_poke 71 = .ok (.iload 6, 2) := by decide +kernel
theorem dX4_poke_73 : decode cX4_poke 73 = .ok (.iload 4, 2) := by decide +kernel
theorem dX4_poke_75 : decode cX4_poke 75 = .ok (.ixor, 1) := by decide +kernel
theorem dX4_poke_76 : decode cX4_poke 76 = .ok (.i2b, 1) := by decide +kernel
theorem dX4_poke_77 : decode cX4_poke 77 = .ok (.bastore, 1) := by decide +kernel
theorem dX4_poke_78 : decode cX4_poke 78 = .ok (.iload 6, 2) := by decide +kernel
theorem dX4_poke_80 : decode cX4_poke 80 = .ok (.ireturn, 1) := by decide +kernel
set_option maxRecDepth 20000 in
theorem ggX4_space_X4_isTrack : GoodIn wsX4_space wsX4_isTrack := goodIn_r _ [7, 8, 9, 10, 11, 12, 13, 14, 15, 16, 17, 18, 19, 20, 21, 22, 23, 24, 25, 26, 27, 28, 29] (by decide +kernel) (by decide +kernel)
set_option maxRecDepth 20000 in
theorem gX4_space_X4_isTrack : GoodIn wsX4_space (wsV RX4 64 RX4 yX4_isTrack wsX4_isTrack) := goodIn_app (goodIn_of _ (by decide +kernel)) ggX4_space_X4_isTrack
theorem dX4_space_0 : decode cX4_space 0 = .ok (.aload_n 0, 1) := by decide +kernel
theorem dX4_space_1 : decode cX4_space 1 = .ok (.iconst 0, 1) := by decide +kernel
theorem dX4_space_2 : decode cX4_space 2 = .ok (.putfield 61, 3) := by decide +kernel
theorem dX4_space_5 : decode cX4_space 5 = .ok (.iload_n 1, 1) := by decide +kernel
theorem dX4_space_6 : decode cX4_space 6 = .ok (.ifCond .lt 16, 3) := by decide +kernel
theorem dX4_space_9 : decode cX4_space 9 = .ok (.iload_n 1, 1) := by decide +kernel
theorem dX4_space_10 : decode cX4_space 10 = .ok (.iconst 1, 1) := by decide +kernel
theorem dX4_space_11 : decode cX4_space 11 = .ok (.if_icmp .gt 11, 3) := by decide +kernel
theorem dX4_space_14 : decode cX4_space 14 = .ok (.aload_n 0, 1) := by decide +kernel
theorem dX4_space_15 : decode cX4_space 15 = .ok (.iload_n 2, 1) := by decide +kernel
theorem dX4_space_16 : decode cX4_space 16 = .ok (.invokevirtual 64, 3) := by decide +kernel
theorem dX4_space_19 : decode cX4_space 19 = .ok (.ifCond .ne 8, 3) := by decide +kernel
theorem dX4_space_22 : decode cX4_space 22 = .ok (.bipush (-2), 2) := by decide +kernel
theorem dX4_space_24 : decode cX4_space 24 = .ok (.goto 14, 3) := by decide +kernel
theorem dX4_space_27 : decode cX4_space 27 = .ok (.aload_n 0, 1) := by decide +kernel
theorem dX4_space_28 : decode cX4_space 28 = .ok (.getfield 26, 3) := by decide +kernel
theorem dX4_space_31 : decode cX4_space 31 = .ok (.bipush 12, 2) := by decide +kernel
theorem dX4_space_33 : decode cX4_space 33 = .ok (.iload_n 1, 1) := by decide +kernel
theorem dX4_space_34 : decode cX4_space 34 = .ok (.imul, 1) := by decide +kernel
theorem dX4_space_35 : decode cX4_space 35 = .ok (.iload_n 2, 1) := by decide +kernel
theorem dX4_space_36 : decode cX4_space 36 = .ok (.iadd, 1) := by decide +kernel
theorem dX4_space_37 : decode cX4_space 37 = .ok (.iaload, 1) := by decide +kernel
theorem dX4_space_38 : decode cX4_space 38 = .ok (.ireturn, 1) := by decide +kernel
set_option maxRecDepth 20000 in
theorem ggX4_isUsed_X4_lies : GoodIn wsX4_isUsed wsX4_lies := goodIn_r _ [7, 8, 9, 10, 11, 12, 13, 14, 15, 16, 17, 18, 19, 20, 21, 22, 23, 24, 25, 26, 27, 28, 29] (by decide +kernel) (by decide +kernel)
set_option maxRecDepth 20000 in
theorem gX4_isUsed_X4_lies : GoodIn wsX4_isUsed (wsV RX4 80 RX4 yX4_lies wsX4_lies) := goodIn_app (goodIn_of _ (by decide +kernel)) ggX4_isUsed_X4_lies
theorem dX4_isUsed_0 : decode cX4_isUsed 0 = .ok (.iconst 0, 1) := by decide +kernel
theorem dX4_isUsed_1 : decode cX4_isUsed 1 = .ok (.istore_n 2, 1) := by decide +kernel
theorem dX4_isUsed_2 : decode cX4_isUsed 2 = .ok (.iconst 0, 1) := by decide +kernel
theorem dX4_isUsed_3 : decode cX4_isUsed 3 = .ok (.istore_n 3, 1) := by decide +kernel
theorem dX4_isUsed_4 : decode cX4_isUsed 4 = .ok (.iload_n 3, 1) := by decide +kernel
theorem dX4_isUsed_5 : decode cX4_isUsed 5 = .ok (.bipush 16, 2) := by decide +kernel
theorem dX4_isUsed_7 : decode cX4_isUsed 7 = .ok (.aload_n 0, 1) := by decide +kernel
theorem dX4_isUsed_8 : decode cX4_isUsed 8 = .ok (.getfield 54, 3) := by decide +kernel
theorem dX4_isUsed_11 : decode cX4_isUsed 11 = .ok (.imul, 1) := by decide +kernel
theorem dX4_isUsed_12 : decode cX4_isUsed 12 = .ok (.if_icmp .ge 34, 3) := by decide +kernel
theorem dX4_isUsed_15 : decode cX4_isUsed 15 = .ok (.aload_n 0, 1) := by decide +kernel
theorem dX4_isUsed_16 : decode cX4_isUsed 16 = .ok (.getfield 7, 3) := by decide +kernel
theorem dX4_isUsed_19 : decode cX4_isUsed 19 = .ok (.bipush 16, 2) := by decide +kernel
theorem dX4_isUsed_21 : decode cX4_isUsed 21 = .ok (.aload_n 0, 1) := by decide +kernel
theorem dX4_isUsed_22 : decode cX4_isUsed 22 = .ok (.iload_n 1, 1) := by decide +kernel
theorem dX4_isUsed_23 : decode cX4_isUsed 23 = .ok (.iconst 0, 1) := by decide +kernel
theorem dX4_isUsed_24 : decode cX4_isUsed 24 = .ok (.invokevirtual 80, 3) := by decide +kernel
theorem dX4_isUsed_27 : decode cX4_isUsed 27 = .ok (.imul, 1) := by decide +kernel
theorem dX4_isUsed_28 : decode cX4_isUsed 28 = .ok (.iload_n 3, 1) := by decide +kernel
theorem dX4_isUsed_29 : decode cX4_isUsed 29 = .ok (.iadd, 1) := by decide +kernel
theorem dX4_isUsed_30 : decode cX4_isUsed 30 = .ok (.baload, 1) := by decide +kernel
theorem dX4_isUsed_31 : decode cX4_isUsed 31 = .ok (.ifCond .eq 7, 3) := by decide +kernel
theorem dX4_isUsed_34 : decode cX4_isUsed 34 = .ok (.iconst 1, 1) := by decide +kernel
theorem dX4_isUsed_35 : decode cX4_isUsed 35 = .ok (.goto 4, 3) := by decide +kernel
theorem dX4_isUsed_38 : decode cX4_isUsed 38 = .ok (.iload_n 2, 1) := by decide +kernel
theorem dX4_isUsed_39 : decode cX4_isUsed 39 = .ok (.istore_n 2, 1) := by decide +kernel
theorem dX4_isUsed_40 : decode cX4_isUsed 40 = .ok (.iinc 3 1, 3) := by decide +kernel
theorem dX4_isUsed_43 : decode cX4_isUsed 43 = .ok (.goto (-39), 3) := by decide +kernel
theorem dX4_isUsed_46 : decode cX4_isUsed 46 = .ok (.iload_n 2, 1) := by decide +kernel
theorem dX4_isUsed_47 : decode cX4_isUsed 47 = .ok (.ireturn, 1) := by decide +kernel
set_option maxRecDepth 20000 in
theorem ggX4_mend_X4_isUsed : GoodIn wsX4_mend wsX4_isUsed := goodIn_r _ [9, 10, 11, 12, 13, 14, 8, 15, 16, 17, 18, 19, 20, 21, 22, 23, 24, 25, 26, 27, 28, 29, 30, 31, 32, 33, 34, 35, 36, 37] (by decide +kernel) (by decide +kernel)
set_option maxRecDepth 20000 in
theorem gX4_mend_X4_isUsed : GoodIn wsX4_mend (wsV RX4 98 RX4 yX4_isUsed wsX4_isUsed) := goodIn_app (goodIn_of _ (by decide +kernel)) ggX4_mend_X4_isUsed
theorem dX4_mend_0 : decode cX4_mend 0 = .ok (.aload_n 0, 1) := by decide +kernel
theorem dX4_mend_1 : decode cX4_mend 1 = .ok (.iconst 0, 1) := by decide +kernel
theorem dX4_mend_2 : decode cX4_mend 2 = .ok (.putfield 61, 3) := by decide +kernel
theorem dX4_mend_5 : decode cX4_mend 5 = .ok (.aload_n 0, 1) := by decide +kernel
theorem dX4_mend_6 : decode cX4_mend 6 = .ok (.getfield 73, 3) := by decide +kernel
theorem dX4_mend_9 : decode cX4_mend 9 = .ok (.ifCond .eq 6, 3) := by decide +kernel
theorem dX4_mend_12 : decode cX4_mend 12 = .ok (.bipush (-5), 2) := by decide +kernel
theorem dX4_mend_14 : decode cX4_mend 14 = .ok (.ireturn, 1) := by decide +kernel
theorem dX4_mend_15 : decode cX4_mend 15 = .ok (.iconst 0, 1) := by decide +kernel
theorem dX4_mend_16 : decode cX4_mend 16 = .ok (.istore_n 1, 1) := by decide +kernel
theorem dX4_mend_17 : decode cX4_mend 17 = .ok (.iconst 0, 1) := by decide +kernel
theorem dX4_mend_18 : decode cX4_mend 18 = .ok (.istore_n 2, 1) := by decide +kernel
theorem dX4_mend_19 : decode cX4_mend 19 = .ok (.iload_n 2, 1) := by decide +kernel
theorem dX4_mend_20 : decode cX4_mend 20 = .ok (.aload_n 0, 1) := by decide +kernel
theorem dX4_mend_21 : decode cX4_mend 21 = .ok (.getfield 50, 3) := by decide +kernel
theorem dX4_mend_24 : decode cX4_mend 24 = .ok (.if_icmp .ge 59, 3) := by decide +kernel
theorem dX4_mend_27 : decode cX4_mend 27 = .ok (.aload_n 0, 1) := by decide +kernel
theorem dX4_mend_28 : decode cX4_mend 28 = .ok (.getfield 26, 3) := by decide +kernel
theorem dX4_mend_31 : decode cX4_mend 31 = .ok (.iload_n 2, 1) := by decide +kernel
theorem dX4_mend_32 : decode cX4_mend 32 = .ok (.iaload, 1) := by decide +kernel
theorem dX4_mend_33 : decode cX4_mend 33 = .ok (.aload_n 0, 1) := by decide +kernel
theorem dX4_mend_34 : decode cX4_mend 34 = .ok (.getfield 26, 3) := by decide +kernel
theorem dX4_mend_37 : decode cX4_mend 37 = .ok (.bipush 12, 2) := by decide +kernel
theorem dX4_mend_39 : decode cX4_mend 39 = .ok (.iload_n 2, 1) := by decide +kernel
theorem dX4_mend_40 : decode cX4_mend 40 = .ok (.iadd, 1) := by decide +kernel
theorem dX4_mend_41 : decode cX4_mend 41 = .ok (.iaload, 1) := by decide +kernel
theorem dX4_mend_42 : decode cX4_mend 42 = .ok (.if_icmp .ne 6, 3) := by decide +kernel
theorem dX4_mend_45 : decode cX4_mend 45 = .ok (.goto 32, 3) := by decide +kernel
theorem dX4_mend_48 : decode cX4_mend 48 = .ok (.iinc 1 1, 3) := by decide +kernel
theorem dX4_mend_51 : decode cX4_mend 51 = .ok (.aload_n 0, 1) := by decide +kernel
theorem dX4_mend_52 : decode cX4_mend 52 = .ok (.getfield 26, 3) := by decide +kernel
theorem dX4_mend_55 : decode cX4_mend 55 = .ok (.iload_n 2, 1) := by decide +kernel
theorem dX4_mend_56 : decode cX4_mend 56 = .ok (.aload_n 0, 1) := by decide +kernel
theorem dX4_mend_57 : decode cX4_mend 57 = .ok (.iload_n 2, 1) := by decide +kernel
theorem dX4_mend_58 : decode cX4_mend 58 = .ok (.invokevirtual 98, 3) := by decide +kernel
theorem dX4_mend_61 : decode cX4_mend 61 = .ok (.iastore, 1) := by decide +kernel
theorem dX4_mend_62 : decode cX4_mend 62 = .ok (.aload_n 0, 1) := by decide +kernel
theorem dX4_mend_63 : decode cX4_mend 63 = .ok (.getfield 26, 3) := by decide +kernel
theorem dX4_mend_66 : decode cX4_mend 66 = .ok (.bipush 12, 2) := by decide +kernel
theorem dX4_mend_68 : decode cX4_mend 68 = .ok (.iload_n 2, 1) := by decide +kernel
theorem dX4_mend_69 : decode cX4_mend 69 = .ok (.iadd, 1) := by decide +kernel
theorem dX4_mend_70 : decode cX4_mend 70 = .ok (.aload_n 0, 1) := by decide +kernel
theorem dX4_mend_71 : decode cX4_mend 71 = .ok (.getfield 26, 3) := by decide +kernel
theorem dX4_mend_74 : decode cX4_mend 74 = .ok (.iload_n 2, 1) := by decide +kernel
theorem dX4_mend_75 : decode cX4_mend 75 = .ok (.iaload, 1) := by decide +kernel
theorem dX4_mend_76 : decode cX4_mend 76 = .ok (.iastore, 1) := by decide +kernel
theorem dX4_mend_77 : decode cX4_mend 77 = .ok (.iinc 2 1, 3) := by decide +kernel
theorem dX4_mend_80 : decode cX4_mend 80 = .ok (.goto (-61), 3) := by decide +kernel
theorem dX4_mend_83 : decode cX4_mend 83 = .ok (.iload_n 1, 1) := by decide +kernel
theorem dX4_mend_84 : decode cX4_mend 84 = .ok (.ireturn, 1) := by decide +kernel
set_option maxRecDepth 20000 in
theorem ggX4_alternate_X4_isTrack : GoodIn wsX4_alternate wsX4_isTrack := goodIn_r _ [12, 4, 18, 19, 20, 21, 22, 23, 24, 25, 26, 27, 28, 29, 30, 31, 32, 33, 34, 35, 36, 37, 38] (by decide +kernel) (by decide +kernel)
set_option maxRecDepth 20000 in
theorem gX4_alternate_X4_isTrack : GoodIn wsX4_alternate (wsV RX4 64 RX4 yX4_isTrack wsX4_isTrack) := goodIn_app (goodIn_of _ (by decide +kernel)) ggX4_alternate_X4_isTrack
set_option maxRecDepth 20000 in
theorem ggX4_alternate_X4_sumOf : GoodIn wsX4_alternate wsX4_sumOf := goodIn_r _ [16, 6, 17, 18, 19, 20, 21, 22, 23, 24, 25, 26, 27, 28, 29, 30, 31, 32, 33, 34, 35, 36, 37, 38] (by decide +kernel) (by decide +kernel)
set_option maxRecDepth 20000 in
theorem gX4_alternate_X4_sumOf : GoodIn wsX4_alternate (wsV RX4 57 RX4 yX4_sumOf wsX4_sumOf) := goodIn_app (goodIn_of _ (by decide +kernel)) ggX4_alternate_X4_sumOf
theorem dX4_alternate_0 : decode cX4_alternate 0 = .ok (.aload_n 0, 1) := by decide +kernel
theorem dX4_alternate_1 : decode cX4_alternate 1 = .ok (.iconst 0, 1) := by decide +kernel
theorem dX4_alternate_2 : decode cX4_alternate 2 = .ok (.putfield 61, 3) := by decide +kernel
theorem dX4_alternate_5 : decode cX4_alternate 5 = .ok (.aload_n 0, 1) := by decide +kernel
theorem dX4_alternate_6 : decode cX4_alternate 6 = .ok (.iload_n 1, 1) := by decide +kernel
theorem dX4_alternate_7 : decode cX4_alternate 7 = .ok (.invokevirtual 64, 3) := by decide +kernel
theorem dX4_alternate_10 : decode cX4_alternate 10 = .ok (.ifCond .ne 6, 3) := by decide +kernel
theorem dX4_alternate_13 : decode cX4_alternate 13 = .ok (.bipush (-2), 2) := by decide +kernel
theorem dX4_alternate_15 : decode cX4_alternate 15 = .ok (.ireturn, 1) := by decide +kernel
theorem dX4_alternate_16 : decode cX4_alternate 16 = .ok (.aload_n 0, 1) := by decide +kernel
theorem dX4_alternate_17 : decode cX4_alternate 17 = .ok (.getfield 73, 3) := by decide +kernel
theorem dX4_alternate_20 : decode cX4_alternate 20 = .ok (.ifCond .eq 6, 3) := by decide +kernel
theorem dX4_alternate_23 : decode cX4_alternate 23 = .ok (.bipush (-5), 2) := by decide +kernel
theorem dX4_alternate_25 : decode cX4_alternate 25 = .ok (.ireturn, 1) := by decide +kernel
theorem dX4_alternate_26 : decode cX4_alternate 26 = .ok (.aload_n 0, 1) := by decide +kernel
theorem dX4_alternate_27 : decode cX4_alternate 27 = .ok (.getfield 23, 3) := by decide +kernel
theorem dX4_alternate_30 : decode cX4_alternate 30 = .ok (.iload_n 1, 1) := by decide +kernel
theorem dX4_alternate_31 : decode cX4_alternate 31 = .ok (.iaload, 1) := by decide +kernel
theorem dX4_alternate_32 : decode cX4_alternate 32 = .ok (.iconst (-1), 1) := by decide +kernel
theorem dX4_alternate_33 : decode cX4_alternate 33 = .ok (.if_icmp .eq 5, 3) := by decide +kernel
theorem dX4_alternate_36 : decode cX4_alternate 36 = .ok (.iconst 0, 1) := by decide +kernel
theorem dX4_alternate_37 : decode cX4_alternate 37 = .ok (.ireturn, 1) := by decide +kernel
theorem dX4_alternate_38 : decode cX4_alternate 38 = .ok (.aload_n 0, 1) := by decide +kernel
theorem dX4_alternate_39 : decode cX4_alternate 39 = .ok (.getfield 50, 3) := by decide +kernel
theorem dX4_alternate_42 : decode cX4_alternate 42 = .ok (.istore_n 2, 1) := by decide +kernel
theorem dX4_alternate_43 : decode cX4_alternate 43 = .ok (.iconst 0, 1) := by decide +kernel
theorem dX4_alternate_44 : decode cX4_alternate 44 = .ok (.istore_n 3, 1) := by decide +kernel
theorem dX4_alternate_45 : decode cX4_alternate 45 = .ok (.iload_n 3, 1) := by decide +kernel
theorem dX4_alternate_46 : decode cX4_alternate 46 = .ok (.iconst 2, 1) := by decide +kernel
theorem dX4_alternate_47 : decode cX4_alternate 47 = .ok (.if_icmp .ge 46, 3) := by decide +kernel
theorem dX4_alternate_50 : decode cX4_alternate 50 = .ok (.iconst 0, 1) := by decide +kernel
theorem dX4_alternate_51 : decode cX4_alternate 51 = .ok (.istore 4, 2) := by decide +kernel
theorem dX4_alternate_53 : decode cX4_alternate 53 = .ok (.iload 4, 2) := by decide +kernel
theorem dX4_alternate_55 : decode cX4_alternate 55 = .ok (.aload_n 0, 1) := by decide +kernel
theorem dX4_alternate_56 : decode cX4_alternate 56 = .ok (.getfield 50, 3) := by decide +kernel
theorem dX4_alternate_59 : decode cX4_alternate 59 = .ok (.if_icmp .ge 28, 3) := by decide +kernel
theorem dX4_alternate_62 : decode cX4_alternate 62 = .ok (.aload_n 0, 1) := by decide +kernel
theorem dX4_alternate_63 : decode cX4_alternate 63 = .ok (.getfield 23, 3) := by decide +kernel
theorem dX4_alternate_66 : decode cX4_alternate 66 = .ok (.iload 4, 2) := by decide +kernel
theorem dX4_alternate_68 : decode cX4_alternate 68 = .ok (.iaload, 1) := by decide +kernel
theorem dX4_alternate_69 : decode cX4_alternate 69 = .ok (.iload_n 2, 1) := by decide +kernel
theorem dX4_alternate_70 : decode cX4_alternate 70 = .ok (.if_icmp .ne 9, 3) := by decide +kernel
theorem dX4_alternate_73 : decode cX4_alternate 73 = .ok (.iload_n 2, 1) := by decide +kernel
theorem dX4_alternate_74 : decode cX4_alternate 74 = .ok (.iconst 1, 1) := by decide +kernel
theorem dX4_alternate_75 : decode cX4_alternate 75 = .ok (.iadd, 1) := by decide +kernel
theorem dX4_alternate_76 : decode cX4_alternate 76 = .ok (.goto 4, 3) := by decide +kernel
theorem dX4_alternate_79 : decode cX4_alternate 79 = .ok (.iload_n 2, 1) := by decide +kernel
theorem dX4_alternate_80 : decode cX4_alternate 80 = .ok (.istore_n 2, 1) := by decide +kernel
theorem dX4_alternate_81 : decode cX4_alternate 81 = .ok (.iinc 4 1, 3) := by decide +kernel
theorem dX4_alternate_84 : decode cX4_alternate 84 = .ok (.goto (-31), 3) := by decide +kernel
theorem dX4_alternate_87 : decode cX4_alternate 87 = .ok (.iinc 3 1, 3) := by decide +kernel
theorem dX4_alternate_90 : decode cX4_alternate 90 = .ok (.goto (-45), 3) := by decide +kernel
theorem dX4_alternate_93 : decode cX4_alternate 93 = .ok (.iload_n 2, 1) := by decide +kernel
theorem dX4_alternate_94 : decode cX4_alternate 94 = .ok (.aload_n 0, 1) := by decide +kernel
theorem dX4_alternate_95 : decode cX4_alternate 95 = .ok (.getfield 50, 3) := by decide +kernel
theorem dX4_alternate_98 : decode cX4_alternate 98 = .ok (.iconst 1, 1) := by decide +kernel
theorem dX4_alternate_99 : decode cX4_alternate 99 = .ok (.iadd, 1) := by decide +kernel
theorem dX4_alternate_100 : decode cX4_alternate 100 = .ok (.if_icmp .le 5, 3) := by decide +kernel
theorem dX4_alternate_103 : decode cX4_alternate 103 = .ok (.iconst 0, 1) := by decide +kernel
theorem dX4_alternate_104 : decode cX4_alternate 104 = .ok (.ireturn, 1) := by decide +kernel
theorem dX4_alternate_105 : decode cX4_alternate 105 = .ok (.iconst 0, 1) := by decide +kernel
theorem dX4_alternate_106 : decode cX4_alternate 106 = .ok (.istore_n 3, 1) := by decide +kernel
theorem dX4_alternate_107 : decode cX4_alternate 107 = .ok (.iload_n 3, 1) := by decide +kernel
theorem dX4_alternate_108 : decode cX4_alternate 108 = .ok (.bipush 16, 2) := by decide +kernel
theorem dX4_alternate_110 : decode cX4_alternate 110 = .ok (.aload_n 0, 1) := by decide +kernel
theorem dX4_alternate_111 : decode cX4_alternate 111 = .ok (.getfield 54, 3) := by decide +kernel
theorem dX4_alternate_114 : decode cX4_alternate 114 = .ok (.imul, 1) := by decide +kernel
theorem dX4_alternate_115 : decode cX4_alternate 115 = .ok (.if_icmp .ge 33, 3) := by decide +kernel
theorem dX4_alternate_118 : decode cX4_alternate 118 = .ok (.aload_n 0, 1) := by decide +kernel
theorem dX4_alternate_119 : decode cX4_alternate 119 = .ok (.getfield 7, 3) := by decide +kernel
theorem dX4_alternate_122 : decode cX4_alternate 122 = .ok (.sipush 128, 3) := by decide +kernel
theorem dX4_alternate_125 : decode cX4_alternate 125 = .ok (.iload_n 2, 1) := by decide +kernel
theorem dX4_alternate_126 : decode cX4_alternate 126 = .ok (.imul, 1) := by decide +kernel
theorem dX4_alternate_127 : decode cX4_alternate 127 = .ok (.iload_n 3, 1) := by decide +kernel
theorem dX4_alternate_128 : decode cX4_alternate 128 = .ok (.iadd, 1) := by decide +kernel
theorem dX4_alternate_129 : decode cX4_alternate 129 = .ok (.aload_n 0, 1) := by decide +kernel
theorem dX4_alternate_130 : decode cX4_alternate 130 = .ok (.getfield 7, 3) := by decide +kernel
theorem dX4_alternate_133 : decode cX4_alternate 133 = .ok (.sipush 128, 3) := by decide +kernel
theorem dX4_alternate_136 : decode cX4_alternate 136 = .ok (.iload_n 1, 1) := by decide +kernel
theorem dX4_alternate_137 : decode cX4_alternate 137 = .ok (.imul, 1) := by decide +kernel
theorem dX4_alternate_138 : decode cX4_alternate 138 = .ok (.iload_n 3, 1) := by decide +kernel
theorem dX4_alternate_139 : decode cX4_alternate 139 = .ok (.iadd, 1) := by decide +kernel
theorem dX4_alternate_140 : decode cX4_alternate 140 = .ok (.baload, 1) := by decide +kernel
theorem dX4_alternate_141 : decode cX4_alternate 141 = .ok (.bastore, 1) := by decide +kernel
theorem dX4_alternate_142 : decode cX4_alternate 142 = .ok (.iinc 3 1, 3) := by decide +kernel
theorem dX4_alternate_145 : decode cX4_alternate 145 = .ok (.goto (-38), 3) := by decide +kernel
theorem dX4_alternate_148 : decode cX4_alternate 148 = .ok (.iconst 0, 1) := by decide +kernel
theorem dX4_alternate_149 : decode cX4_alternate 149 = .ok (.istore_n 3, 1) := by decide +kernel
theorem dX4_alternate_150 : decode cX4_alternate 150 = .ok (.iload_n 3, 1) := by decide +kernel
theorem dX4_alternate_151 : decode cX4_alternate 151 = .ok (.aload_n 0, 1) := by decide +kernel
theorem dX4_alternate_152 : decode cX4_alternate 152 = .ok (.getfield 54, 3) := by decide +kernel
theorem dX4_alternate_155 : decode cX4_alternate 155 = .ok (.if_icmp .ge 30, 3) := by decide +kernel
theorem dX4_alternate_158 : decode cX4_alternate 158 = .ok (.aload_n 0, 1) := by decide +kernel
theorem dX4_alternate_159 : decode cX4_alternate 159 = .ok (.getfield 16, 3) := by decide +kernel
theorem dX4_alternate_162 : decode cX4_alternate 162 = .ok (.bipush 8, 2) := by decide +kernel
theorem dX4_alternate_164 : decode cX4_alternate 164 = .ok (.iload_n 2, 1) := by decide +kernel
theorem dX4_alternate_165 : decode cX4_alternate 165 = .ok (.imul, 1) := by decide +kernel
theorem dX4_alternate_166 : decode cX4_alternate 166 = .ok (.iload_n 3, 1) := by decide +kernel
theorem dX4_alternate_167 : decode cX4_alternate 167 = .ok (.iadd, 1) := by decide +kernel
theorem dX4_alternate_168 : decode cX4_alternate 168 = .ok (.aload_n 0, 1) := by decide +kernel
theorem dX4_alternate_169 : decode cX4_alternate 169 = .ok (.bipush 8, 2) := by decide +kernel
theorem dX4_alternate_171 : decode cX4_alternate 171 = .ok (.iload_n 2, 1) := by decide +kernel
theorem dX4_alternate_172 : decode cX4_alternate 172 = .ok (.imul, 1) := by decide +kernel
theorem dX4_alternate_173 : decode cX4_alternate 173 = .ok (.iload_n 3, 1) := by decide +kernel
theorem dX4_alternate_174 : decode cX4_alternate 174 = .ok (.iadd, 1) := by decide +kernel
theorem dX4_alternate_175 : decode cX4_alternate 175 = .ok (.invokevirtual 57, 3) := by decide +kernel
theorem dX4_alternate_178 : decode cX4_alternate 178 = .ok (.iastore, 1) := by decide +kernel
theorem dX4_alternate_179 : decode cX4_alternate 179 = .ok (.iinc 3 1, 3) := by decide +kernel
theorem dX4_alternate_182 : decode cX4_alternate 182 = .ok (.goto (-32), 3) := by decide +kernel
theorem dX4_alternate_185 : decode cX4_alternate 185 = .ok (.aload_n 0, 1) := by decide +kernel
theorem dX4_alternate_186 : decode cX4_alternate 186 = .ok (.getfield 23, 3) := by decide +kernel
theorem dX4_alternate_189 : decode cX4_alternate 189 = .ok (.iload_n 1, 1) := by decide +kernel
theorem dX4_alternate_190 : decode cX4_alternate 190 = .ok (.iload_n 2, 1) := by decide +kernel
theorem dX4_alternate_191 : decode cX4_alternate 191 = .ok (.iastore, 1) := by decide +kernel
theorem dX4_alternate_192 : decode cX4_alternate 192 = .ok (.iload_n 2, 1) := by decide +kernel
theorem dX4_alternate_193 : decode cX4_alternate 193 = .ok (.ireturn, 1) := by decide +kernel
theorem dX4_dump_0 : decode cX4_dump 0 = .ok (.aload_n 0, 1) := by decide +kernel
theorem dX4_dump_1 : decode cX4_dump 1 = .ok (.iconst 0, 1) := by decide +kernel
theorem dX4_dump_2 : decode cX4_dump 2 = .ok (.putfield 61, 3) := by decide +kernel
theorem dX4_dump_5 : decode cX4_dump 5 = .ok (.aload_n 0, 1) := by decide +kernel
theorem dX4_dump_6 : decode cX4_dump 6 = .ok (.getfield 73, 3) := by decide +kernel
theorem dX4_dump_9 : decode cX4_dump 9 = .ok (.ifCond .eq 6, 3) := by decide +kernel
theorem dX4_dump_12 : decode cX4_dump 12 = .ok (.bipush (-5), 2) := by decide +kernel
theorem dX4_dump_14 : decode cX4_dump 14 = .ok (.ireturn, 1) := by decide +kernel
theorem dX4_dump_15 : decode cX4_dump 15 = .ok (.aload_n 0, 1) := by decide +kernel
theorem dX4_dump_16 : decode cX4_dump 16 = .ok (.getfield 101, 3) := by decide +kernel
theorem dX4_dump_19 : decode cX4_dump 19 = .ok (.iconst 5, 1) := by decide +kernel
theorem dX4_dump_20 : decode cX4_dump 20 = .ok (.if_icmp .ne 5, 3) := by decide +kernel
theorem dX4_dump_23 : decode cX4_dump 23 = .ok (.iconst (-1), 1) := by decide +kernel
theorem dX4_dump_24 : decode cX4_dump 24 = .ok (.ireturn, 1) := by decide +kernel
theorem dX4_dump_25 : decode cX4_dump 25 = .ok (.iconst 0, 1) := by decide +kernel
theorem dX4_dump_26 : decode cX4_dump 26 = .ok (.istore_n 2, 1) := by decide +kernel
theorem dX4_dump_27 : decode cX4_dump 27 = .ok (.iload_n 2, 1) := by decide +kernel
theorem dX4_dump_28 : decode cX4_dump 28 = .ok (.sipush 1792, 3) := by decide +kernel
theorem dX4_dump_31 : decode cX4_dump 31 = .ok (.if_icmp .ge 30, 3) := by decide +kernel
theorem dX4_dump_34 : decode cX4_dump 34 = .ok (.aload_n 0, 1) := by decide +kernel
theorem dX4_dump_35 : decode cX4_dump 35 = .ok (.getfield 13, 3) := by decide +kernel
theorem dX4_dump_38 : decode cX4_dump 38 = .ok (.sipush 1792, 3) := by decide +kernel
theorem dX4_dump_41 : decode cX4_dump 41 = .ok (.aload_n 0, 1) := by decide +kernel
theorem dX4_dump_42 : decode cX4_dump 42 = .ok (.getfield 101, 3) := by decide +kernel
theorem dX4_dump_45 : decode cX4_dump 45 = .ok (.imul, 1) := by decide +kernel
theorem dX4_dump_46 : decode cX4_dump 46 = .ok (.iload_n 2, 1) := by decide +kernel
theorem dX4_dump_47 : decode cX4_dump 47 = .ok (.iadd, 1) := by decide +kernel
theorem dX4_dump_48 : decode cX4_dump 48 = .ok (.aload_n 0, 1) := by decide +kernel
theorem dX4_dump_49 : decode cX4_dump 49 = .ok (.getfield 7, 3) := by decide +kernel
theorem dX4_dump_52 : decode cX4_dump 52 = .ok (.iload_n 2, 1) := by decide +kernel
theorem dX4_dump_53 : decode cX4_dump 53 = .ok (.baload, 1) := by decide +kernel
theorem dX4_dump_54 : decode cX4_dump 54 = .ok (.bastore, 1) := by decide +kernel
theorem dX4_dump_55 : decode cX4_dump 55 = .ok (.iinc 2 1, 3) := by decide +kernel
theorem dX4_dump_58 : decode cX4_dump 58 = .ok (.goto (-31), 3) := by decide +kernel
theorem dX4_dump_61 : decode cX4_dump 61 = .ok (.iconst 0, 1) := by decide +kernel
theorem dX4_dump_62 : decode cX4_dump 62 = .ok (.istore_n 2, 1) := by decide +kernel
theorem dX4_dump_63 : decode cX4_dump 63 = .ok (.iload_n 2, 1) := by decide +kernel
theorem dX4_dump_64 : decode cX4_dump 64 = .ok (.bipush 112, 2) := by decide +kernel
theorem dX4_dump_66 : decode cX4_dump 66 = .ok (.if_icmp .ge 29, 3) := by decide +kernel
theorem dX4_dump_69 : decode cX4_dump 69 = .ok (.aload_n 0, 1) := by decide +kernel
theorem dX4_dump_70 : decode cX4_dump 70 = .ok (.getfield 20, 3) := by decide +kernel
theorem dX4_dump_73 : decode cX4_dump 73 = .ok (.bipush 112, 2) := by decide +kernel
theorem dX4_dump_75 : decode cX4_dump 75 = .ok (.aload_n 0, 1) := by decide +kernel
theorem dX4_dump_76 : decode cX4_dump 76 = .ok (.getfield 101, 3) := by decide +kernel
theorem dX4_dump_79 : decode cX4_dump 79 = .ok (.imul, 1) := by decide +kernel
theorem dX4_dump_80 : decode cX4_dump 80 = .ok (.iload_n 2, 1) := by decide +kernel
theorem dX4_dump_81 : decode cX4_dump 81 = .ok (.iadd, 1) := by decide +kernel
theorem dX4_dump_82 : decode cX4_dump 82 = .ok (.aload_n 0, 1) := by decide +kernel
theorem dX4_dump_83 : decode cX4_dump 83 = .ok (.getfield 16, 3) := by decide +kernel
theorem dX4_dump_86 : decode cX4_dump 86 = .ok (.iload_n 2, 1) := by decide +kernel
theorem dX4_dump_87 : decode cX4_dump 87 = .ok (.iaload, 1) := by decide +kernel
theorem dX4_dump_88 : decode cX4_dump 88 = .ok (.iastore, 1) := by decide +kernel
theorem dX4_dump_89 : decode cX4_dump 89 = .ok (.iinc 2 1, 3) := by decide +kernel
theorem dX4_dump_92 : decode cX4_dump 92 = .ok (.goto (-29), 3) := by decide +kernel
theorem dX4_dump_95 : decode cX4_dump 95 = .ok (.iconst 0, 1) := by decide +kernel
theorem dX4_dump_96 : decode cX4_dump 96 = .ok (.istore_n 2, 1) := by decide +kernel
theorem dX4_dump_97 : decode cX4_dump 97 = .ok (.iload_n 2, 1) := by decide +kernel
theorem dX4_dump_98 : decode cX4_dump 98 = .ok (.bipush 12, 2) := by decide +kernel
theorem dX4_dump_100 : decode cX4_dump 100 = .ok (.if_icmp .ge 29, 3) := by decide +kernel
theorem dX4_dump_103 : decode cX4_dump 103 = .ok (.aload_n 0, 1) := by decide +kernel
theorem dX4_dump_104 : decode cX4_dump 104 = .ok (.getfield 29, 3) := by decide +kernel
theorem dX4_dump_107 : decode cX4_dump 107 = .ok (.bipush 12, 2) := by decide +kernel
theorem dX4_dump_109 : decode cX4_dump 109 = .ok (.aload_n 0, 1) := by decide +kernel
theorem dX4_dump_110 : decode cX4_dump 110 = .ok (.getfield 101, 3) := by decide +kernel
theorem dX4_dump_113 : decode cX4_dump 113 = .ok (.imul, 1) := by decide +kernel
theorem dX4_dump_114 : decode cX4_dump 114 = .ok (.iload_n 2, 1) := by decide +kernel
theorem dX4_dump_115 : decode cX4_dump 115 = .ok (.iadd, 1) := by decide +kernel
theorem dX4_dump_116 : decode cX4_dump 116 = .ok (.aload_n 0, 1) := by decide +kernel
theorem dX4_dump_117 : decode cX4_dump 117 = .ok (.getfield 23, 3) := by decide +kernel
theorem dX4_dump_120 : decode cX4_dump 120 = .ok (.iload_n 2, 1) := by decide +kernel
theorem dX4_dump_121 : decode cX4_dump 121 = .ok (.iaload, 1) := by decide +kernel
theorem dX4_dump_122 : decode cX4_dump 122 = .ok (.iastore, 1) := by decide +kernel
theorem dX4_dump_123 : decode cX4_dump 123 = .ok (.iinc 2 1, 3) := by decide +kernel
theorem dX4_dump_126 : decode cX4_dump 126 = .ok (.goto (-29), 3) := by decide +kernel
theorem dX4_dump_129 : decode cX4_dump 129 = .ok (.iconst 0, 1) := by decide +kernel
theorem dX4_dump_130 : decode cX4_dump 130 = .ok (.istore_n 2, 1) := by decide +kernel
theorem dX4_dump_131 : decode cX4_dump 131 = .ok (.iload_n 2, 1) := by decide +kernel
theorem dX4_dump_132 : decode cX4_dump 132 = .ok (.bipush 24, 2) := by decide +kernel
theorem dX4_dump_134 : decode cX4_dump 134 = .ok (.if_icmp .ge 29, 3) := by decide +kernel
theorem dX4_dump_137 : decode cX4_dump 137 = .ok (.aload_n 0, 1) := by decide +kernel
theorem dX4_dump_138 : decode cX4_dump 138 = .ok (.getfield 32, 3) := by decide +kernel
theorem dX4_dump_141 : decode cX4_dump 141 = .ok (.bipush 24, 2) := by decide +kernel
theorem dX4_dump_143 : decode cX4_dump 143 = .ok (.aload_n 0, 1) := by decide +kernel
theorem dX4_dump_144 : decode cX4_dump 144 = .ok (.getfield 101, 3) := by decide +kernel
theorem dX4_dump_147 : decode cX4_dump 147 = .ok (.imul, 1) := by decide +kernel
theorem dX4_dump_148 : decode cX4_dump 148 = .ok (.iload_n 2, 1) := by decide +kernel
theorem dX4_dump_149 : decode cX4_dump 149 = .ok (.iadd, 1) := by decide +kernel
theorem dX4_dump_150 : decode cX4_dump 150 = .ok (.aload_n 0, 1) := by decide +kernel
theorem dX4_dump_151 : decode cX4_dump 151 = .ok (.getfield 26, 3) := by decide +kernel
theorem dX4_dump_154 : decode cX4_dump 154 = .ok (.iload_n 2, 1) := by decide +kernel
theorem dX4_dump_155 : decode cX4_dump 155 = .ok (.iaload, 1) := by decide +kernel
theorem dX4_dump_156 : decode cX4_dump 156 = .ok (.iastore, 1) := by decide +kernel
theorem dX4_dump_157 : decode cX4_dump 157 = .ok (.iinc 2 1, 3) := by decide +kernel
theorem dX4_dump_160 : decode cX4_dump 160 = .ok (.goto (-29), 3) := by decide +kernel
theorem dX4_dump_163 : decode cX4_dump 163 = .ok (.aload_n 0, 1) := by decide +kernel
theorem dX4_dump_164 : decode cX4_dump 164 = .ok (.getfield 35, 3) := by decide +kernel
theorem dX4_dump_167 : decode cX4_dump 167 = .ok (.aload_n 0, 1) := by decide +kernel
theorem dX4_dump_168 : decode cX4_dump 168 = .ok (.getfield 101, 3) := by decide +kernel
theorem dX4_dump_171 : decode cX4_dump 171 = .ok (.iload_n 1, 1) := by decide +kernel
theorem dX4_dump_172 : decode cX4_dump 172 = .ok (.iastore, 1) := by decide +kernel
theorem dX4_dump_173 : decode cX4_dump 173 = .ok (.aload_n 0, 1) := by decide +kernel
theorem dX4_dump_174 : decode cX4_dump 174 = .ok (.dup, 1) := by decide +kernel
theorem dX4_dump_175 : decode cX4_dump 175 = .ok (.getfield 101, 3) := by decide +kernel
theorem dX4_dump_178 : decode cX4_dump 178 = .ok (.iconst 1, 1) := by decide +kernel
theorem dX4_dump_179 : decode cX4_dump 179 = .ok (.iadd, 1) := by decide +kernel
theorem dX4_dump_180 : decode cX4_dump 180 = .ok (.putfield 101, 3) := by decide +kernel
theorem dX4_dump_183 : decode cX4_dump 183 = .ok (.aload_n 0, 1) := by decide +kernel
theorem dX4_dump_184 : decode cX4_dump 184 = .ok (.getfield 101, 3) := by decide +kernel
theorem dX4_dump_187 : decode cX4_dump 187 = .ok (.ireturn, 1) := by decide +kernel
theorem dX4_restore_0 : decode cX4_restore 0 = .ok (.aload_n 0, 1) := by decide +kernel
theorem dX4_restore_1 : decode cX4_restore 1 = .ok (.iconst 0, 1) := by decide +kernel
theorem dX4_restore_2 : decode cX4_restore 2 = .ok (.putfield 61, 3) := by decide +kernel
theorem dX4_restore_5 : decode cX4_restore 5 = .ok (.iload_n 1, 1) := by decide +kernel
theorem dX4_restore_6 : decode cX4_restore 6 = .ok (.iconst 1, 1) := by decide +kernel
theorem dX4_restore_7 : decode cX4_restore 7 = .ok (.if_icmp .lt 11, 3) := by decide +kernel
theorem dX4_restore_10 : decode cX4_restore 10 = .ok (.iload_n 1, 1) := by decide +kernel
theorem dX4_restore_11 : decode cX4_restore 11 = .ok (.aload_n 0, 1) := by decide +kernel
theorem dX4_restore_12 : decode cX4_restore 12 = .ok (.getfield 101, 3) := by decide +kernel
theorem dX4_restore_15 : decode cX4_restore 15 = .ok (.if_icmp .le 6, 3) := by decide +kernel
theorem dX4_restore_18 : decode cX4_restore 18 = .ok (.bipush (-2), 2) := by decide +kernel
theorem dX4_restore_20 : decode cX4_restore 20 = .ok (.ireturn, 1) := by decide +kernel
theorem dX4_restore_21 : decode cX4_restore 21 = .ok (.aload_n 0, 1) := by decide +kernel
theorem dX4_restore_22 : decode cX4_restore 22 = .ok (.getfield 73, 3) := by decide +kernel
theorem dX4_restore_25 : decode cX4_restore 25 = .ok (.ifCond .eq 6, 3) := by decide +kernel
theorem dX4_restore_28 : decode cX4_restore 28 = .ok (.bipush (-5), 2) := by decide +kernel
theorem dX4_restore_30 : decode cX4_restore 30 = .ok (.ireturn, 1) := by decide +kernel
theorem dX4_restore_31 : decode cX4_restore 31 = .ok (.iload_n 1, 1) := by decide +kernel
theorem dX4_restore_32 : decode cX4_restore 32 = .ok (.iconst 1, 1) := by decide +kernel
theorem dX4_restore_33 : decode cX4_restore 33 = .ok (.isub, 1) := by decide +kernel
theorem dX4_restore_34 : decode cX4_restore 34 = .ok (.istore_n 3, 1) := by decide +kernel
theorem dX4_restore_35 : decode cX4_restore 35 = .ok (.aload_n 0, 1) := by decide +kernel
theorem dX4_restore_36 : decode cX4_restore 36 = .ok (.getfield 35, 3) := by decide +kernel
theorem dX4_restore_39 : decode cX4_restore 39 = .ok (.iload_n 3, 1) := by decide +kernel
theorem dX4_restore_40 : decode cX4_restore 40 = .ok (.iaload, 1) := by decide +kernel
theorem dX4_restore_41 : decode cX4_restore 41 = .ok (.iload_n 2, 1) := by decide +kernel
theorem dX4_restore_42 : decode cX4_restore 42 = .ok (.if_icmp .eq 5, 3) := by decide +kernel
theorem dX4_restore_45 : decode cX4_restore 45 = .ok (.iconst 0, 1) := by decide +kernel
theorem dX4_restore_46 : decode cX4_restore 46 = .ok (.ireturn, 1) := by decide +kernel
theorem dX4_restore_47 : decode cX4_restore 47 = .ok (.iconst 0, 1) := by decide +kernel
theorem dX4_restore_48 : decode cX4_restore 48 = .ok (.istore 4, 2) := by decide +kernel
theorem dX4_restore_50 : decode cX4_restore 50 = .ok (.iload 4, 2) := by decide +kernel
theorem dX4_restore_52 : decode cX4_restore 52 = .ok (.sipush 1792, 3) := by decide +kernel
theorem dX4_restore_55 : decode cX4_restore 55 = .ok (.if_icmp .ge 29, 3) := by decide +kernel
theorem dX4_restore_58 : decode cX4_restore 58 = .ok (.aload_n 0, 1) := by decide +kernel
theorem dX4_restore_59 : decode cX4_restore 59 = .ok (.getfield 7, 3) := by decide +kernel
theorem dX4_restore_62 : decode cX4_restore 62 = .ok (.iload 4, 2) := by decide +kernel
theorem dX4_restore_64 : decode cX4_restore 64 = .ok (.aload_n 0, 1) := by decide +kernel
theorem dX4_restore_65 : decode cX4_restore 65 = .ok (.getfield 13, 3) := by decide +kernel
theorem dX4_restore_68 : decode cX4_restore 68 = .ok (.sipush 1792, 3) := by decide +kernel
theorem dX4_restore_71 : decode cX4_restore 71 = .ok (.iload_n 3, 1) := by decide +kernel
theorem dX4_restore_72 : decode cX4_restore 72 = .ok (.imul, 1) := by decide +kernel
theorem dX4_restore_73 : decode cX4_restore 73 = .ok (.iload 4, 2) := by decide +kernel
theorem dX4_restore_75 : decode cX4_restore 75 = .ok (.iadd, 1) := by decide +kernel
theorem dX4_restore_76 : decode cX4_restore 76 = .ok (.baload, 1) := by decide +kernel
theorem dX4_restore_77 : decode cX4_restore 77 = .ok (.bastore, 1) := by decide +kernel
theorem dX4_restore_78 : decode cX4_restore 78 = .ok (.iinc 4 1, 3) := by decide +kernel
theorem dX4_restore_81 : decode cX4_restore 81 = .ok (.goto (-31), 3) := by decide +kernel
theorem dX4_restore_84 : decode cX4_restore 84 = .ok (.iconst 0, 1) := by decide +kernel
theorem dX4_restore_85 : decode cX4_restore 85 = .ok (.istore 4, 2) := by decide +kernel
theorem dX4_restore_87 : decode cX4_restore 87 = .ok (.iload 4, 2) := by decide +kernel
theorem dX4_restore_89 : decode cX4_restore 89 = .ok (.bipush 112, 2) := by decide +kernel
theorem dX4_restore_91 : decode cX4_restore 91 = .ok (.if_icmp .ge 28, 3) := by decide +kernel
theorem dX4_restore_94 : decode cX4_restore 94 = .ok (.aload_n 0, 1) := by decide +kernel
theorem dX4_restore_95 : decode cX4_restore 95 = .ok (.getfield 16, 3) := by decide +kernel
theorem dX4_restore_98 : decode cX4_restore 98 = .ok (.iload 4, 2) := by decide +kernel
theorem dX4_restore_100 : decode cX4_restore 100 = .ok (.aload_n 0, 1) := by decide +kernel
theorem dX4_restore_101 : decode cX4_restore 101 = .ok (.getfield 20, 3) := by decide +kernel
theorem dX4_restore_104 : decode cX4_restore 104 = .ok (.bipush 112, 2) := by decide +kernel
theorem dX4_restore_106 : decode cX4_restore 106 = .ok (.iload_n 3, 1) := by decide +kernel
theorem dX4_restore_107 : decode cX4_restore 107 = .ok (.imul, 1) := by decide +kernel
theorem dX4_restore_108 : decode cX4_restore 108 = .ok (.iload 4, 2) := by decide +kernel
theorem dX4_restore_110 : decode cX4_restore 110 = .ok (.iadd, 1) := by decide +kernel
theorem dX4_restore_111 : decode cX4_restore 111 = .ok (.iaload, 1) := by decide +kernel
theorem dX4_restore_112 : decode cX4_restore 112 = .ok (.iastore, 1) := by decide +kernel
theorem dX4_restore_113 : decode cX4_restore 113 = .ok (.iinc 4 1, 3) := by decide +kernel
theorem dX4_restore_116 : decode cX4_restore 116 = .ok (.goto (-29), 3) := by decide +kernel
theorem dX4_restore_119 : decode cX4_restore 119 = .ok (.iconst 0, 1) := by decide +kernel
theorem dX4_restore_120 : decode cX4_restore 120 = .ok (.istore 4, 2) := by decide +kernel
theorem dX4_restore_122 : decode cX4_restore 122 = .ok (.iload 4, 2) := by decide +kernel
theorem dX4_restore_124 : decode cX4_restore 124 = .ok (.bipush 12, 2) := by decide +kernel
theorem dX4_restore_126 : decode cX4_restore 126 = .ok (.if_icmp .ge 28, 3) := by decide +kernel
theorem dX4_restore_129 : decode cX4_restore 129 = .ok (.aload_n 0, 1) := by decide +kernel
theorem dX4_restore_130 : decode cX4_restore 130 = .ok (.getfield 23, 3) := by decide +kernel
theorem dX4_restore_133 : decode cX4_restore 133 = .ok (.iload 4, 2) := by decide +kernel
theorem dX4_restore_135 : decode cX4_restore 135 = .ok (.aload_n 0, 1) := by decide +kernel
theorem dX4_restore_136 : decode cX4_restore 136 = .ok (.getfield 29, 3) := by decide +kernel
theorem dX4_restore_139 : decode cX4_restore 139 = .ok (.bipush 12, 2) := by decide +kernel
theorem dX4_restore_141 : decode cX4_restore 141 = .ok (.iload_n 3, 1) := by decide +kernel
theorem dX4_restore_142 : decode cX4_restore 142 = .ok (.imul, 1) := by decide +kernel
theorem dX4_restore_143 : decode cX4_restore 143 = .ok (.iload 4, 2) := by decide +kernel
theorem dX4_restore_145 : decode cX4_restore 145 = .ok (.iadd, 1) := by decide +kernel
theorem dX4_restore_146 : decode cX4_restore 146 = .ok (.iaload, 1) := by decide +kernel
theorem dX4_restore_147 : decode cX4_restore 147 = .ok (.iastore, 1) := by decide +kernel
theorem dX4_restore_148 : decode cX4_restore 148 = .ok (.iinc 4 1, 3) := by decide +kernel
theorem dX4_restore_151 : decode cX4_restore 151 = .ok (.goto (-29), 3) := by decide +kernel
theorem dX4_restore_154 : decode cX4_restore 154 = .ok (.iconst 0, 1) := by decide +kernel
theorem dX4_restore_155 : decode cX4_restore 155 = .ok (.istore 4, 2) := by decide +kernel
theorem dX4_restore_157 : decode cX4_restore 157 = .ok (.iload 4, 2) := by decide +kernel
theorem dX4_restore_159 : decode cX4_restore 159 = .ok (.bipush 24, 2) := by decide +kernel
theorem dX4_restore_161 : decode cX4_restore 161 = .ok (.if_icmp .ge 28, 3) := by decide +kernel
theorem dX4_restore_164 : decode cX4_restore 164 = .ok (.aload_n 0, 1) := by decide +kernel
theorem dX4_restore_165 : decode cX4_restore 165 = .ok (.getfield 26, 3) := by decide +kernel
theorem dX4_restore_168 : decode cX4_restore 168 = .ok (.iload 4, 2) := by decide +kernel
theorem dX4_restore_170 : decode cX4_restore 170 = .ok (.aload_n 0, 1) := by decide +kernel
theorem dX4_restore_171 : decode cX4_restore 171 = .ok (.getfield 32, 3) := by decide +kernel
theorem dX4_restore_174 : decode cX4_restore 174 = .ok (.bipush 24, 2) := by decide +kernel
theorem dX4_restore_176 : decode cX4_restore 176 = .ok (.iload_n 3, 1) := by decide +kernel
theorem dX4_restore_177 : decode cX4_restore 177 = .ok (.imul, 1) := by decide +kernel
theorem dX4_restore_178 : decode cX4_restore 178 = .ok (.iload 4, 2) := by decide +kernel
theorem dX4_restore_180 : decode cX4_restore 180 = .ok (.iadd, 1) := by decide +kernel
theorem dX4_restore_181 : decode cX4_restore 181 = .ok (.iaload, 1) := by decide +kernel
theorem dX4_restore_182 : decode cX4_restore 182 = .ok (.iastore, 1) := by decide +kernel
theorem dX4_restore_183 : decode cX4_restore 183 = .ok (.iinc 4 1, 3) := by decide +kernel
theorem dX4_restore_186 : decode cX4_restore 186 = .ok (.goto (-29), 3) := by decide +kernel
theorem dX4_restore_189 : decode cX4_restore 189 = .ok (.aload_n 0, 1) := by decide +kernel
theorem dX4_restore_190 : decode cX4_restore 190 = .ok (.iconst 0, 1) := by decide +kernel
theorem dX4_restore_191 : decode cX4_restore 191 = .ok (.putfield 77, 3) := by decide +kernel
theorem dX4_restore_194 : decode cX4_restore 194 = .ok (.iconst 1, 1) := by decide +kernel
theorem dX4_restore_195 : decode cX4_restore 195 = .ok (.ireturn, 1) := by decide +kernel
theorem dX4_tape_0 : decode cX4_tape 0 = .ok (.aload_n 0, 1) := by decide +kernel
theorem dX4_tape_1 : decode cX4_tape 1 = .ok (.iconst 0, 1) := by decide +kernel
theorem dX4_tape_2 : decode cX4_tape 2 = .ok (.putfield 61, 3) := by decide +kernel
theorem dX4_tape_5 : decode cX4_tape 5 = .ok (.iload_n 1, 1) := by decide +kernel
theorem dX4_tape_6 : decode cX4_tape 6 = .ok (.ifCond .ge 11, 3) := by decide +kernel
theorem dX4_tape_9 : decode cX4_tape 9 = .ok (.aload_n 0, 1) := by decide +kernel
theorem dX4_tape_10 : decode cX4_tape 10 = .ok (.iconst 0, 1) := by decide +kernel
theorem dX4_tape_11 : decode cX4_tape 11 = .ok (.putfield 104, 3) := by decide +kernel
theorem dX4_tape_14 : decode cX4_tape 14 = .ok (.goto 40, 3) := by decide +kernel
theorem dX4_tape_17 : decode cX4_tape 17 = .ok (.aload_n 0, 1) := by decide +kernel
theorem dX4_tape_18 : decode cX4_tape 18 = .ok (.getfield 104, 3) := by decide +kernel
theorem dX4_tape_21 : decode cX4_tape 21 = .ok (.bipush 100, 2) := by decide +kernel
theorem dX4_tape_23 : decode cX4_tape 23 = .ok (.if_icmp .ge 31, 3) := by decide +kernel
theorem dX4_tape_26 : decode cX4_tape 26 = .ok (.aload_n 0, 1) := by decide +kernel
theorem dX4_tape_27 : decode cX4_tape 27 = .ok (.getfield 47, 3) := by decide +kernel
theorem dX4_tape_30 : decode cX4_tape 30 = .ok (.aload_n 0, 1) := by decide +kernel
theorem dX4_tape_31 : decode cX4_tape 31 = .ok (.getfield 104, 3) := by decide +kernel
theorem dX4_tape_34 : decode cX4_tape 34 = .ok (.iload_n 1, 1) := by decide +kernel
theorem dX4_tape_35 : decode cX4_tape 35 = .ok (.iastore, 1) := by decide +kernel
theorem dX4_tape_36 : decode cX4_tape 36 = .ok (.aload_n 0, 1) := by decide +kernel
theorem dX4_tape_37 : decode cX4_tape 37 = .ok (.dup, 1) := by decide +kernel
theorem dX4_tape_38 : decode cX4_tape 38 = .ok (.getfield 104, 3) := by decide +kernel
theorem dX4_tape_41 : decode cX4_tape 41 = .ok (.iconst 1, 1) := by decide +kernel
theorem dX4_tape_42 : decode cX4_tape 42 = .ok (.iadd, 1) := by decide +kernel
theorem dX4_tape_43 : decode cX4_tape 43 = .ok (.putfield 104, 3) := by decide +kernel
theorem dX4_tape_46 : decode cX4_tape 46 = .ok (.aload_n 0, 1) := by decide +kernel
theorem dX4_tape_47 : decode cX4_tape 47 = .ok (.aload_n 0, 1) := by decide +kernel
theorem dX4_tape_48 : decode cX4_tape 48 = .ok (.getfield 104, 3) := by decide +kernel
theorem dX4_tape_51 : decode cX4_tape 51 = .ok (.putfield 107, 3) := by decide +kernel
theorem dX4_tape_54 : decode cX4_tape 54 = .ok (.aload_n 0, 1) := by decide +kernel
theorem dX4_tape_55 : decode cX4_tape 55 = .ok (.getfield 107, 3) := by decide +kernel
theorem dX4_tape_58 : decode cX4_tape 58 = .ok (.ireturn, 1) := by decide +kernel
theorem dX4_next_0 : decode cX4_next 0 = .ok (.aload_n 0, 1) := by decide +kernel
theorem dX4_next_1 : decode cX4_next 1 = .ok (.iconst 0, 1) := by decide +kernel
theorem dX4_next_2 : decode cX4_next 2 = .ok (.putfield 61, 3) := by decide +kernel
theorem dX4_next_5 : decode cX4_next 5 = .ok (.aload_n 0, 1) := by decide +kernel
theorem dX4_next_6 : decode cX4_next 6 = .ok (.getfield 104, 3) := by decide +kernel
theorem dX4_next_9 : decode cX4_next 9 = .ok (.aload_n 0, 1) := by decide +kernel
theorem dX4_next_10 : decode cX4_next 10 = .ok (.getfield 107, 3) := by decide +kernel
theorem dX4_next_13 : decode cX4_next 13 = .ok (.if_icmp .ne 5, 3) := by decide +kernel
theorem dX4_next_16 : decode cX4_next 16 = .ok (.iconst (-1), 1) := by decide +kernel
theorem dX4_next_17 : decode cX4_next 17 = .ok (.ireturn, 1) := by decide +kernel
theorem dX4_next_18 : decode cX4_next 18 = .ok (.aload_n 0, 1) := by decide +kernel
theorem dX4_next_19 : decode cX4_next 19 = .ok (.dup, 1) := by decide +kernel
theorem dX4_next_20 : decode cX4_next 20 = .ok (.getfield 104, 3) := by decide +kernel
theorem dX4_next_23 : decode cX4_next 23 = .ok (.iconst 1, 1) := by decide +kernel
theorem dX4_next_24 : decode cX4_next 24 = .ok (.iadd, 1) := by decide +kernel
theorem dX4_next_25 : decode cX4_next 25 = .ok (.putfield 104, 3) := by decide +kernel
theorem dX4_next_28 : decode cX4_next 28 = .ok (.aload_n 0, 1) := by decide +kernel
theorem dX4_next_29 : decode cX4_next 29 = .ok (.getfield 47, 3) := by decide +kernel
theorem dX4_next_32 : decode cX4_next 32 = .ok (.aload_n 0, 1) := by decide +kernel
theorem dX4_next_33 : decode cX4_next 33 = .ok (.getfield 104, 3) := by decide +kernel
theorem dX4_next_36 : decode cX4_next 36 = .ok (.iconst 1, 1) := by decide +kernel
theorem dX4_next_37 : decode cX4_next 37 = .ok (.isub, 1) := by decide +kernel
theorem dX4_next_38 : decode cX4_next 38 = .ok (.iaload, 1) := by decide +kernel
theorem dX4_next_39 : decode cX4_next 39 = .ok (.ireturn, 1) := by decide +kernel
set_option maxRecDepth 20000 in
theorem ggX4_read_X4_isSector : GoodIn wsX4_read wsX4_isSector := goodIn_r _ [7, 8, 9, 10, 11, 6, 12, 13, 19, 20, 21, 22, 23, 24, 25, 26, 27, 28, 29, 30, 31, 32, 33, 34, 35, 36, 37, 38, 39] (by decide +kernel) (by decide +kernel)
set_option maxRecDepth 20000 in
theorem gX4_read_X4_isSector : GoodIn wsX4_read (wsV RX4 69 RX4 yX4_isSector wsX4_isSector) := goodIn_app (goodIn_of _ (by decide +kernel)) ggX4_read_X4_isSector
set_option maxRecDepth 20000 in
theorem ggX4_read_X4_lies : GoodIn wsX4_read wsX4_lies := goodIn_r _ [17, 18, 19, 20, 21, 22, 23, 24, 25, 26, 27, 28, 29, 30, 31, 32, 33, 34, 35, 36, 37, 38, 39] (by decide +kernel) (by decide +kernel)
set_option maxRecDepth 20000 in
theorem gX4_read_X4_lies : GoodIn wsX4_read (wsV RX4 80 RX4 yX4_lies wsX4_lies) := goodIn_app (goodIn_of _ (by decide +kernel)) ggX4_read_X4_lies
theorem dX4_read_0 : decode cX4_read 0 = .ok (.aload_n 0, 1) := by decide +kernel
theorem dX4_read_1 : decode cX4_read 1 = .ok (.iload_n 1, 1) := by decide +kernel
theorem dX4_read_2 : decode cX4_read 2 = .ok (.iload_n 2, 1) := by decide +kernel
theorem dX4_read_3 : decode cX4_read 3 = .ok (.invokevirtual 69, 3) := by decide +kernel
theorem dX4_read_6 : decode cX4_read 6 = .ok (.ifCond .eq 17, 3) := by decide +kernel
theorem dX4_read_9 : decode cX4_read 9 = .ok (.iload_n 3, 1) := by decide +kernel
theorem dX4_read_10 : decode cX4_read 10 = .ok (.ifCond .lt 13, 3) := by decide +kernel
theorem dX4_read_13 : decode cX4_read 13 = .ok (.iload_n 3, 1) := by decide +kernel
theorem dX4_read_14 : decode cX4_read 14 = .ok (.bipush 16, 2) := by decide +kernel
theorem dX4_read_16 : decode cX4_read 16 = .ok (.if_icmp .ge 7, 3) := by decide +kernel
theorem dX4_read_19 : decode cX4_read 19 = .ok (.iconst 1, 1) := by decide +kernel
theorem dX4_read_20 : decode cX4_read 20 = .ok (.goto 4, 3) := by decide +kernel
theorem dX4_read_23 : decode cX4_read 23 = .ok (.iconst 0, 1) := by decide +kernel
theorem dX4_read_24 : decode cX4_read 24 = .ok (.istore 4, 2) := by decide +kernel
theorem dX4_read_26 : decode cX4_read 26 = .ok (.aload_n 0, 1) := by decide +kernel
theorem dX4_read_27 : decode cX4_read 27 = .ok (.iload 4, 2) := by decide +kernel
theorem dX4_read_29 : decode cX4_read 29 = .ok (.ifCond .eq 7, 3) := by decide +kernel
theorem dX4_read_32 : decode cX4_read 32 = .ok (.iconst 0, 1) := by decide +kernel
theorem dX4_read_33 : decode cX4_read 33 = .ok (.goto 4, 3) := by decide +kernel
theorem dX4_read_36 : decode cX4_read 36 = .ok (.iconst 1, 1) := by decide +kernel
theorem dX4_read_37 : decode cX4_read 37 = .ok (.putfield 61, 3) := by decide +kernel
theorem dX4_read_40 : decode cX4_read 40 = .ok (.iload 4, 2) := by decide +kernel
theorem dX4_read_42 : decode cX4_read 42 = .ok (.ifCond .eq 22, 3) := by decide +kernel
theorem dX4_read_45 : decode cX4_read 45 = .ok (.aload_n 0, 1) := by decide +kernel
theorem dX4_read_46 : decode cX4_read 46 = .ok (.getfield 7, 3) := by decide +kernel
theorem dX4_read_49 : decode cX4_read 49 = .ok (.bipush 16, 2) := by decide +kernel
theorem dX4_read_51 : decode cX4_read 51 = .ok (.aload_n 0, 1) := by decide +kernel
theorem dX4_read_52 : decode cX4_read 52 = .ok (.iload_n 1, 1) := by decide +kernel
theorem dX4_read_53 : decode cX4_read 53 = .ok (.iload_n 2, 1) := by decide +kernel
theorem dX4_read_54 : decode cX4_read 54 = .ok (.invokevirtual 80, 3) := by decide +kernel
theorem dX4_read_57 : decode cX4_read 57 = .ok (.imul, 1) := by decide +kernel
theorem dX4_read_58 : decode cX4_read 58 = .ok (.iload_n 3, 1) := by decide +kernel
theorem dX4_read_59 : decode cX4_read 59 = .ok (.iadd, 1) := by decide +kernel
theorem dX4_read_60 : decode cX4_read 60 = .ok (.baload, 1) := by decide +kernel
theorem dX4_read_61 : decode cX4_read 61 = .ok (.goto 4, 3) := by decide +kernel
theorem dX4_read_64 : decode cX4_read 64 = .ok (.iconst 0, 1) := by decide +kernel
theorem dX4_read_65 : decode cX4_read 65 = .ok (.ireturn, 1) := by decide +kernel
theorem dX4_differs_0 : decode cX4_differs 0 = .ok (.iconst 0, 1) := by decide +kernel
theorem dX4_differs_1 : decode cX4_differs 1 = .ok (.istore_n 2, 1) := by decide +kernel
theorem dX4_differs_2 : decode cX4_differs 2 = .ok (.iconst 0, 1) := by decide +kernel
theorem dX4_differs_3 : decode cX4_differs 3 = .ok (.istore_n 3, 1) := by decide +kernel
theorem dX4_differs_4 : decode cX4_differs 4 = .ok (.iload_n 3, 1) := by decide +kernel
theorem dX4_differs_5 : decode cX4_differs 5 = .ok (.bipush 112, 2) := by decide +kernel
theorem dX4_differs_7 : decode cX4_differs 7 = .ok (.if_icmp .ge 84, 3) := by decide +kernel
theorem dX4_differs_10 : decode cX4_differs 10 = .ok (.iconst 0, 1) := by decide +kernel
theorem dX4_differs_11 : decode cX4_differs 11 = .ok (.istore 4, 2) := by decide +kernel
theorem dX4_differs_13 : decode cX4_differs 13 = .ok (.bipush 16, 2) := by decide +kernel
theorem dX4_differs_15 : decode cX4_differs 15 = .ok (.iload_n 3, 1) := by decide +kernel
theorem dX4_differs_16 : decode cX4_differs 16 = .ok (.imul, 1) := by decide +kernel
theorem dX4_differs_17 : decode cX4_differs 17 = .ok (.istore 5, 2) := by decide +kernel
theorem dX4_differs_19 : decode cX4_differs 19 = .ok (.iload 5, 2) := by decide +kernel
theorem dX4_differs_21 : decode cX4_differs 21 = .ok (.bipush 16, 2) := by decide +kernel
theorem dX4_differs_23 : decode cX4_differs 23 = .ok (.iload_n 3, 1) := by decide +kernel
theorem dX4_differs_24 : decode cX4_differs 24 = .ok (.imul, 1) := by decide +kernel
theorem dX4_differs_25 : decode cX4_differs 25 = .ok (.bipush 16, 2) := by decide +kernel
theorem dX4_differs_27 : decode cX4_differs 27 = .ok (.iadd, 1) := by decide +kernel
theorem dX4_differs_28 : decode cX4_differs 28 = .ok (.if_icmp .ge 44, 3) := by decide +kernel
theorem dX4_differs_31 : decode cX4_differs 31 = .ok (.iload 4, 2) := by decide +kernel
theorem dX4_differs_33 : decode cX4_differs 33 = .ok (.ifCond .ne 26, 3) := by decide +kernel
theorem dX4_differs_36 : decode cX4_differs 36 = .ok (.aload_n 0, 1) := by decide +kernel
theorem dX4_differs_37 : decode cX4_differs 37 = .ok (.getfield 13, 3) := by decide +kernel
theorem dX4_differs_40 : decode cX4_differs 40 = .ok (.sipush 1792, 3) := by decide +kernel
theorem dX4_differs_43 : decode cX4_differs 43 = .ok (.iload_n 1, 1) := by decide +kernel
theorem dX4_differs_44 : decode cX4_differs 44 = .ok (.imul, 1) := by decide +kernel
theorem dX4_differs_45 : decode cX4_differs 45 = .ok (.iload 5, 2) := by decide +kernel
theorem dX4_differs_47 : decode cX4_differs 47 = .ok (.iadd, 1) := by decide +kernel
theorem dX4_differs_48 : decode cX4_differs 48 = .ok (.baload, 1) := by decide +kernel
theorem dX4_differs_49 : decode cX4_differs 49 = .ok (.aload_n 0, 1) := by decide +kernel
theorem dX4_differs_50 : decode cX4_differs 50 = .ok (.getfield 7, 3) := by decide +kernel
theorem dX4_differs_53 : decode cX4_differs 53 = .ok (.iload 5, 2) := by decide +kernel
theorem dX4_differs_55 : decode cX4_differs 55 = .ok (.baload, 1) := by decide +kernel
theorem dX4_differs_56 : decode cX4_differs 56 = .ok (.if_icmp .eq 7, 3) := by decide +kernel
theorem dX4_differs_59 : decode cX4_differs 59 = .ok (.iconst 1, 1) := by decide +kernel
theorem dX4_differs_60 : decode cX4_differs 60 = .ok (.goto 4, 3) := by decide +kernel
theorem dX4_differs_63 : decode cX4_differs 63 = .ok (.iconst 0, 1) := by decide +kernel
theorem dX4_differs_64 : decode cX4_differs 64 = .ok (.istore 4, 2) := by decide +kernel
theorem dX4_differs_66 : decode cX4_differs 66 = .ok (.iinc 5 1, 3) := by decide +kernel
theorem dX4_differs_69 : decode cX4_differs 69 = .ok (.goto (-50), 3) := by decide +kernel
theorem dX4_differs_72 : decode cX4_differs 72 = .ok (.iload_n 2, 1) := by decide +kernel
theorem dX4_differs_73 : decode cX4_differs 73 = .ok (.iload 4, 2) := by decide +kernel
theorem dX4_differs_75 : decode cX4_differs 75 = .ok (.ifCond .eq 7, 3) := by decide +kernel
theorem dX4_differs_78 : decode cX4_differs 78 = .ok (.iconst 1, 1) := by decide +kernel
theorem dX4_differs_79 : decode cX4_differs 79 = .ok (.goto 4, 3) := by decide +kernel
theorem dX4_differs_82 : decode cX4_differs 82 = .ok (.iconst 0, 1) := by decide +kernel
theorem dX4_differs_83 : decode cX4_differs 83 = .ok (.iadd, 1) := by decide +kernel
theorem dX4_differs_84 : decode cX4_differs 84 = .ok (.istore_n 2, 1) := by decide +kernel
theorem dX4_differs_85 : decode cX4_differs 85 = .ok (.iinc 3 1, 3) := by decide +kernel
theorem dX4_differs_88 : decode cX4_differs 88 = .ok (.goto (-84), 3) := by decide +kernel
theorem dX4_differs_91 : decode cX4_differs 91 = .ok (.iload_n 2, 1) := by decide +kernel
theorem dX4_differs_92 : decode cX4_differs 92 = .ok (.ireturn, 1) := by decide +kernel
set_option maxRecDepth 20000 in
theorem ggX4_count_X4_differs : GoodIn wsX4_count wsX4_differs := goodIn_r _ [12, 13, 14, 15, 16, 17, 18, 19, 20, 21, 22, 23, 24, 25, 26, 27, 28, 29, 30, 31, 32, 33, 34, 35] (by decide +kernel) (by decide +kernel)
set_option maxRecDepth 20000 in
theorem gX4_count_X4_differs : GoodIn wsX4_count (wsV RX4 110 RX4 yX4_differs wsX4_differs) := goodIn_app (goodIn_of _ (by decide +kernel)) ggX4_count_X4_differs
theorem dX4_count_0 : decode cX4_count 0 = .ok (.aload_n 0, 1) := by decide +kernel
theorem dX4_count_1 : decode cX4_count 1 = .ok (.iconst 0, 1) := by decide +kernel
theorem dX4_count_2 : decode cX4_count 2 = .ok (.putfield 61, 3) := by decide +kernel
theorem dX4_count_5 : decode cX4_count 5 = .ok (.iconst 0, 1) := by decide +kernel
theorem dX4_count_6 : decode cX4_count 6 = .ok (.istore_n 2, 1) := by decide +kernel
theorem dX4_count_7 : decode cX4_count 7 = .ok (.iconst 0, 1) := by decide +kernel
theorem dX4_count_8 : decode cX4_count 8 = .ok (.istore_n 3, 1) := by decide +kernel
theorem dX4_count_9 : decode cX4_count 9 = .ok (.iload_n 3, 1) := by decide +kernel
theorem dX4_count_10 : decode cX4_count 10 = .ok (.aload_n 0, 1) := by decide +kernel
theorem dX4_count_11 : decode cX4_count 11 = .ok (.getfield 50, 3) := by decide +kernel
theorem dX4_count_14 : decode cX4_count 14 = .ok (.if_icmp .ge 27, 3) := by decide +kernel
theorem dX4_count_17 : decode cX4_count 17 = .ok (.iload_n 2, 1) := by decide +kernel
theorem dX4_count_18 : decode cX4_count 18 = .ok (.aload_n 0, 1) := by decide +kernel
theorem dX4_count_19 : decode cX4_count 19 = .ok (.getfield 23, 3) := by decide +kernel
theorem dX4_count_22 : decode cX4_count 22 = .ok (.iload_n 3, 1) := by decide +kernel
theorem dX4_count_23 : decode cX4_count 23 = .ok (.iaload, 1) := by decide +kernel
theorem dX4_count_24 : decode cX4_count 24 = .ok (.iconst (-1), 1) := by decide +kernel
theorem dX4_count_25 : decode cX4_count 25 = .ok (.if_icmp .ne 7, 3) := by decide +kernel
theorem dX4_count_28 : decode cX4_count 28 = .ok (.iconst 0, 1) := by decide +kernel
theorem dX4_count_29 : decode cX4_count 29 = .ok (.goto 4, 3) := by decide +kernel
theorem dX4_count_32 : decode cX4_count 32 = .ok (.iconst 1, 1) := by decide +kernel
theorem dX4_count_33 : decode cX4_count 33 = .ok (.iadd, 1) := by decide +kernel
theorem dX4_count_34 : decode cX4_count 34 = .ok (.istore_n 2, 1) := by decide +kernel
theorem dX4_count_35 : decode cX4_count 35 = .ok (.iinc 3 1, 3) := by decide +kernel
theorem dX4_count_38 : decode cX4_count 38 = .ok (.goto (-29), 3) := by decide +kernel
theorem dX4_count_41 : decode cX4_count 41 = .ok (.iload_n 1, 1) := by decide +kernel
theorem dX4_count_42 : decode cX4_count 42 = .ok (.tableswitch 99 0 6 #[42, 47, 52, 57, 70, 75, 77], 42) := by decide +kernel
theorem dX4_count_84 : decode cX4_count 84 = .ok (.aload_n 0, 1) := by decide +kernel
theorem dX4_count_85 : decode cX4_count 85 = .ok (.getfield 50, 3) := by decide +kernel
theorem dX4_count_88 : decode cX4_count 88 = .ok (.ireturn, 1) := by decide +kernel
theorem dX4_count_89 : decode cX4_count 89 = .ok (.aload_n 0, 1) := by decide +kernel
theorem dX4_count_90 : decode cX4_count 90 = .ok (.getfield 54, 3) := by decide +kernel
theorem dX4_count_93 : decode cX4_count 93 = .ok (.ireturn, 1) := by decide +kernel
theorem dX4_count_94 : decode cX4_count 94 = .ok (.aload_n 0, 1) := by decide +kernel
theorem dX4_count_95 : decode cX4_count 95 = .ok (.getfield 77, 3) := by decide +kernel
theorem dX4_count_98 : decode cX4_count 98 = .ok (.ireturn, 1) := by decide +kernel
theorem dX4_count_99 : decode cX4_count 99 = .ok (.aload_n 0, 1) := by decide +kernel
theorem dX4_count_100 : decode cX4_count 100 = .ok (.getfield 73, 3) := by decide +kernel
theorem dX4_count_103 : decode cX4_count 103 = .ok (.ifCond .eq 7, 3) := by decide +kernel
theorem dX4_count_106 : decode cX4_count 106 = .ok (.iconst 1, 1) := by decide +kernel
theorem dX4_count_107 : decode cX4_count 107 = .ok (.goto 4, 3) := by decide +kernel
theorem dX4_count_110 : decode cX4_count 110 = .ok (.iconst 0, 1) := by decide +kernel
theorem dX4_count_111 : decode cX4_count 111 = .ok (.ireturn, 1) := by decide +kernel
theorem dX4_count_112 : decode cX4_count 112 = .ok (.aload_n 0, 1) := by decide +kernel
theorem dX4_count_113 : decode cX4_count 113 = .ok (.getfield 101, 3) := by decide +kernel
theorem dX4_count_116 : decode cX4_count 116 = .ok (.ireturn, 1) := by decide +kernel
theorem dX4_count_117 : decode cX4_count 117 = .ok (.iload_n 2, 1) := by decide +kernel
theorem dX4_count_118 : decode cX4_count 118 = .ok (.ireturn, 1) := by decide +kernel
theorem dX4_count_119 : decode cX4_count 119 = .ok (.aload_n 0, 1) := by decide +kernel
theorem dX4_count_120 : decode cX4_count 120 = .ok (.getfield 101, 3) := by decide +kernel
theorem dX4_count_123 : decode cX4_count 123 = .ok (.ifCond .ne 7, 3) := by decide +kernel
theorem dX4_count_126 : decode cX4_count 126 = .ok (.iconst (-1), 1) := by decide +kernel
theorem dX4_count_127 : decode cX4_count 127 = .ok (.goto 13, 3) := by decide +kernel
theorem dX4_count_130 : decode cX4_count 130 = .ok (.aload_n 0, 1) := by decide +kernel
theorem dX4_count_131 : decode cX4_count 131 = .ok (.aload_n 0, 1) := by decide +kernel
theorem dX4_count_132 : decode cX4_count 132 = .ok (.getfield 101, 3) := by decide +kernel
theorem dX4_count_135 : decode cX4_count 135 = .ok (.iconst 1, 1) := by decide +kernel
theorem dX4_count_136 : decode cX4_count 136 = .ok (.isub, 1) := by decide +kernel
theorem dX4_count_137 : decode cX4_count 137 = .ok (.invokevirtual 110, 3) := by decide +kernel
theorem dX4_count_140 : decode cX4_count 140 = .ok (.ireturn, 1) := by decide +kernel
theorem dX4_count_141 : decode cX4_count 141 = .ok (.iconst (-1), 1) := by decide +kernel
theorem dX4_count_142 : decode cX4_count 142 = .ok (.ireturn, 1) := by decide +kernel
theorem dJx00060_init_a7421_0 : decode cJx00060_init_a7421 0 = .ok (.aload_n 0, 1) := by decide +kernel
theorem dJx00060_init_a7421_1 : decode cJx00060_init_a7421 1 = .ok (.aload_n 1, 1) := by decide +kernel
theorem dJx00060_init_a7421_2 : decode cJx00060_init_a7421 2 = .ok (.invokespecial 7, 3) := by decide +kernel
theorem dJx00060_init_a7421_5 : decode cJx00060_init_a7421 5 = .ok (.return_, 1) := by decide +kernel
theorem dJ9_max_7cf53_0 : decode cJ9_max_7cf53 0 = .ok (.iload_n 0, 1) := by decide +kernel
theorem dJ9_max_7cf53_1 : decode cJ9_max_7cf53 1 = .ok (.iload_n 1, 1) := by decide +kernel
theorem dJ9_max_7cf53_2 : decode cJ9_max_7cf53 2 = .ok (.if_icmp .lt 7, 3) := by decide +kernel
theorem dJ9_max_7cf53_5 : decode cJ9_max_7cf53 5 = .ok (.iload_n 0, 1) := by decide +kernel
theorem dJ9_max_7cf53_6 : decode cJ9_max_7cf53 6 = .ok (.goto 4, 3) := by decide +kernel
theorem dJ9_max_7cf53_9 : decode cJ9_max_7cf53 9 = .ok (.iload_n 1, 1) := by decide +kernel
theorem dJ9_max_7cf53_10 : decode cJ9_max_7cf53 10 = .ok (.ireturn, 1) := by decide +kernel
theorem dJ9_min_7cf53_0 : decode cJ9_min_7cf53 0 = .ok (.iload_n 0, 1) := by decide +kernel
theorem dJ9_min_7cf53_1 : decode cJ9_min_7cf53 1 = .ok (.iload_n 1, 1) := by decide +kernel
theorem dJ9_min_7cf53_2 : decode cJ9_min_7cf53 2 = .ok (.if_icmp .gt 7, 3) := by decide +kernel
theorem dJ9_min_7cf53_5 : decode cJ9_min_7cf53 5 = .ok (.iload_n 0, 1) := by decide +kernel
theorem dJ9_min_7cf53_6 : decode cJ9_min_7cf53 6 = .ok (.goto 4, 3) := by decide +kernel
theorem dJ9_min_7cf53_9 : decode cJ9_min_7cf53 9 = .ok (.iload_n 1, 1) := by decide +kernel
theorem dJ9_min_7cf53_10 : decode cJ9_min_7cf53 10 = .ok (.ireturn, 1) := by decide +kernel
