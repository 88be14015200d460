theorem dX12_lay_62 : decode cX12_lay 62 = .ok (.ifCond .le 9, 3) := by decide +kernel
theorem dX12_lay_65 : decode cX12_lay 65 = .ok (.aload_n 0, 1) := by decide +kernel
theorem dX12_lay_66 : decode cX12_lay 66 = .ok (.iconst 2, 1) := by decide +kernel
theorem dX12_lay_67 : decode cX12_lay 67 = .ok (.invokevirtual 74, 3) := by decide +kernel
theorem dX12_lay_70 : decode cX12_lay 70 = .ok (.ireturn, 1) := by decide +kernel
theorem dX12_lay_71 : decode cX12_lay 71 = .ok (.iconst 0, 1) := by decide +kernel
theorem dX12_lay_72 : decode cX12_lay 72 = .ok (.istore_n 3, 1) := by decide +kernel
theorem dX12_lay_73 : decode cX12_lay 73 = .ok (.iload_n 3, 1) := by decide +kernel
theorem dX12_lay_74 : decode cX12_lay 74 = .ok (.aload_n 0, 1) := by decide +kernel
theorem dX12_lay_75 : decode cX12_lay 75 = .ok (.getfield 19, 3) := by decide +kernel
theorem dX12_lay_78 : decode cX12_lay 78 = .ok (.iconst 2, 1) := by decide +kernel
theorem dX12_lay_79 : decode cX12_lay 79 = .ok (.iaload, 1) := by decide +kernel
theorem dX12_lay_80 : decode cX12_lay 80 = .ok (.if_icmp .ge 44, 3) := by decide +kernel
theorem dX12_lay_83 : decode cX12_lay 83 = .ok (.aload_n 0, 1) := by decide +kernel
theorem dX12_lay_84 : decode cX12_lay 84 = .ok (.getfield 16, 3) := by decide +kernel
theorem dX12_lay_87 : decode cX12_lay 87 = .ok (.bipush 40, 2) := by decide +kernel
theorem dX12_lay_89 : decode cX12_lay 89 = .ok (.iload_n 1, 1) := by decide +kernel
theorem dX12_lay_90 : decode cX12_lay 90 = .ok (.imul, 1) := by decide +kernel
theorem dX12_lay_91 : decode cX12_lay 91 = .ok (.iload_n 2, 1) := by decide +kernel
theorem dX12_lay_92 : decode cX12_lay 92 = .ok (.iadd, 1) := by decide +kernel
theorem dX12_lay_93 : decode cX12_lay 93 = .ok (.iload_n 3, 1) := by decide +kernel
theorem dX12_lay_94 : decode cX12_lay 94 = .ok (.iadd, 1) := by decide +kernel
theorem dX12_lay_95 : decode cX12_lay 95 = .ok (.iaload, 1) := by decide +kernel
theorem dX12_lay_96 : decode cX12_lay 96 = .ok (.i2l, 1) := by decide +kernel
theorem dX12_lay_97 : decode cX12_lay 97 = .ok (.ldc2_w 248, 3) := by decide +kernel
theorem dX12_lay_100 : decode cX12_lay 100 = .ok (.aload_n 0, 1) := by decide +kernel
theorem dX12_lay_101 : decode cX12_lay 101 = .ok (.getfield 19, 3) := by decide +kernel
theorem dX12_lay_104 : decode cX12_lay 104 = .ok (.iconst 0, 1) := by decide +kernel
theorem dX12_lay_105 : decode cX12_lay 105 = .ok (.iaload, 1) := by decide +kernel
theorem dX12_lay_106 : decode cX12_lay 106 = .ok (.iconst 1, 1) := by decide +kernel
theorem dX12_lay_107 : decode cX12_lay 107 = .ok (.isub, 1) := by decide +kernel
theorem dX12_lay_108 : decode cX12_lay 108 = .ok (.i2l, 1) := by decide +kernel
theorem dX12_lay_109 : decode cX12_lay 109 = .ok (.invokestatic 63, 3) := by decide +kernel
theorem dX12_lay_112 : decode cX12_lay 112 = .ok (.ifCond .ne 6, 3) := by decide +kernel
theorem dX12_lay_115 : decode cX12_lay 115 = .ok (.ldc 73, 2) := by decide +kernel
theorem dX12_lay_117 : decode cX12_lay 117 = .ok (.ireturn, 1) := by decide +kernel
theorem dX12_lay_118 : decode cX12_lay 118 = .ok (.iinc 3 1, 3) := by decide +kernel
theorem dX12_lay_121 : decode cX12_lay 121 = .ok (.goto (-48), 3) := by decide +kernel
theorem dX12_lay_124 : decode cX12_lay 124 = .ok (.aload_n 0, 1) := by decide +kernel
theorem dX12_lay_125 : decode cX12_lay 125 = .ok (.invokevirtual 221, 3) := by decide +kernel
theorem dX12_lay_128 : decode cX12_lay 128 = .ok (.iconst 0, 1) := by decide +kernel
theorem dX12_lay_129 : decode cX12_lay 129 = .ok (.istore_n 3, 1) := by decide +kernel
theorem dX12_lay_130 : decode cX12_lay 130 = .ok (.iload_n 3, 1) := by decide +kernel
theorem dX12_lay_131 : decode cX12_lay 131 = .ok (.aload_n 0, 1) := by decide +kernel
theorem dX12_lay_132 : decode cX12_lay 132 = .ok (.getfield 19, 3) := by decide +kernel
theorem dX12_lay_135 : decode cX12_lay 135 = .ok (.iconst 2, 1) := by decide +kernel
theorem dX12_lay_136 : decode cX12_lay 136 = .ok (.iaload, 1) := by decide +kernel
theorem dX12_lay_137 : decode cX12_lay 137 = .ok (.if_icmp .ge 17, 3) := by decide +kernel
theorem dX12_lay_140 : decode cX12_lay 140 = .ok (.aload_n 0, 1) := by decide +kernel
theorem dX12_lay_141 : decode cX12_lay 141 = .ok (.getfield 28, 3) := by decide +kernel
theorem dX12_lay_144 : decode cX12_lay 144 = .ok (.iload_n 3, 1) := by decide +kernel
theorem dX12_lay_145 : decode cX12_lay 145 = .ok (.ldc 89, 2) := by decide +kernel
theorem dX12_lay_147 : decode cX12_lay 147 = .ok (.iastore, 1) := by decide +kernel
theorem dX12_lay_148 : decode cX12_lay 148 = .ok (.iinc 3 1, 3) := by decide +kernel
theorem dX12_lay_151 : decode cX12_lay 151 = .ok (.goto (-21), 3) := by decide +kernel
theorem dX12_lay_154 : decode cX12_lay 154 = .ok (.iconst 0, 1) := by decide +kernel
theorem dX12_lay_155 : decode cX12_lay 155 = .ok (.istore_n 3, 1) := by decide +kernel
theorem dX12_lay_156 : decode cX12_lay 156 = .ok (.iconst 0, 1) := by decide +kernel
theorem dX12_lay_157 : decode cX12_lay 157 = .ok (.istore 4, 2) := by decide +kernel
theorem dX12_lay_159 : decode cX12_lay 159 = .ok (.iload 4, 2) := by decide +kernel
theorem dX12_lay_161 : decode cX12_lay 161 = .ok (.aload_n 0, 1) := by decide +kernel
theorem dX12_lay_162 : decode cX12_lay 162 = .ok (.getfield 19, 3) := by decide +kernel
theorem dX12_lay_165 : decode cX12_lay 165 = .ok (.iconst 2, 1) := by decide +kernel
theorem dX12_lay_166 : decode cX12_lay 166 = .ok (.iaload, 1) := by decide +kernel
theorem dX12_lay_167 : decode cX12_lay 167 = .ok (.if_icmp .ge 65, 3) := by decide +kernel
theorem dX12_lay_170 : decode cX12_lay 170 = .ok (.aload_n 0, 1) := by decide +kernel
theorem dX12_lay_171 : decode cX12_lay 171 = .ok (.getfield 16, 3) := by decide +kernel
theorem dX12_lay_174 : decode cX12_lay 174 = .ok (.bipush 40, 2) := by decide +kernel
theorem dX12_lay_176 : decode cX12_lay 176 = .ok (.iload_n 1, 1) := by decide +kernel
theorem dX12_lay_177 : decode cX12_lay 177 = .ok (.imul, 1) := by decide +kernel
theorem dX12_lay_178 : decode cX12_lay 178 = .ok (.iload_n 2, 1) := by decide +kernel
theorem dX12_lay_179 : decode cX12_lay 179 = .ok (.iadd, 1) := by decide +kernel
theorem dX12_lay_180 : decode cX12_lay 180 = .ok (.iload 4, 2) := by decide +kernel
theorem dX12_lay_182 : decode cX12_lay 182 = .ok (.iadd, 1) := by decide +kernel
theorem dX12_lay_183 : decode cX12_lay 183 = .ok (.iaload, 1) := by decide +kernel
theorem dX12_lay_184 : decode cX12_lay 184 = .ok (.istore 5, 2) := by decide +kernel
theorem dX12_lay_186 : decode cX12_lay 186 = .ok (.iload 5, 2) := by decide +kernel
theorem dX12_lay_188 : decode cX12_lay 188 = .ok (.ifCond .ge 7, 3) := by decide +kernel
theorem dX12_lay_191 : decode cX12_lay 191 = .ok (.iconst 0, 1) := by decide +kernel
theorem dX12_lay_192 : decode cX12_lay 192 = .ok (.goto 11, 3) := by decide +kernel
theorem dX12_lay_195 : decode cX12_lay 195 = .ok (.aload_n 0, 1) := by decide +kernel
theorem dX12_lay_196 : decode cX12_lay 196 = .ok (.iload 4, 2) := by decide +kernel
theorem dX12_lay_198 : decode cX12_lay 198 = .ok (.iload 5, 2) := by decide +kernel
theorem dX12_lay_200 : decode cX12_lay 200 = .ok (.invokevirtual 224, 3) := by decide +kernel
theorem dX12_lay_203 : decode cX12_lay 203 = .ok (.istore 6, 2) := by decide +kernel
theorem dX12_lay_205 : decode cX12_lay 205 = .ok (.iload 6, 2) := by decide +kernel
theorem dX12_lay_207 : decode cX12_lay 207 = .ok (.ifCond .ge 6, 3) := by decide +kernel
theorem dX12_lay_210 : decode cX12_lay 210 = .ok (.iload 6, 2) := by decide +kernel
theorem dX12_lay_212 : decode cX12_lay 212 = .ok (.ireturn, 1) := by decide +kernel
theorem dX12_lay_213 : decode cX12_lay 213 = .ok (.iload_n 3, 1) := by decide +kernel
theorem dX12_lay_214 : decode cX12_lay 214 = .ok (.iload 5, 2) := by decide +kernel
theorem dX12_lay_216 : decode cX12_lay 216 = .ok (.ifCond .ge 7, 3) := by decide +kernel
theorem dX12_lay_219 : decode cX12_lay 219 = .ok (.iconst 0, 1) := by decide +kernel
theorem dX12_lay_220 : decode cX12_lay 220 = .ok (.goto 4, 3) := by decide +kernel
theorem dX12_lay_223 : decode cX12_lay 223 = .ok (.iconst 1, 1) := by decide +kernel
theorem dX12_lay_224 : decode cX12_lay 224 = .ok (.iadd, 1) := by decide +kernel
theorem dX12_lay_225 : decode cX12_lay 225 = .ok (.istore_n 3, 1) := by decide +kernel
theorem dX12_lay_226 : decode cX12_lay 226 = .ok (.iinc 4 1, 3) := by decide +kernel
theorem dX12_lay_229 : decode cX12_lay 229 = .ok (.goto (-70), 3) := by decide +kernel
theorem dX12_lay_232 : decode cX12_lay 232 = .ok (.aload_n 0, 1) := by decide +kernel
theorem dX12_lay_233 : decode cX12_lay 233 = .ok (.iconst 0, 1) := by decide +kernel
theorem dX12_lay_234 : decode cX12_lay 234 = .ok (.putfield 57, 3) := by decide +kernel
theorem dX12_lay_237 : decode cX12_lay 237 = .ok (.aload_n 0, 1) := by decide +kernel
theorem dX12_lay_238 : decode cX12_lay 238 = .ok (.invokevirtual 227, 3) := by decide +kernel
theorem dX12_lay_241 : decode cX12_lay 241 = .ok (.iload_n 3, 1) := by decide +kernel
theorem dX12_lay_242 : decode cX12_lay 242 = .ok (.ireturn, 1) := by decide +kernel
theorem dX12_piece_0 : decode cX12_piece 0 = .ok (.aload_n 0, 1) := by decide +kernel
theorem dX12_piece_1 : decode cX12_piece 1 = .ok (.iconst 0, 1) := by decide +kernel
theorem dX12_piece_2 : decode cX12_piece 2 = .ok (.putfield 53, 3) := by decide +kernel
theorem dX12_piece_5 : decode cX12_piece 5 = .ok (.aload_n 0, 1) := by decide +kernel
theorem dX12_piece_6 : decode cX12_piece 6 = .ok (.iload_n 1, 1) := by decide +kernel
theorem dX12_piece_7 : decode cX12_piece 7 = .ok (.invokevirtual 215, 3) := by decide +kernel
theorem dX12_piece_10 : decode cX12_piece 10 = .ok (.ifCond .eq 15, 3) := by decide +kernel
theorem dX12_piece_13 : decode cX12_piece 13 = .ok (.iload_n 2, 1) := by decide +kernel
theorem dX12_piece_14 : decode cX12_piece 14 = .ok (.i2l, 1) := by decide +kernel
theorem dX12_piece_15 : decode cX12_piece 15 = .ok (.lconst 0, 1) := by decide +kernel
theorem dX12_piece_16 : decode cX12_piece 16 = .ok (.ldc2_w 250, 3) := by decide +kernel
theorem dX12_piece_19 : decode cX12_piece 19 = .ok (.invokestatic 63, 3) := by decide +kernel
theorem dX12_piece_22 : decode cX12_piece 22 = .ok (.ifCond .ne 6, 3) := by decide +kernel
theorem dX12_piece_25 : decode cX12_piece 25 = .ok (.ldc 73, 2) := by decide +kernel
theorem dX12_piece_27 : decode cX12_piece 27 = .ok (.ireturn, 1) := by decide +kernel
theorem dX12_piece_28 : decode cX12_piece 28 = .ok (.aload_n 0, 1) := by decide +kernel
theorem dX12_piece_29 : decode cX12_piece 29 = .ok (.iload_n 1, 1) := by decide +kernel
theorem dX12_piece_30 : decode cX12_piece 30 = .ok (.iload_n 2, 1) := by decide +kernel
theorem dX12_piece_31 : decode cX12_piece 31 = .ok (.ifCond .ne 7, 3) := by decide +kernel
theorem dX12_piece_34 : decode cX12_piece 34 = .ok (.iconst 2, 1) := by decide +kernel
theorem dX12_piece_35 : decode cX12_piece 35 = .ok (.goto 31, 3) := by decide +kernel
theorem dX12_piece_38 : decode cX12_piece 38 = .ok (.iload_n 2, 1) := by decide +kernel
theorem dX12_piece_39 : decode cX12_piece 39 = .ok (.iconst 1, 1) := by decide +kernel
theorem dX12_piece_40 : decode cX12_piece 40 = .ok (.if_icmp .ne 7, 3) := by decide +kernel
theorem dX12_piece_43 : decode cX12_piece 43 = .ok (.iconst 4, 1) := by decide +kernel
theorem dX12_piece_44 : decode cX12_piece 44 = .ok (.goto 22, 3) := by decide +kernel
theorem dX12_piece_47 : decode cX12_piece 47 = .ok (.iload_n 2, 1) := by decide +kernel
theorem dX12_piece_48 : decode cX12_piece 48 = .ok (.iconst 2, 1) := by decide +kernel
theorem dX12_piece_49 : decode cX12_piece 49 = .ok (.if_icmp .ne 7, 3) := by decide +kernel
theorem dX12_piece_52 : decode cX12_piece 52 = .ok (.iconst 5, 1) := by decide +kernel
theorem dX12_piece_53 : decode cX12_piece 53 = .ok (.goto 13, 3) := by decide +kernel
theorem dX12_piece_56 : decode cX12_piece 56 = .ok (.iload_n 2, 1) := by decide +kernel
theorem dX12_piece_57 : decode cX12_piece 57 = .ok (.iconst 3, 1) := by decide +kernel
theorem dX12_piece_58 : decode cX12_piece 58 = .ok (.if_icmp .ne 7, 3) := by decide +kernel
theorem dX12_piece_61 : decode cX12_piece 61 = .ok (.iconst 1, 1) := by decide +kernel
theorem dX12_piece_62 : decode cX12_piece 62 = .ok (.goto 4, 3) := by decide +kernel
theorem dX12_piece_65 : decode cX12_piece 65 = .ok (.iconst 3, 1) := by decide +kernel
theorem dX12_piece_66 : decode cX12_piece 66 = .ok (.invokevirtual 202, 3) := by decide +kernel
theorem dX12_piece_69 : decode cX12_piece 69 = .ok (.ireturn, 1) := by decide +kernel
theorem dX12_hangOn_0 : decode cX12_hangOn 0 = .ok (.iconst 0, 1) := by decide +kernel
theorem dX12_hangOn_1 : decode cX12_hangOn 1 = .ok (.istore_n 2, 1) := by decide +kernel
theorem dX12_hangOn_2 : decode cX12_hangOn 2 = .ok (.iconst 0, 1) := by decide +kernel
theorem dX12_hangOn_3 : decode cX12_hangOn 3 = .ok (.istore_n 3, 1) := by decide +kernel
theorem dX12_hangOn_4 : decode cX12_hangOn 4 = .ok (.iload_n 3, 1) := by decide +kernel
theorem dX12_hangOn_5 : decode cX12_hangOn 5 = .ok (.aload_n 0, 1) := by decide +kernel
theorem dX12_hangOn_6 : decode cX12_hangOn 6 = .ok (.getfield 19, 3) := by decide +kernel
theorem dX12_hangOn_9 : decode cX12_hangOn 9 = .ok (.iconst 2, 1) := by decide +kernel
theorem dX12_hangOn_10 : decode cX12_hangOn 10 = .ok (.iaload, 1) := by decide +kernel
theorem dX12_hangOn_11 : decode cX12_hangOn 11 = .ok (.if_icmp .ge 29, 3) := by decide +kernel
theorem dX12_hangOn_14 : decode cX12_hangOn 14 = .ok (.iload_n 2, 1) := by decide +kernel
theorem dX12_hangOn_15 : decode cX12_hangOn 15 = .ok (.aload_n 0, 1) := by decide +kernel
theorem dX12_hangOn_16 : decode cX12_hangOn 16 = .ok (.iload_n 3, 1) := by decide +kernel
theorem dX12_hangOn_17 : decode cX12_hangOn 17 = .ok (.iconst 4, 1) := by decide +kernel
theorem dX12_hangOn_18 : decode cX12_hangOn 18 = .ok (.invokevirtual 202, 3) := by decide +kernel
theorem dX12_hangOn_21 : decode cX12_hangOn 21 = .ok (.iload_n 1, 1) := by decide +kernel
theorem dX12_hangOn_22 : decode cX12_hangOn 22 = .ok (.if_icmp .ne 9, 3) := by decide +kernel
theorem dX12_hangOn_25 : decode cX12_hangOn 25 = .ok (.iconst 1, 1) := by decide +kernel
theorem dX12_hangOn_26 : decode cX12_hangOn 26 = .ok (.iload_n 3, 1) := by decide +kernel
theorem dX12_hangOn_27 : decode cX12_hangOn 27 = .ok (.ishl, 1) := by decide +kernel
theorem dX12_hangOn_28 : decode cX12_hangOn 28 = .ok (.goto 4, 3) := by decide +kernel
theorem dX12_hangOn_31 : decode cX12_hangOn 31 = .ok (.iconst 0, 1) := by decide +kernel
theorem dX12_hangOn_32 : decode cX12_hangOn 32 = .ok (.ior, 1) := by decide +kernel
theorem dX12_hangOn_33 : decode cX12_hangOn 33 = .ok (.istore_n 2, 1) := by decide +kernel
theorem dX12_hangOn_34 : decode cX12_hangOn 34 = .ok (.iinc 3 1, 3) := by decide +kernel
theorem dX12_hangOn_37 : decode cX12_hangOn 37 = .ok (.goto (-33), 3) := by decide +kernel
theorem dX12_hangOn_40 : decode cX12_hangOn 40 = .ok (.iload_n 2, 1) := by decide +kernel
theorem dX12_hangOn_41 : decode cX12_hangOn 41 = .ok (.ireturn, 1) := by decide +kernel
theorem dX12_line_0 : decode cX12_line 0 = .ok (.aload_n 0, 1) := by decide +kernel
theorem dX12_line_1 : decode cX12_line 1 = .ok (.iconst 0, 1) := by decide +kernel
theorem dX12_line_2 : decode cX12_line 2 = .ok (.putfield 53, 3) := by decide +kernel
theorem dX12_line_5 : decode cX12_line 5 = .ok (.aload_n 0, 1) := by decide +kernel
theorem dX12_line_6 : decode cX12_line 6 = .ok (.iload_n 1, 1) := by decide +kernel
theorem dX12_line_7 : decode cX12_line 7 = .ok (.invokevirtual 218, 3) := by decide +kernel
theorem dX12_line_10 : decode cX12_line 10 = .ok (.ifCond .eq 15, 3) := by decide +kernel
theorem dX12_line_13 : decode cX12_line 13 = .ok (.iload_n 2, 1) := by decide +kernel
theorem dX12_line_14 : decode cX12_line 14 = .ok (.i2l, 1) := by decide +kernel
theorem dX12_line_15 : decode cX12_line 15 = .ok (.lconst 0, 1) := by decide +kernel
theorem dX12_line_16 : decode cX12_line 16 = .ok (.ldc2_w 252, 3) := by decide +kernel
theorem dX12_line_19 : decode cX12_line 19 = .ok (.invokestatic 63, 3) := by decide +kernel
theorem dX12_line_22 : decode cX12_line 22 = .ok (.ifCond .ne 6, 3) := by decide +kernel
theorem dX12_line_25 : decode cX12_line 25 = .ok (.ldc 73, 2) := by decide +kernel
theorem dX12_line_27 : decode cX12_line 27 = .ok (.ireturn, 1) := by decide +kernel
theorem dX12_line_28 : decode cX12_line 28 = .ok (.iload_n 2, 1) := by decide +kernel
theorem dX12_line_29 : decode cX12_line 29 = .ok (.iconst 3, 1) := by decide +kernel
theorem dX12_line_30 : decode cX12_line 30 = .ok (.if_icmp .ge 19, 3) := by decide +kernel
theorem dX12_line_33 : decode cX12_line 33 = .ok (.aload_n 0, 1) := by decide +kernel
theorem dX12_line_34 : decode cX12_line 34 = .ok (.getfield 19, 3) := by decide +kernel
theorem dX12_line_37 : decode cX12_line 37 = .ok (.bipush 28, 2) := by decide +kernel
theorem dX12_line_39 : decode cX12_line 39 = .ok (.iconst 3, 1) := by decide +kernel
theorem dX12_line_40 : decode cX12_line 40 = .ok (.iload_n 1, 1) := by decide +kernel
theorem dX12_line_41 : decode cX12_line 41 = .ok (.imul, 1) := by decide +kernel
theorem dX12_line_42 : decode cX12_line 42 = .ok (.iadd, 1) := by decide +kernel
theorem dX12_line_43 : decode cX12_line 43 = .ok (.iload_n 2, 1) := by decide +kernel
theorem dX12_line_44 : decode cX12_line 44 = .ok (.iadd, 1) := by decide +kernel
theorem dX12_line_45 : decode cX12_line 45 = .ok (.iaload, 1) := by decide +kernel
theorem dX12_line_46 : decode cX12_line 46 = .ok (.goto 34, 3) := by decide +kernel
theorem dX12_line_49 : decode cX12_line 49 = .ok (.iload_n 2, 1) := by decide +kernel
theorem dX12_line_50 : decode cX12_line 50 = .ok (.iconst 3, 1) := by decide +kernel
theorem dX12_line_51 : decode cX12_line 51 = .ok (.if_icmp .ne 11, 3) := by decide +kernel
theorem dX12_line_54 : decode cX12_line 54 = .ok (.aload_n 0, 1) := by decide +kernel
theorem dX12_line_55 : decode cX12_line 55 = .ok (.iload_n 1, 1) := by decide +kernel
theorem dX12_line_56 : decode cX12_line 56 = .ok (.invokevirtual 254, 3) := by decide +kernel
theorem dX12_line_59 : decode cX12_line 59 = .ok (.goto 21, 3) := by decide +kernel
theorem dX12_line_62 : decode cX12_line 62 = .ok (.iload_n 2, 1) := by decide +kernel
theorem dX12_line_63 : decode cX12_line 63 = .ok (.iconst 4, 1) := by decide +kernel
theorem dX12_line_64 : decode cX12_line 64 = .ok (.if_icmp .ne 11, 3) := by decide +kernel
theorem dX12_line_67 : decode cX12_line 67 = .ok (.aload_n 0, 1) := by decide +kernel
theorem dX12_line_68 : decode cX12_line 68 = .ok (.iload_n 1, 1) := by decide +kernel
theorem dX12_line_69 : decode cX12_line 69 = .ok (.invokevirtual 205, 3) := by decide +kernel
theorem dX12_line_72 : decode cX12_line 72 = .ok (.goto 8, 3) := by decide +kernel
theorem dX12_line_75 : decode cX12_line 75 = .ok (.aload_n 0, 1) := by decide +kernel
theorem dX12_line_76 : decode cX12_line 76 = .ok (.iload_n 1, 1) := by decide +kernel
theorem dX12_line_77 : decode cX12_line 77 = .ok (.invokevirtual 237, 3) := by decide +kernel
theorem dX12_line_80 : decode cX12_line 80 = .ok (.ireturn, 1) := by decide +kernel
theorem dX12_areDry_0 : decode cX12_areDry 0 = .ok (.iconst 1, 1) := by decide +kernel
theorem dX12_areDry_1 : decode cX12_areDry 1 = .ok (.istore_n 2, 1) := by decide +kernel
theorem dX12_areDry_2 : decode cX12_areDry 2 = .ok (.iconst 0, 1) := by decide +kernel
theorem dX12_areDry_3 : decode cX12_areDry 3 = .ok (.istore_n 3, 1) := by decide +kernel
theorem dX12_areDry_4 : decode cX12_areDry 4 = .ok (.iload_n 3, 1) := by decide +kernel
theorem dX12_areDry_5 : decode cX12_areDry 5 = .ok (.aload_n 0, 1) := by decide +kernel
theorem dX12_areDry_6 : decode cX12_areDry 6 = .ok (.getfield 19, 3) := by decide +kernel
theorem dX12_areDry_9 : decode cX12_areDry 9 = .ok (.iconst 2, 1) := by decide +kernel
theorem dX12_areDry_10 : decode cX12_areDry 10 = .ok (.iaload, 1) := by decide +kernel
theorem dX12_areDry_11 : decode cX12_areDry 11 = .ok (.if_icmp .ge 36, 3) := by decide +kernel
theorem dX12_areDry_14 : decode cX12_areDry 14 = .ok (.iload_n 2, 1) := by decide +kernel
theorem dX12_areDry_15 : decode cX12_areDry 15 = .ok (.ifCond .eq 24, 3) := by decide +kernel
theorem dX12_areDry_18 : decode cX12_areDry 18 = .ok (.iload_n 1, 1) := by decide +kernel
theorem dX12_areDry_19 : decode cX12_areDry 19 = .ok (.iload_n 3, 1) := by decide +kernel
theorem dX12_areDry_20 : decode cX12_areDry 20 = .ok (.ishr, 1) := by decide +kernel
theorem dX12_areDry_21 : decode cX12_areDry 21 = .ok (.iconst 1, 1) := by decide +kernel
theorem dX12_areDry_22 : decode cX12_areDry 22 = .ok (.iand, 1) := by decide +kernel
theorem dX12_areDry_23 : decode cX12_areDry 23 = .ok (.ifCond .eq 12, 3) := by decide +kernel
theorem dX12_areDry_26 : decode cX12_areDry 26 = .ok (.aload_n 0, 1) := by decide +kernel
theorem dX12_areDry_27 : decode cX12_areDry 27 = .ok (.getfield 31, 3) := by decide +kernel
theorem dX12_areDry_30 : decode cX12_areDry 30 = .ok (.iload_n 3, 1) := by decide +kernel
theorem dX12_areDry_31 : decode cX12_areDry 31 = .ok (.iaload, 1) := by decide +kernel
theorem dX12_areDry_32 : decode cX12_areDry 32 = .ok (.ifCond .ne 7, 3) := by decide +kernel
theorem dX12_areDry_35 : decode cX12_areDry 35 = .ok (.iconst 1, 1) := by decide +kernel
theorem dX12_areDry_36 : decode cX12_areDry 36 = .ok (.goto 4, 3) := by decide +kernel
theorem dX12_areDry_39 : decode cX12_areDry 39 = .ok (.iconst 0, 1) := by decide +kernel
theorem dX12_areDry_40 : decode cX12_areDry 40 = .ok (.istore_n 2, 1) := by decide +kernel
theorem dX12_areDry_41 : decode cX12_areDry 41 = .ok (.iinc 3 1, 3) := by decide +kernel
theorem dX12_areDry_44 : decode cX12_areDry 44 = .ok (.goto (-40), 3) := by decide +kernel
theorem dX12_areDry_47 : decode cX12_areDry 47 = .ok (.iload_n 2, 1) := by decide +kernel
theorem dX12_areDry_48 : decode cX12_areDry 48 = .ok (.ireturn, 1) := by decide +kernel
theorem dX12_dry_0 : decode cX12_dry 0 = .ok (.aload_n 0, 1) := by decide +kernel
theorem dX12_dry_1 : decode cX12_dry 1 = .ok (.iconst 0, 1) := by decide +kernel
theorem dX12_dry_2 : decode cX12_dry 2 = .ok (.putfield 53, 3) := by decide +kernel
theorem dX12_dry_5 : decode cX12_dry 5 = .ok (.aload_n 0, 1) := by decide +kernel
theorem dX12_dry_6 : decode cX12_dry 6 = .ok (.getfield 192, 3) := by decide +kernel
theorem dX12_dry_9 : decode cX12_dry 9 = .ok (.ifCond .ne 6, 3) := by decide +kernel
theorem dX12_dry_12 : decode cX12_dry 12 = .ok (.ldc 208, 2) := by decide +kernel
theorem dX12_dry_14 : decode cX12_dry 14 = .ok (.ireturn, 1) := by decide +kernel
theorem dX12_dry_15 : decode cX12_dry 15 = .ok (.iconst 0, 1) := by decide +kernel
theorem dX12_dry_16 : decode cX12_dry 16 = .ok (.istore_n 1, 1) := by decide +kernel
theorem dX12_dry_17 : decode cX12_dry 17 = .ok (.aload_n 0, 1) := by decide +kernel
theorem dX12_dry_18 : decode cX12_dry 18 = .ok (.invokevirtual 221, 3) := by decide +kernel
theorem dX12_dry_21 : decode cX12_dry 21 = .ok (.iconst 0, 1) := by decide +kernel
theorem dX12_dry_22 : decode cX12_dry 22 = .ok (.istore_n 2, 1) := by decide +kernel
theorem dX12_dry_23 : decode cX12_dry 23 = .ok (.iload_n 2, 1) := by decide +kernel
theorem dX12_dry_24 : decode cX12_dry 24 = .ok (.aload_n 0, 1) := by decide +kernel
theorem dX12_dry_25 : decode cX12_dry 25 = .ok (.getfield 19, 3) := by decide +kernel
theorem dX12_dry_28 : decode cX12_dry 28 = .ok (.iconst 2, 1) := by decide +kernel
theorem dX12_dry_29 : decode cX12_dry 29 = .ok (.iaload, 1) := by decide +kernel
theorem dX12_dry_30 : decode cX12_dry 30 = .ok (.if_icmp .ge 30, 3) := by decide +kernel
theorem dX12_dry_33 : decode cX12_dry 33 = .ok (.iload_n 1, 1) := by decide +kernel
theorem dX12_dry_34 : decode cX12_dry 34 = .ok (.aload_n 0, 1) := by decide +kernel
theorem dX12_dry_35 : decode cX12_dry 35 = .ok (.getfield 28, 3) := by decide +kernel
theorem dX12_dry_38 : decode cX12_dry 38 = .ok (.iload_n 2, 1) := by decide +kernel
theorem dX12_dry_39 : decode cX12_dry 39 = .ok (.iaload, 1) := by decide +kernel
theorem dX12_dry_40 : decode cX12_dry 40 = .ok (.ldc 89, 2) := by decide +kernel
theorem dX12_dry_42 : decode cX12_dry 42 = .ok (.if_icmp .eq 9, 3) := by decide +kernel
theorem dX12_dry_45 : decode cX12_dry 45 = .ok (.iconst 1, 1) := by decide +kernel
theorem dX12_dry_46 : decode cX12_dry 46 = .ok (.iload_n 2, 1) := by decide +kernel
theorem dX12_dry_47 : decode cX12_dry 47 = .ok (.ishl, 1) := by decide +kernel
theorem dX12_dry_48 : decode cX12_dry 48 = .ok (.goto 4, 3) := by decide +kernel
theorem dX12_dry_51 : decode cX12_dry 51 = .ok (.iconst 0, 1) := by decide +kernel
theorem dX12_dry_52 : decode cX12_dry 52 = .ok (.ior, 1) := by decide +kernel
theorem dX12_dry_53 : decode cX12_dry 53 = .ok (.istore_n 1, 1) := by decide +kernel
theorem dX12_dry_54 : decode cX12_dry 54 = .ok (.iinc 2 1, 3) := by decide +kernel
theorem dX12_dry_57 : decode cX12_dry 57 = .ok (.goto (-34), 3) := by decide +kernel
theorem dX12_dry_60 : decode cX12_dry 60 = .ok (.iconst 0, 1) := by decide +kernel
theorem dX12_dry_61 : decode cX12_dry 61 = .ok (.istore_n 2, 1) := by decide +kernel
theorem dX12_dry_62 : decode cX12_dry 62 = .ok (.iload_n 2, 1) := by decide +kernel
theorem dX12_dry_63 : decode cX12_dry 63 = .ok (.bipush 96, 2) := by decide +kernel
theorem dX12_dry_65 : decode cX12_dry 65 = .ok (.if_icmp .gt 31, 3) := by decide +kernel
theorem dX12_dry_68 : decode cX12_dry 68 = .ok (.aload_n 0, 1) := by decide +kernel
theorem dX12_dry_69 : decode cX12_dry 69 = .ok (.iload_n 1, 1) := by decide +kernel
theorem dX12_dry_70 : decode cX12_dry 70 = .ok (.invokevirtual 257, 3) := by decide +kernel
theorem dX12_dry_73 : decode cX12_dry 73 = .ok (.ifCond .eq 5, 3) := by decide +kernel
theorem dX12_dry_76 : decode cX12_dry 76 = .ok (.iload_n 2, 1) := by decide +kernel
theorem dX12_dry_77 : decode cX12_dry 77 = .ok (.ireturn, 1) := by decide +kernel
theorem dX12_dry_78 : decode cX12_dry 78 = .ok (.aload_n 0, 1) := by decide +kernel
theorem dX12_dry_79 : decode cX12_dry 79 = .ok (.aload_n 0, 1) := by decide +kernel
theorem dX12_dry_80 : decode cX12_dry 80 = .ok (.getfield 19, 3) := by decide +kernel
theorem dX12_dry_83 : decode cX12_dry 83 = .ok (.iconst 3, 1) := by decide +kernel
theorem dX12_dry_84 : decode cX12_dry 84 = .ok (.iaload, 1) := by decide +kernel
theorem dX12_dry_85 : decode cX12_dry 85 = .ok (.iload_n 2, 1) := by decide +kernel
theorem dX12_dry_86 : decode cX12_dry 86 = .ok (.iadd, 1) := by decide +kernel
theorem dX12_dry_87 : decode cX12_dry 87 = .ok (.invokevirtual 245, 3) := by decide +kernel
theorem dX12_dry_90 : decode cX12_dry 90 = .ok (.iinc 2 1, 3) := by decide +kernel
theorem dX12_dry_93 : decode cX12_dry 93 = .ok (.goto (-31), 3) := by decide +kernel
theorem dX12_dry_96 : decode cX12_dry 96 = .ok (.ldc 89, 2) := by decide +kernel
theorem dX12_dry_98 : decode cX12_dry 98 = .ok (.ireturn, 1) := by decide +kernel
theorem dX12_dryBy_0 : decode cX12_dryBy 0 = .ok (.aload_n 0, 1) := by decide +kernel
theorem dX12_dryBy_1 : decode cX12_dryBy 1 = .ok (.invokevirtual 221, 3) := by decide +kernel
theorem dX12_dryBy_4 : decode cX12_dryBy 4 = .ok (.iload_n 2, 1) := by decide +kernel
theorem dX12_dryBy_5 : decode cX12_dryBy 5 = .ok (.istore_n 3, 1) := by decide +kernel
theorem dX12_dryBy_6 : decode cX12_dryBy 6 = .ok (.iconst 1, 1) := by decide +kernel
theorem dX12_dryBy_7 : decode cX12_dryBy 7 = .ok (.istore 4, 2) := by decide +kernel
theorem dX12_dryBy_9 : decode cX12_dryBy 9 = .ok (.iconst 1, 1) := by decide +kernel
theorem dX12_dryBy_10 : decode cX12_dryBy 10 = .ok (.istore 5, 2) := by decide +kernel
theorem dX12_dryBy_12 : decode cX12_dryBy 12 = .ok (.iload 5, 2) := by decide +kernel
theorem dX12_dryBy_14 : decode cX12_dryBy 14 = .ok (.iload_n 1, 1) := by decide +kernel
theorem dX12_dryBy_15 : decode cX12_dryBy 15 = .ok (.if_icmp .ge 20, 3) := by decide +kernel
theorem dX12_dryBy_18 : decode cX12_dryBy 18 = .ok (.iload 4, 2) := by decide +kernel
theorem dX12_dryBy_20 : decode cX12_dryBy 20 = .ok (.aload_n 0, 1) := by decide +kernel
theorem dX12_dryBy_21 : decode cX12_dryBy 21 = .ok (.getfield 19, 3) := by decide +kernel
theorem dX12_dryBy_24 : decode cX12_dryBy 24 = .ok (.iconst 0, 1) := by decide +kernel
theorem dX12_dryBy_25 : decode cX12_dryBy 25 = .ok (.iaload, 1) := by decide +kernel
theorem dX12_dryBy_26 : decode cX12_dryBy 26 = .ok (.imul, 1) := by decide +kernel
theorem dX12_dryBy_27 : decode cX12_dryBy 27 = .ok (.istore 4, 2) := by decide +kernel
theorem dX12_dryBy_29 : decode cX12_dryBy 29 = .ok (.iinc 5 1, 3) := by decide +kernel
theorem dX12_dryBy_32 : decode cX12_dryBy 32 = .ok (.goto (-20), 3) := by decide +kernel
theorem dX12_dryBy_35 : decode cX12_dryBy 35 = .ok (.iconst 0, 1) := by decide +kernel
theorem dX12_dryBy_36 : decode cX12_dryBy 36 = .ok (.istore 5, 2) := by decide +kernel
theorem dX12_dryBy_38 : decode cX12_dryBy 38 = .ok (.iload 5, 2) := by decide +kernel
theorem dX12_dryBy_40 : decode cX12_dryBy 40 = .ok (.iload_n 1, 1) := by decide +kernel
theorem dX12_dryBy_41 : decode cX12_dryBy 41 = .ok (.if_icmp .ge 41, 3) := by decide +kernel
theorem dX12_dryBy_44 : decode cX12_dryBy 44 = .ok (.aload_n 0, 1) := by decide +kernel
theorem dX12_dryBy_45 : decode cX12_dryBy 45 = .ok (.iload 5, 2) := by decide +kernel
theorem dX12_dryBy_47 : decode cX12_dryBy 47 = .ok (.iload_n 3, 1) := by decide +kernel
theorem dX12_dryBy_48 : decode cX12_dryBy 48 = .ok (.iload 4, 2) := by decide +kernel
theorem dX12_dryBy_50 : decode cX12_dryBy 50 = .ok (.idiv, 1) := by decide +kernel
theorem dX12_dryBy_51 : decode cX12_dryBy 51 = .ok (.invokevirtual 224, 3) := by decide +kernel
theorem dX12_dryBy_54 : decode cX12_dryBy 54 = .ok (.ifCond .ge 6, 3) := by decide +kernel
theorem dX12_dryBy_57 : decode cX12_dryBy 57 = .ok (.ldc 89, 2) := by decide +kernel
theorem dX12_dryBy_59 : decode cX12_dryBy 59 = .ok (.ireturn, 1) := by decide +kernel
theorem dX12_dryBy_60 : decode cX12_dryBy 60 = .ok (.iload_n 3, 1) := by decide +kernel
theorem dX12_dryBy_61 : decode cX12_dryBy 61 = .ok (.iload 4, 2) := by decide +kernel
theorem dX12_dryBy_63 : decode cX12_dryBy 63 = .ok (.irem, 1) := by decide +kernel
theorem dX12_dryBy_64 : decode cX12_dryBy 64 = .ok (.istore_n 3, 1) := by decide +kernel
theorem dX12_dryBy_65 : decode cX12_dryBy 65 = .ok (.iload 4, 2) := by decide +kernel
theorem dX12_dryBy_67 : decode cX12_dryBy 67 = .ok (.aload_n 0, 1) := by decide +kernel
theorem dX12_dryBy_68 : decode cX12_dryBy 68 = .ok (.getfield 19, 3) := by decide +kernel
theorem dX12_dryBy_71 : decode cX12_dryBy 71 = .ok (.iconst 0, 1) := by decide +kernel
theorem dX12_dryBy_72 : decode cX12_dryBy 72 = .ok (.iaload, 1) := by decide +kernel
theorem dX12_dryBy_73 : decode cX12_dryBy 73 = .ok (.idiv, 1) := by decide +kernel
theorem dX12_dryBy_74 : decode cX12_dryBy 74 = .ok (.istore 4, 2) := by decide +kernel
theorem dX12_dryBy_76 : decode cX12_dryBy 76 = .ok (.iinc 5 1, 3) := by decide +kernel
theorem dX12_dryBy_79 : decode cX12_dryBy 79 = .ok (.goto (-41), 3) := by decide +kernel
theorem dX12_dryBy_82 : decode cX12_dryBy 82 = .ok (.iconst 1, 1) := by decide +kernel
theorem dX12_dryBy_83 : decode cX12_dryBy 83 = .ok (.iload_n 1, 1) := by decide +kernel
theorem dX12_dryBy_84 : decode cX12_dryBy 84 = .ok (.ishl, 1) := by decide +kernel
theorem dX12_dryBy_85 : decode cX12_dryBy 85 = .ok (.iconst 1, 1) := by decide +kernel
theorem dX12_dryBy_86 : decode cX12_dryBy 86 = .ok (.isub, 1) := by decide +kernel
theorem dX12_dryBy_87 : decode cX12_dryBy 87 = .ok (.istore 5, 2) := by decide +kernel
theorem dX12_dryBy_89 : decode cX12_dryBy 89 = .ok (.aload_n 0, 1) := by decide +kernel
theorem dX12_dryBy_90 : decode cX12_dryBy 90 = .ok (.getfield 199, 3) := by decide +kernel
theorem dX12_dryBy_93 : decode cX12_dryBy 93 = .ok (.iload 5, 2) := by decide +kernel
theorem dX12_dryBy_95 : decode cX12_dryBy 95 = .ok (.iand, 1) := by decide +kernel
theorem dX12_dryBy_96 : decode cX12_dryBy 96 = .ok (.istore 6, 2) := by decide +kernel
theorem dX12_dryBy_98 : decode cX12_dryBy 98 = .ok (.iconst 0, 1) := by decide +kernel
theorem dX12_dryBy_99 : decode cX12_dryBy 99 = .ok (.istore 7, 2) := by decide +kernel
theorem dX12_dryBy_101 : decode cX12_dryBy 101 = .ok (.iload 7, 2) := by decide +kernel
theorem dX12_dryBy_103 : decode cX12_dryBy 103 = .ok (.bipush 48, 2) := by decide +kernel
theorem dX12_dryBy_105 : decode cX12_dryBy 105 = .ok (.if_icmp .gt 49, 3) := by decide +kernel
theorem dX12_dryBy_108 : decode cX12_dryBy 108 = .ok (.aload_n 0, 1) := by decide +kernel
theorem dX12_dryBy_109 : decode cX12_dryBy 109 = .ok (.getfield 199, 3) := by decide +kernel
theorem dX12_dryBy_112 : decode cX12_dryBy 112 = .ok (.iload 5, 2) := by decide +kernel
theorem dX12_dryBy_114 : decode cX12_dryBy 114 = .ok (.iand, 1) := by decide +kernel
theorem dX12_dryBy_115 : decode cX12_dryBy 115 = .ok (.iload 6, 2) := by decide +kernel
theorem dX12_dryBy_117 : decode cX12_dryBy 117 = .ok (.if_icmp .eq 6, 3) := by decide +kernel
theorem dX12_dryBy_120 : decode cX12_dryBy 120 = .ok (.ldc 89, 2) := by decide +kernel
theorem dX12_dryBy_122 : decode cX12_dryBy 122 = .ok (.ireturn, 1) := by decide +kernel
theorem dX12_dryBy_123 : decode cX12_dryBy 123 = .ok (.aload_n 0, 1) := by decide +kernel
theorem dX12_dryBy_124 : decode cX12_dryBy 124 = .ok (.iload 5, 2) := by decide +kernel
theorem dX12_dryBy_126 : decode cX12_dryBy 126 = .ok (.invokevirtual 257, 3) := by decide +kernel
theorem dX12_dryBy_129 : decode cX12_dryBy 129 = .ok (.ifCond .eq 6, 3) := by decide +kernel
theorem dX12_dryBy_132 : decode cX12_dryBy 132 = .ok (.iload 7, 2) := by decide +kernel
theorem dX12_dryBy_134 : decode cX12_dryBy 134 = .ok (.ireturn, 1) := by decide +kernel
theorem dX12_dryBy_135 : decode cX12_dryBy 135 = .ok (.aload_n 0, 1) := by decide +kernel
theorem dX12_dryBy_136 : decode cX12_dryBy 136 = .ok (.aload_n 0, 1) := by decide +kernel
theorem dX12_dryBy_137 : decode cX12_dryBy 137 = .ok (.getfield 19, 3) := by decide +kernel
theorem dX12_dryBy_140 : decode cX12_dryBy 140 = .ok (.iconst 3, 1) := by decide +kernel
theorem dX12_dryBy_141 : decode cX12_dryBy 141 = .ok (.iaload, 1) := by decide +kernel
theorem dX12_dryBy_142 : decode cX12_dryBy 142 = .ok (.iload 7, 2) := by decide +kernel
theorem dX12_dryBy_144 : decode cX12_dryBy 144 = .ok (.iadd, 1) := by decide +kernel
theorem dX12_dryBy_145 : decode cX12_dryBy 145 = .ok (.invokevirtual 245, 3) := by decide +kernel
theorem dX12_dryBy_148 : decode cX12_dryBy 148 = .ok (.iinc 7 1, 3) := by decide +kernel
theorem dX12_dryBy_151 : decode cX12_dryBy 151 = .ok (.goto (-50), 3) := by decide +kernel
theorem dX12_dryBy_154 : decode cX12_dryBy 154 = .ok (.ldc 89, 2) := by decide +kernel
theorem dX12_dryBy_156 : decode cX12_dryBy 156 = .ok (.ireturn, 1) := by decide +kernel
theorem dX12_plan_0 : decode cX12_plan 0 = .ok (.aload_n 0, 1) := by decide +kernel
theorem dX12_plan_1 : decode cX12_plan 1 = .ok (.iconst 0, 1) := by decide +kernel
theorem dX12_plan_2 : decode cX12_plan 2 = .ok (.putfield 53, 3) := by decide +kernel
theorem dX12_plan_5 : decode cX12_plan 5 = .ok (.aload_n 0, 1) := by decide +kernel
theorem dX12_plan_6 : decode cX12_plan 6 = .ok (.getfield 192, 3) := by decide +kernel
theorem dX12_plan_9 : decode cX12_plan 9 = .ok (.ifCond .ne 6, 3) := by decide +kernel
theorem dX12_plan_12 : decode cX12_plan 12 = .ok (.ldc 208, 2) := by decide +kernel
theorem dX12_plan_14 : decode cX12_plan 14 = .ok (.ireturn, 1) := by decide +kernel
theorem dX12_plan_15 : decode cX12_plan 15 = .ok (.iload_n 1, 1) := by decide +kernel
theorem dX12_plan_16 : decode cX12_plan 16 = .ok (.i2l, 1) := by decide +kernel
theorem dX12_plan_17 : decode cX12_plan 17 = .ok (.lconst 1, 1) := by decide +kernel
theorem dX12_plan_18 : decode cX12_plan 18 = .ok (.ldc2_w 250, 3) := by decide +kernel
theorem dX12_plan_21 : decode cX12_plan 21 = .ok (.invokestatic 63, 3) := by decide +kernel
theorem dX12_plan_24 : decode cX12_plan 24 = .ok (.ifCond .eq 28, 3) := by decide +kernel
theorem dX12_plan_27 : decode cX12_plan 27 = .ok (.iload_n 1, 1) := by decide +kernel
theorem dX12_plan_28 : decode cX12_plan 28 = .ok (.aload_n 0, 1) := by decide +kernel
theorem dX12_plan_29 : decode cX12_plan 29 = .ok (.getfield 19, 3) := by decide +kernel
theorem dX12_plan_32 : decode cX12_plan 32 = .ok (.iconst 2, 1) := by decide +kernel
theorem dX12_plan_33 : decode cX12_plan 33 = .ok (.iaload, 1) := by decide +kernel
theorem dX12_plan_34 : decode cX12_plan 34 = .ok (.if_icmp .gt 18, 3) := by decide +kernel
theorem dX12_plan_37 : decode cX12_plan 37 = .ok (.iload_n 2, 1) := by decide +kernel
theorem dX12_plan_38 : decode cX12_plan 38 = .ok (.i2l, 1) := by decide +kernel
theorem dX12_plan_39 : decode cX12_plan 39 = .ok (.ldc2_w 248, 3) := by decide +kernel
theorem dX12_plan_42 : decode cX12_plan 42 = .ok (.iload_n 1, 1) := by decide +kernel
theorem dX12_plan_43 : decode cX12_plan 43 = .ok (.iconst 1, 1) := by decide +kernel
theorem dX12_plan_44 : decode cX12_plan 44 = .ok (.isub, 1) := by decide +kernel
theorem dX12_plan_45 : decode cX12_plan 45 = .ok (.i2l, 1) := by decide +kernel
theorem dX12_plan_46 : decode cX12_plan 46 = .ok (.invokestatic 63, 3) := by decide +kernel
theorem dX12_plan_49 : decode cX12_plan 49 = .ok (.ifCond .ne 6, 3) := by decide +kernel
theorem dX12_plan_52 : decode cX12_plan 52 = .ok (.ldc 73, 2) := by decide +kernel
theorem dX12_plan_54 : decode cX12_plan 54 = .ok (.ireturn, 1) := by decide +kernel
theorem dX12_plan_55 : decode cX12_plan 55 = .ok (.iconst 1, 1) := by decide +kernel
theorem dX12_plan_56 : decode cX12_plan 56 = .ok (.istore_n 3, 1) := by decide +kernel
theorem dX12_plan_57 : decode cX12_plan 57 = .ok (.iconst 0, 1) := by decide +kernel
theorem dX12_plan_58 : decode cX12_plan 58 = .ok (.istore 4, 2) := by decide +kernel
theorem dX12_plan_60 : decode cX12_plan 60 = .ok (.iload 4, 2) := by decide +kernel
theorem dX12_plan_62 : decode cX12_plan 62 = .ok (.iload_n 1, 1) := by decide +kernel
theorem dX12_plan_63 : decode cX12_plan 63 = .ok (.if_icmp .ge 18, 3) := by decide +kernel
theorem dX12_plan_66 : decode cX12_plan 66 = .ok (.iload_n 3, 1) := by decide +kernel
theorem dX12_plan_67 : decode cX12_plan 67 = .ok (.aload_n 0, 1) := by decide +kernel
theorem dX12_plan_68 : decode cX12_plan 68 = .ok (.getfield 19, 3) := by decide +kernel
theorem dX12_plan_71 : decode cX12_plan 71 = .ok (.iconst 0, 1) := by decide +kernel
theorem dX12_plan_72 : decode cX12_plan 72 = .ok (.iaload, 1) := by decide +kernel
theorem dX12_plan_73 : decode cX12_plan 73 = .ok (.imul, 1) := by decide +kernel
theorem dX12_plan_74 : decode cX12_plan 74 = .ok (.istore_n 3, 1) := by decide +kernel
theorem dX12_plan_75 : decode cX12_plan 75 = .ok (.iinc 4 1, 3) := by decide +kernel
theorem dX12_plan_78 : decode cX12_plan 78 = .ok (.goto (-18), 3) := by decide +kernel
theorem dX12_plan_81 : decode cX12_plan 81 = .ok (.ldc 89, 2) := by decide +kernel
theorem dX12_plan_83 : decode cX12_plan 83 = .ok (.istore 4, 2) := by decide +kernel
theorem dX12_plan_85 : decode cX12_plan 85 = .ok (.ldc 89, 2) := by decide +kernel
theorem dX12_plan_87 : decode cX12_plan 87 = .ok (.istore 5, 2) := by decide +kernel
theorem dX12_plan_89 : decode cX12_plan 89 = .ok (.iconst 0, 1) := by decide +kernel
theorem dX12_plan_90 : decode cX12_plan 90 = .ok (.istore 6, 2) := by decide +kernel
theorem dX12_plan_92 : decode cX12_plan 92 = .ok (.iload 6, 2) := by decide +kernel
theorem dX12_plan_94 : decode cX12_plan 94 = .ok (.iload_n 3, 1) := by decide +kernel
theorem dX12_plan_95 : decode cX12_plan 95 = .ok (.if_icmp .ge 74, 3) := by decide +kernel
theorem dX12_plan_98 : decode cX12_plan 98 = .ok (.aload_n 0, 1) := by decide +kernel
theorem dX12_plan_99 : decode cX12_plan 99 = .ok (.iload_n 1, 1) := by decide +kernel
theorem dX12_plan_100 : decode cX12_plan 100 = .ok (.iload 6, 2) := by decide +kernel
theorem dX12_plan_102 : decode cX12_plan 102 = .ok (.invokevirtual 260, 3) := by decide +kernel
theorem dX12_plan_105 : decode cX12_plan 105 = .ok (.istore 7, 2) := by decide +kernel
theorem dX12_plan_107 : decode cX12_plan 107 = .ok (.iload 7, 2) := by decide +kernel
theorem dX12_plan_109 : decode cX12_plan 109 = .ok (.ldc 89, 2) := by decide +kernel
theorem dX12_plan_111 : decode cX12_plan 111 = .ok (.if_icmp .eq 21, 3) := by decide +kernel
theorem dX12_plan_114 : decode cX12_plan 114 = .ok (.iload 4, 2) := by decide +kernel
theorem dX12_plan_116 : decode cX12_plan 116 = .ok (.ldc 89, 2) := by decide +kernel
theorem dX12_plan_118 : decode cX12_plan 118 = .ok (.if_icmp .eq 10, 3) := by decide +kernel
theorem dX12_plan_121 : decode cX12_plan 121 = .ok (.iload 7, 2) := by decide +kernel
theorem dX12_plan_123 : decode cX12_plan 123 = .ok (.iload 5, 2) := by decide +kernel
theorem dX12_plan_125 : decode cX12_plan 125 = .ok (.if_icmp .ge 7, 3) := by decide +kernel
theorem dX12_plan_128 : decode cX12_plan 128 = .ok (.iconst 1, 1) := by decide +kernel
theorem dX12_plan_129 : decode cX12_plan 129 = .ok (.goto 4, 3) := by decide +kernel
theorem dX12_plan_132 : decode cX12_plan 132 = .ok (.iconst 0, 1) := by decide +kernel
theorem dX12_plan_133 : decode cX12_plan 133 = .ok (.istore 8, 2) := by decide +kernel
theorem dX12_plan_135 : decode cX12_plan 135 = .ok (.iload 8, 2) := by decide +kernel
theorem dX12_plan_137 : decode cX12_plan 137 = .ok (.ifCond .eq 8, 3) := by decide +kernel
theorem dX12_plan_140 : decode cX12_plan 140 = .ok (.iload 6, 2) := by decide +kernel
theorem dX12_plan_142 : decode cX12_plan 142 = .ok (.goto 5, 3) := by decide +kernel
theorem dX12_plan_145 : decode cX12_plan 145 = .ok (.iload 4, 2) := by decide +kernel
theorem dX12_plan_147 : decode cX12_plan 147 = .ok (.istore 4, 2) := by decide +kernel
theorem dX12_plan_149 : decode cX12_plan 149 = .ok (.iload 8, 2) := by decide +kernel
theorem dX12_plan_151 : decode cX12_plan 151 = .ok (.ifCond .eq 8, 3) := by decide +kernel
theorem dX12_plan_154 : decode cX12_plan 154 = .ok (.iload 7, 2) := by decide +kernel
theorem dX12_plan_156 : decode cX12_plan 156 = .ok (.goto 5, 3) := by decide +kernel
theorem dX12_plan_159 : decode cX12_plan 159 = .ok (.iload 5, 2) := by decide +kernel
theorem dX12_plan_161 : decode cX12_plan 161 = .ok (.istore 5, 2) := by decide +kernel
theorem dX12_plan_163 : decode cX12_plan 163 = .ok (.iinc 6 1, 3) := by decide +kernel
theorem dX12_plan_166 : decode cX12_plan 166 = .ok (.goto (-74), 3) := by decide +kernel
theorem dX12_plan_169 : decode cX12_plan 169 = .ok (.iload 4, 2) := by decide +kernel
theorem dX12_plan_171 : decode cX12_plan 171 = .ok (.ldc 89, 2) := by decide +kernel
theorem dX12_plan_173 : decode cX12_plan 173 = .ok (.if_icmp .eq 7, 3) := by decide +kernel
theorem dX12_plan_176 : decode cX12_plan 176 = .ok (.iload_n 2, 1) := by decide +kernel
theorem dX12_plan_177 : decode cX12_plan 177 = .ok (.ifCond .ge 6, 3) := by decide +kernel
theorem dX12_plan_180 : decode cX12_plan 180 = .ok (.iload 5, 2) := by decide +kernel
theorem dX12_plan_182 : decode cX12_plan 182 = .ok (.ireturn, 1) := by decide +kernel
theorem dX12_plan_183 : decode cX12_plan 183 = .ok (.iload_n 1, 1) := by decide +kernel
theorem dX12_plan_184 : decode cX12_plan 184 = .ok (.iconst 1, 1) := by decide +kernel
theorem dX12_plan_185 : decode cX12_plan 185 = .ok (.isub, 1) := by decide +kernel
theorem dX12_plan_186 : decode cX12_plan 186 = .ok (.istore 6, 2) := by decide +kernel
theorem dX12_plan_188 : decode cX12_plan 188 = .ok (.iload 6, 2) := by decide +kernel
theorem dX12_plan_190 : decode cX12_plan 190 = .ok (.iload_n 2, 1) := by decide +kernel
theorem dX12_plan_191 : decode cX12_plan 191 = .ok (.if_icmp .le 20, 3) := by decide +kernel
theorem dX12_plan_194 : decode cX12_plan 194 = .ok (.iload 4, 2) := by decide +kernel
theorem dX12_plan_196 : decode cX12_plan 196 = .ok (.aload_n 0, 1) := by decide +kernel
theorem dX12_plan_197 : decode cX12_plan 197 = .ok (.getfield 19, 3) := by decide +kernel
theorem dX12_plan_200 : decode cX12_plan 200 = .ok (.iconst 0, 1) := by decide +kernel
theorem dX12_plan_201 : decode cX12_plan 201 = .ok (.iaload, 1) := by decide +kernel
theorem dX12_plan_202 : decode cX12_plan 202 = .ok (.idiv, 1) := by decide +kernel
theorem dX12_plan_203 : decode cX12_plan 203 = .ok (.istore 4, 2) := by decide +kernel
theorem dX12_plan_205 : decode cX12_plan 205 = .ok (.iinc 6 (-1), 3) := by decide +kernel
theorem dX12_plan_208 : decode cX12_plan 208 = .ok (.goto (-20), 3) := by decide +kernel
theorem dX12_plan_211 : decode cX12_plan 211 = .ok (.iload 4, 2) := by decide +kernel
theorem dX12_plan_213 : decode cX12_plan 213 = .ok (.aload_n 0, 1) := by decide +kernel
theorem dX12_plan_214 : decode cX12_plan 214 = .ok (.getfield 19, 3) := by decide +kernel
theorem dX12_plan_217 : decode cX12_plan 217 = .ok (.iconst 0, 1) := by decide +kernel
theorem dX12_plan_218 : decode cX12_plan 218 = .ok (.iaload, 1) := by decide +kernel
theorem dX12_plan_219 : decode cX12_plan 219 = .ok (.irem, 1) := by decide +kernel
theorem dX12_plan_220 : decode cX12_plan 220 = .ok (.ireturn, 1) := by decide +kernel
theorem dX12_whose_0 : decode cX12_whose 0 = .ok (.aload_n 0, 1) := by decide +kernel
theorem dX12_whose_1 : decode cX12_whose 1 = .ok (.iconst 0, 1) := by decide +kernel
theorem dX12_whose_2 : decode cX12_whose 2 = .ok (.putfield 53, 3) := by decide +kernel
theorem dX12_whose_5 : decode cX12_whose 5 = .ok (.aload_n 0, 1) := by decide +kernel
theorem dX12_whose_6 : decode cX12_whose 6 = .ok (.getfield 192, 3) := by decide +kernel
theorem dX12_whose_9 : decode cX12_whose 9 = .ok (.ifCond .ne 6, 3) := by decide +kernel
theorem dX12_whose_12 : decode cX12_whose 12 = .ok (.ldc 208, 2) := by decide +kernel
theorem dX12_whose_14 : decode cX12_whose 14 = .ok (.ireturn, 1) := by decide +kernel
theorem dX12_whose_15 : decode cX12_whose 15 = .ok (.iload_n 1, 1) := by decide +kernel
theorem dX12_whose_16 : decode cX12_whose 16 = .ok (.i2l, 1) := by decide +kernel
theorem dX12_whose_17 : decode cX12_whose 17 = .ok (.lconst 0, 1) := by decide +kernel
theorem dX12_whose_18 : decode cX12_whose 18 = .ok (.ldc2_w 263, 3) := by decide +kernel
theorem dX12_whose_21 : decode cX12_whose 21 = .ok (.invokestatic 63, 3) := by decide +kernel
theorem dX12_whose_24 : decode cX12_whose 24 = .ok (.ifCond .eq 15, 3) := by decide +kernel
theorem dX12_whose_27 : decode cX12_whose 27 = .ok (.iload_n 2, 1) := by decide +kernel
theorem dX12_whose_28 : decode cX12_whose 28 = .ok (.i2l, 1) := by decide +kernel
theorem dX12_whose_29 : decode cX12_whose 29 = .ok (.lconst 0, 1) := by decide +kernel
theorem dX12_whose_30 : decode cX12_whose 30 = .ok (.ldc2_w 265, 3) := by decide +kernel
theorem dX12_whose_33 : decode cX12_whose 33 = .ok (.invokestatic 63, 3) := by decide +kernel
theorem dX12_whose_36 : decode cX12_whose 36 = .ok (.ifCond .ne 6, 3) := by decide +kernel
theorem dX12_whose_39 : decode cX12_whose 39 = .ok (.ldc 73, 2) := by decide +kernel
theorem dX12_whose_41 : decode cX12_whose 41 = .ok (.ireturn, 1) := by decide +kernel
theorem dX12_whose_42 : decode cX12_whose 42 = .ok (.iconst 0, 1) := by decide +kernel
theorem dX12_whose_43 : decode cX12_whose 43 = .ok (.istore_n 3, 1) := by decide +kernel
theorem dX12_whose_44 : decode cX12_whose 44 = .ok (.iconst 0, 1) := by decide +kernel
theorem dX12_whose_45 : decode cX12_whose 45 = .ok (.istore 4, 2) := by decide +kernel
theorem dX12_whose_47 : decode cX12_whose 47 = .ok (.iload 4, 2) := by decide +kernel
theorem dX12_whose_49 : decode cX12_whose 49 = .ok (.aload_n 0, 1) := by decide +kernel
theorem dX12_whose_50 : decode cX12_whose 50 = .ok (.getfield 19, 3) := by decide +kernel
theorem dX12_whose_53 : decode cX12_whose 53 = .ok (.iconst 2, 1) := by decide +kernel
theorem dX12_whose_54 : decode cX12_whose 54 = .ok (.iaload, 1) := by decide +kernel
theorem dX12_whose_55 : decode cX12_whose 55 = .ok (.if_icmp .ge 87, 3) := by decide +kernel
theorem dX12_whose_58 : decode cX12_whose 58 = .ok (.aload_n 0, 1) := by decide +kernel
theorem dX12_whose_59 : decode cX12_whose 59 = .ok (.iload 4, 2) := by decide +kernel
theorem dX12_whose_61 : decode cX12_whose 61 = .ok (.iconst 4, 1) := by decide +kernel
theorem dX12_whose_62 : decode cX12_whose 62 = .ok (.invokevirtual 202, 3) := by decide +kernel
theorem dX12_whose_65 : decode cX12_whose 65 = .ok (.istore 5, 2) := by decide +kernel
theorem dX12_whose_67 : decode cX12_whose 67 = .ok (.iload 5, 2) := by decide +kernel
theorem dX12_whose_69 : decode cX12_whose 69 = .ok (.ldc 89, 2) := by decide +kernel
theorem dX12_whose_71 : decode cX12_whose 71 = .ok (.if_icmp .eq 46, 3) := by decide +kernel
theorem dX12_whose_74 : decode cX12_whose 74 = .ok (.aload_n 0, 1) := by decide +kernel
theorem dX12_whose_75 : decode cX12_whose 75 = .ok (.iload 5, 2) := by decide +kernel
theorem dX12_whose_77 : decode cX12_whose 77 = .ok (.invokevirtual 196, 3) := by decide +kernel
theorem dX12_whose_80 : decode cX12_whose 80 = .ok (.iload_n 1, 1) := by decide +kernel
theorem dX12_whose_81 : decode cX12_whose 81 = .ok (.if_icmp .le 36, 3) := by decide +kernel
theorem dX12_whose_84 : decode cX12_whose 84 = .ok (.aload_n 0, 1) := by decide +kernel
theorem dX12_whose_85 : decode cX12_whose 85 = .ok (.getfield 19, 3) := by decide +kernel
theorem dX12_whose_88 : decode cX12_whose 88 = .ok (.bipush 28, 2) := by decide +kernel
theorem dX12_whose_90 : decode cX12_whose 90 = .ok (.iconst 3, 1) := by decide +kernel
theorem dX12_whose_91 : decode cX12_whose 91 = .ok (.iload 5, 2) := by decide +kernel
theorem dX12_whose_93 : decode cX12_whose 93 = .ok (.imul, 1) := by decide +kernel
theorem dX12_whose_94 : decode cX12_whose 94 = .ok (.iadd, 1) := by decide +kernel
theorem dX12_whose_95 : decode cX12_whose 95 = .ok (.iconst 1, 1) := by decide +kernel
theorem dX12_whose_96 : decode cX12_whose 96 = .ok (.iadd, 1) := by decide +kernel
theorem dX12_whose_97 : decode cX12_whose 97 = .ok (.iaload, 1) := by decide +kernel
theorem dX12_whose_98 : decode cX12_whose 98 = .ok (.iload_n 2, 1) := by decide +kernel
theorem dX12_whose_99 : decode cX12_whose 99 = .ok (.if_icmp .ne 18, 3) := by decide +kernel
theorem dX12_whose_102 : decode cX12_whose 102 = .ok (.aload_n 0, 1) := by decide +kernel
theorem dX12_whose_103 : decode cX12_whose 103 = .ok (.iload 4, 2) := by decide +kernel
theorem dX12_whose_105 : decode cX12_whose 105 = .ok (.iconst 3, 1) := by decide +kernel
theorem dX12_whose_106 : decode cX12_whose 106 = .ok (.invokevirtual 202, 3) := by decide +kernel
theorem dX12_whose_109 : decode cX12_whose 109 = .ok (.iconst 3, 1) := by decide +kernel
theorem dX12_whose_110 : decode cX12_whose 110 = .ok (.if_icmp .gt 7, 3) := by decide +kernel
theorem dX12_whose_113 : decode cX12_whose 113 = .ok (.iconst 1, 1) := by decide +kernel
theorem dX12_whose_114 : decode cX12_whose 114 = .ok (.goto 4, 3) := by decide +kernel
theorem dX12_whose_117 : decode cX12_whose 117 = .ok (.iconst 0, 1) := by decide +kernel
theorem dX12_whose_118 : decode cX12_whose 118 = .ok (.istore 6, 2) := by decide +kernel
theorem dX12_whose_120 : decode cX12_whose 120 = .ok (.iload_n 3, 1) := by decide +kernel
theorem dX12_whose_121 : decode cX12_whose 121 = .ok (.iload 6, 2) := by decide +kernel
theorem dX12_whose_123 : decode cX12_whose 123 = .ok (.ifCond .eq 10, 3) := by decide +kernel
theorem dX12_whose_126 : decode cX12_whose 126 = .ok (.iconst 1, 1) := by decide +kernel
theorem dX12_whose_127 : decode cX12_whose 127 = .ok (.iload 4, 2) := by decide +kernel
theorem dX12_whose_129 : decode cX12_whose 129 = .ok (.ishl, 1) := by decide +kernel
theorem dX12_whose_130 : decode cX12_whose 130 = .ok (.goto 4, 3) := by decide +kernel
theorem dX12_whose_133 : decode cX12_whose 133 = .ok (.iconst 0, 1) := by decide +kernel
theorem dX12_whose_134 : decode cX12_whose 134 = .ok (.ior, 1) := by decide +kernel
theorem dX12_whose_135 : decode cX12_whose 135 = .ok (.istore_n 3, 1) := by decide +kernel
theorem dX12_whose_136 : decode cX12_whose 136 = .ok (.iinc 4 1, 3) := by decide +kernel
theorem dX12_whose_139 : decode cX12_whose 139 = .ok (.goto (-92), 3) := by decide +kernel
theorem dX12_whose_142 : decode cX12_whose 142 = .ok (.iload_n 3, 1) := by decide +kernel
theorem dX12_whose_143 : decode cX12_whose 143 = .ok (.ireturn, 1) := by decide +kernel
theorem dX12_sunsOf_0 : decode cX12_sunsOf 0 = .ok (.iconst 0, 1) := by decide +kernel
theorem dX12_sunsOf_1 : decode cX12_sunsOf 1 = .ok (.istore 5, 2) := by decide +kernel
theorem dX12_sunsOf_3 : decode cX12_sunsOf 3 = .ok (.iload_n 2, 1) := by decide +kernel
theorem dX12_sunsOf_4 : decode cX12_sunsOf 4 = .ok (.istore 6, 2) := by decide +kernel
theorem dX12_sunsOf_6 : decode cX12_sunsOf 6 = .ok (.iload 6, 2) := by decide +kernel
theorem dX12_sunsOf_8 : decode cX12_sunsOf 8 = .ok (.iload_n 3, 1) := by decide +kernel
theorem dX12_sunsOf_9 : decode cX12_sunsOf 9 = .ok (.if_icmp .gt 31, 3) := by decide +kernel
theorem dX12_sunsOf_12 : decode cX12_sunsOf 12 = .ok (.iload 5, 2) := by decide +kernel
theorem dX12_sunsOf_14 : decode cX12_sunsOf 14 = .ok (.aload_n 0, 1) := by decide +kernel
theorem dX12_sunsOf_15 : decode cX12_sunsOf 15 = .ok (.iload_n 1, 1) := by decide +kernel
theorem dX12_sunsOf_16 : decode cX12_sunsOf 16 = .ok (.iload 6, 2) := by decide +kernel
theorem dX12_sunsOf_18 : decode cX12_sunsOf 18 = .ok (.iload 4, 2) := by decide +kernel
theorem dX12_sunsOf_20 : decode cX12_sunsOf 20 = .ok (.invokevirtual 230, 3) := by decide +kernel
theorem dX12_sunsOf_23 : decode cX12_sunsOf 23 = .ok (.ifCond .eq 7, 3) := by decide +kernel
theorem dX12_sunsOf_26 : decode cX12_sunsOf 26 = .ok (.iconst 1, 1) := by decide +kernel
theorem dX12_sunsOf_27 : decode cX12_sunsOf 27 = .ok (.goto 4, 3) := by decide +kernel
theorem dX12_sunsOf_30 : decode cX12_sunsOf 30 = .ok (.iconst 0, 1) := by decide +kernel
theorem dX12_sunsOf_31 : decode cX12_sunsOf 31 = .ok (.iadd, 1) := by decide +kernel
theorem dX12_sunsOf_32 : decode cX12_sunsOf 32 = .ok (.istore 5, 2) := by decide +kernel
theorem dX12_sunsOf_34 : decode cX12_sunsOf 34 = .ok (.iinc 6 1, 3) := by decide +kernel
theorem dX12_sunsOf_37 : decode cX12_sunsOf 37 = .ok (.goto (-31), 3) := by decide +kernel
theorem dX12_sunsOf_40 : decode cX12_sunsOf 40 = .ok (.iload 5, 2) := by decide +kernel
theorem dX12_sunsOf_42 : decode cX12_sunsOf 42 = .ok (.ireturn, 1) := by decide +kernel
theorem dX12_sun_0 : decode cX12_sun 0 = .ok (.aload_n 0, 1) := by decide +kernel
theorem dX12_sun_1 : decode cX12_sun 1 = .ok (.iconst 0, 1) := by decide +kernel
theorem dX12_sun_2 : decode cX12_sun 2 = .ok (.putfield 53, 3) := by decide +kernel
theorem dX12_sun_5 : decode cX12_sun 5 = .ok (.aload_n 0, 1) := by decide +kernel
theorem dX12_sun_6 : decode cX12_sun 6 = .ok (.iload_n 1, 1) := by decide +kernel
theorem dX12_sun_7 : decode cX12_sun 7 = .ok (.invokevirtual 218, 3) := by decide +kernel
theorem dX12_sun_10 : decode cX12_sun 10 = .ok (.ifCond .eq 27, 3) := by decide +kernel
theorem dX12_sun_13 : decode cX12_sun 13 = .ok (.iload_n 2, 1) := by decide +kernel
theorem dX12_sun_14 : decode cX12_sun 14 = .ok (.i2l, 1) := by decide +kernel
theorem dX12_sun_15 : decode cX12_sun 15 = .ok (.lconst 0, 1) := by decide +kernel
theorem dX12_sun_16 : decode cX12_sun 16 = .ok (.ldc2_w 263, 3) := by decide +kernel
theorem dX12_sun_19 : decode cX12_sun 19 = .ok (.invokestatic 63, 3) := by decide +kernel
theorem dX12_sun_22 : decode cX12_sun 22 = .ok (.ifCond .eq 15, 3) := by decide +kernel
theorem dX12_sun_25 : decode cX12_sun 25 = .ok (.aload_n 0, 1) := by decide +kernel
theorem dX12_sun_26 : decode cX12_sun 26 = .ok (.iload_n 1, 1) := by decide +kernel
theorem dX12_sun_27 : decode cX12_sun 27 = .ok (.iconst 0, 1) := by decide +kernel
theorem dX12_sun_28 : decode cX12_sun 28 = .ok (.bipush 23, 2) := by decide +kernel
theorem dX12_sun_30 : decode cX12_sun 30 = .ok (.iload_n 2, 1) := by decide +kernel
theorem dX12_sun_31 : decode cX12_sun 31 = .ok (.invokevirtual 267, 3) := by decide +kernel
theorem dX12_sun_34 : decode cX12_sun 34 = .ok (.goto 5, 3) := by decide +kernel
theorem dX12_sun_37 : decode cX12_sun 37 = .ok (.ldc 73, 2) := by decide +kernel
theorem dX12_sun_39 : decode cX12_sun 39 = .ok (.ireturn, 1) := by decide +kernel
theorem dX12_point_0 : decode cX12_point 0 = .ok (.ldc 89, 2) := by decide +kernel
theorem dX12_point_2 : decode cX12_point 2 = .ok (.istore_n 3, 1) := by decide +kernel
theorem dX12_point_3 : decode cX12_point 3 = .ok (.iconst 0, 1) := by decide +kernel
theorem dX12_point_4 : decode cX12_point 4 = .ok (.istore 4, 2) := by decide +kernel
theorem dX12_point_6 : decode cX12_point 6 = .ok (.iload 4, 2) := by decide +kernel
theorem dX12_point_8 : decode cX12_point 8 = .ok (.iload_n 1, 1) := by decide +kernel
theorem dX12_point_9 : decode cX12_point 9 = .ok (.if_icmp .ge 106, 3) := by decide +kernel
theorem dX12_point_12 : decode cX12_point 12 = .ok (.aload_n 0, 1) := by decide +kernel
theorem dX12_point_13 : decode cX12_point 13 = .ok (.getfield 37, 3) := by decide +kernel
theorem dX12_point_16 : decode cX12_point 16 = .ok (.iload 4, 2) := by decide +kernel
theorem dX12_point_18 : decode cX12_point 18 = .ok (.iaload, 1) := by decide +kernel
theorem dX12_point_19 : decode cX12_point 19 = .ok (.ldc 89, 2) := by decide +kernel
theorem dX12_point_21 : decode cX12_point 21 = .ok (.if_icmp .ne 88, 3) := by decide +kernel
theorem dX12_point_24 : decode cX12_point 24 = .ok (.iload_n 3, 1) := by decide +kernel
theorem dX12_point_25 : decode cX12_point 25 = .ok (.ldc 89, 2) := by decide +kernel
theorem dX12_point_27 : decode cX12_point 27 = .ok (.if_icmp .ne 7, 3) := by decide +kernel
theorem dX12_point_30 : decode cX12_point 30 = .ok (.iconst 1, 1) := by decide +kernel
theorem dX12_point_31 : decode cX12_point 31 = .ok (.goto 43, 3) := by decide +kernel
theorem dX12_point_34 : decode cX12_point 34 = .ok (.aload_n 0, 1) := by decide +kernel
theorem dX12_point_35 : decode cX12_point 35 = .ok (.aload_n 0, 1) := by decide +kernel
theorem dX12_point_36 : decode cX12_point 36 = .ok (.getfield 34, 3) := by decide +kernel
theorem dX12_point_39 : decode cX12_point 39 = .ok (.iload 4, 2) := by decide +kernel
theorem dX12_point_41 : decode cX12_point 41 = .ok (.iaload, 1) := by decide +kernel
theorem dX12_point_42 : decode cX12_point 42 = .ok (.iconst 4, 1) := by decide +kernel
theorem dX12_point_43 : decode cX12_point 43 = .ok (.iload_n 2, 1) := by decide +kernel
theorem dX12_point_44 : decode cX12_point 44 = .ok (.imul, 1) := by decide +kernel
theorem dX12_point_45 : decode cX12_point 45 = .ok (.iconst 4, 1) := by decide +kernel
theorem dX12_point_46 : decode cX12_point 46 = .ok (.iload_n 2, 1) := by decide +kernel
theorem dX12_point_47 : decode cX12_point 47 = .ok (.imul, 1) := by decide +kernel
theorem dX12_point_48 : decode cX12_point 48 = .ok (.iconst 3, 1) := by decide +kernel
theorem dX12_point_49 : decode cX12_point 49 = .ok (.iadd, 1) := by decide +kernel
theorem dX12_point_50 : decode cX12_point 50 = .ok (.iconst 0, 1) := by decide +kernel
theorem dX12_point_51 : decode cX12_point 51 = .ok (.invokevirtual 267, 3) := by decide +kernel
theorem dX12_point_54 : decode cX12_point 54 = .ok (.aload_n 0, 1) := by decide +kernel
theorem dX12_point_55 : decode cX12_point 55 = .ok (.aload_n 0, 1) := by decide +kernel
theorem dX12_point_56 : decode cX12_point 56 = .ok (.getfield 34, 3) := by decide +kernel
theorem dX12_point_59 : decode cX12_point 59 = .ok (.iload_n 3, 1) := by decide +kernel
theorem dX12_point_60 : decode cX12_point 60 = .ok (.iaload, 1) := by decide +kernel
theorem dX12_point_61 : decode cX12_point 61 = .ok (.iconst 4, 1) := by decide +kernel
theorem dX12_point_62 : decode cX12_point 62 = .ok (.iload_n 2, 1) := by decide +kernel
theorem dX12_point_63 : decode cX12_point 63 = .ok (.imul, 1) := by decide +kernel
theorem dX12_point_64 : decode cX12_point 64 = .ok (.iconst 4, 1) := by decide +kernel
theorem dX12_point_65 : decode cX12_point 65 = .ok (.iload_n 2, 1) := by decide +kernel
theorem dX12_point_66 : decode cX12_point 66 = .ok (.imul, 1) := by decide +kernel
theorem dX12_point_67 : decode cX12_point 67 = .ok (.iconst 3, 1) := by decide +kernel
theorem dX12_point_68 : decode cX12_point 68 = .ok (.iadd, 1) := by decide +kernel
theorem dX12_point_69 : decode cX12_point 69 = .ok (.iconst 0, 1) := by decide +kernel
theorem dX12_point_70 : decode cX12_point 70 = .ok (.invokevirtual 267, 3) := by decide +kernel
theorem dX12_point_73 : decode cX12_point 73 = .ok (.isub, 1) := by decide +kernel
theorem dX12_point_74 : decode cX12_point 74 = .ok (.istore 5, 2) := by decide +kernel
theorem dX12_point_76 : decode cX12_point 76 = .ok (.iload 5, 2) := by decide +kernel
theorem dX12_point_78 : decode cX12_point 78 = .ok (.ifCond .gt 24, 3) := by decide +kernel
theorem dX12_point_81 : decode cX12_point 81 = .ok (.iload 5, 2) := by decide +kernel
theorem dX12_point_83 : decode cX12_point 83 = .ok (.ifCond .ne 24, 3) := by decide +kernel
theorem dX12_point_86 : decode cX12_point 86 = .ok (.aload_n 0, 1) := by decide +kernel
theorem dX12_point_87 : decode cX12_point 87 = .ok (.getfield 34, 3) := by decide +kernel
theorem dX12_point_90 : decode cX12_point 90 = .ok (.iload 4, 2) := by decide +kernel
theorem dX12_point_92 : decode cX12_point 92 = .ok (.iaload, 1) := by decide +kernel
theorem dX12_point_93 : decode cX12_point 93 = .ok (.aload_n 0, 1) := by decide +kernel
theorem dX12_point_94 : decode cX12_point 94 = .ok (.getfield 34, 3) := by decide +kernel
theorem dX12_point_97 : decode cX12_point 97 = .ok (.iload_n 3, 1) := by decide +kernel
theorem dX12_point_98 : decode cX12_point 98 = .ok (.iaload, 1) := by decide +kernel
theorem dX12_point_99 : decode cX12_point 99 = .ok (.if_icmp .ge 8, 3) := by decide +kernel
theorem dX12_point_102 : decode cX12_point 102 = .ok (.iload 4, 2) := by decide +kernel
theorem dX12_point_104 : decode cX12_point 104 = .ok (.goto 4, 3) := by decide +kernel
theorem dX12_point_107 : decode cX12_point 107 = .ok (.iload_n 3, 1) := by decide +kernel
theorem dX12_point_108 : decode cX12_point 108 = .ok (.istore_n 3, 1) := by decide +kernel
theorem dX12_point_109 : decode cX12_point 109 = .ok (.iinc 4 1, 3) := by decide +kernel
theorem dX12_point_112 : decode cX12_point 112 = .ok (.goto (-106), 3) := by decide +kernel
theorem dX12_point_115 : decode cX12_point 115 = .ok (.aload_n 0, 1) := by decide +kernel
theorem dX12_point_116 : decode cX12_point 116 = .ok (.getfield 40, 3) := by decide +kernel
theorem dX12_point_119 : decode cX12_point 119 = .ok (.iload_n 2, 1) := by decide +kernel
theorem dX12_point_120 : decode cX12_point 120 = .ok (.iload_n 3, 1) := by decide +kernel
theorem dX12_point_121 : decode cX12_point 121 = .ok (.iastore, 1) := by decide +kernel
theorem dX12_point_122 : decode cX12_point 122 = .ok (.return_, 1) := by decide +kernel
theorem dX12_isInRing_0 : decode cX12_isInRing 0 = .ok (.aload_n 0, 1) := by decide +kernel
theorem dX12_isInRing_1 : decode cX12_isInRing 1 = .ok (.getfield 40, 3) := by decide +kernel
theorem dX12_isInRing_4 : decode cX12_isInRing 4 = .ok (.iload_n 2, 1) := by decide +kernel
theorem dX12_isInRing_5 : decode cX12_isInRing 5 = .ok (.iaload, 1) := by decide +kernel
theorem dX12_isInRing_6 : decode cX12_isInRing 6 = .ok (.istore_n 3, 1) := by decide +kernel
theorem dX12_isInRing_7 : decode cX12_isInRing 7 = .ok (.iconst 0, 1) := by decide +kernel
theorem dX12_isInRing_8 : decode cX12_isInRing 8 = .ok (.istore 4, 2) := by decide +kernel
theorem dX12_isInRing_10 : decode cX12_isInRing 10 = .ok (.iload 4, 2) := by decide +kernel
theorem dX12_isInRing_12 : decode cX12_isInRing 12 = .ok (.iload_n 1, 1) := by decide +kernel
theorem dX12_isInRing_13 : decode cX12_isInRing 13 = .ok (.if_icmp .ge 21, 3) := by decide +kernel
theorem dX12_isInRing_16 : decode cX12_isInRing 16 = .ok (.iload_n 3, 1) := by decide +kernel
theorem dX12_isInRing_17 : decode cX12_isInRing 17 = .ok (.iload_n 2, 1) := by decide +kernel
theorem dX12_isInRing_18 : decode cX12_isInRing 18 = .ok (.if_icmp .eq 16, 3) := by decide +kernel
theorem dX12_isInRing_21 : decode cX12_isInRing 21 = .ok (.aload_n 0, 1) := by decide +kernel
theorem dX12_isInRing_22 : decode cX12_isInRing 22 = .ok (.getfield 40, 3) := by decide +kernel
theorem dX12_isInRing_25 : decode cX12_isInRing 25 = .ok (.iload_n 3, 1) := by decide +kernel
theorem dX12_isInRing_26 : decode cX12_isInRing 26 = .ok (.iaload, 1) := by decide +kernel
theorem dX12_isInRing_27 : decode cX12_isInRing 27 = .ok (.istore_n 3, 1) := by decide +kernel
theorem dX12_isInRing_28 : decode cX12_isInRing 28 = .ok (.iinc 4 1, 3) := by decide +kernel
theorem dX12_isInRing_31 : decode cX12_isInRing 31 = .ok (.goto (-21), 3) := by decide +kernel
theorem dX12_isInRing_34 : decode cX12_isInRing 34 = .ok (.iload_n 3, 1) := by decide +kernel
theorem dX12_isInRing_35 : decode cX12_isInRing 35 = .ok (.iload_n 2, 1) := by decide +kernel
theorem dX12_isInRing_36 : decode cX12_isInRing 36 = .ok (.if_icmp .ne 7, 3) := by decide +kernel
theorem dX12_isInRing_39 : decode cX12_isInRing 39 = .ok (.iconst 1, 1) := by decide +kernel
theorem dX12_isInRing_40 : decode cX12_isInRing 40 = .ok (.goto 4, 3) := by decide +kernel
theorem dX12_isInRing_43 : decode cX12_isInRing 43 = .ok (.iconst 0, 1) := by decide +kernel
theorem dX12_isInRing_44 : decode cX12_isInRing 44 = .ok (.ireturn, 1) := by decide +kernel
theorem dX12_turn_0 : decode cX12_turn 0 = .ok (.iconst 0, 1) := by decide +kernel
theorem dX12_turn_1 : decode cX12_turn 1 = .ok (.istore_n 2, 1) := by decide +kernel
theorem dX12_turn_2 : decode cX12_turn 2 = .ok (.iconst 0, 1) := by decide +kernel
theorem dX12_turn_3 : decode cX12_turn 3 = .ok (.istore_n 3, 1) := by decide +kernel
theorem dX12_turn_4 : decode cX12_turn 4 = .ok (.iload_n 3, 1) := by decide +kernel
theorem dX12_turn_5 : decode cX12_turn 5 = .ok (.iload_n 1, 1) := by decide +kernel
theorem dX12_turn_6 : decode cX12_turn 6 = .ok (.if_icmp .ge 26, 3) := by decide +kernel
theorem dX12_turn_9 : decode cX12_turn 9 = .ok (.aload_n 0, 1) := by decide +kernel
theorem dX12_turn_10 : decode cX12_turn 10 = .ok (.getfield 37, 3) := by decide +kernel
theorem dX12_turn_13 : decode cX12_turn 13 = .ok (.iload_n 3, 1) := by decide +kernel
theorem dX12_turn_14 : decode cX12_turn 14 = .ok (.iaload, 1) := by decide +kernel
theorem dX12_turn_15 : decode cX12_turn 15 = .ok (.ldc 89, 2) := by decide +kernel
theorem dX12_turn_17 : decode cX12_turn 17 = .ok (.if_icmp .ne 9, 3) := by decide +kernel
theorem dX12_turn_20 : decode cX12_turn 20 = .ok (.aload_n 0, 1) := by decide +kernel
theorem dX12_turn_21 : decode cX12_turn 21 = .ok (.iload_n 1, 1) := by decide +kernel
theorem dX12_turn_22 : decode cX12_turn 22 = .ok (.iload_n 3, 1) := by decide +kernel
theorem dX12_turn_23 : decode cX12_turn 23 = .ok (.invokevirtual 271, 3) := by decide +kernel
theorem dX12_turn_26 : decode cX12_turn 26 = .ok (.iinc 3 1, 3) := by decide +kernel
theorem dX12_turn_29 : decode cX12_turn 29 = .ok (.goto (-25), 3) := by decide +kernel
theorem dX12_turn_32 : decode cX12_turn 32 = .ok (.iconst 0, 1) := by decide +kernel
theorem dX12_turn_33 : decode cX12_turn 33 = .ok (.istore_n 3, 1) := by decide +kernel
theorem dX12_turn_34 : decode cX12_turn 34 = .ok (.iload_n 3, 1) := by decide +kernel
theorem dX12_turn_35 : decode cX12_turn 35 = .ok (.iload_n 1, 1) := by decide +kernel
theorem dX12_turn_36 : decode cX12_turn 36 = .ok (.if_icmp .ge 39, 3) := by decide +kernel
theorem dX12_turn_39 : decode cX12_turn 39 = .ok (.iload_n 2, 1) := by decide +kernel
theorem dX12_turn_40 : decode cX12_turn 40 = .ok (.aload_n 0, 1) := by decide +kernel
theorem dX12_turn_41 : decode cX12_turn 41 = .ok (.getfield 37, 3) := by decide +kernel
theorem dX12_turn_44 : decode cX12_turn 44 = .ok (.iload_n 3, 1) := by decide +kernel
theorem dX12_turn_45 : decode cX12_turn 45 = .ok (.iaload, 1) := by decide +kernel
theorem dX12_turn_46 : decode cX12_turn 46 = .ok (.ldc 89, 2) := by decide +kernel
theorem dX12_turn_48 : decode cX12_turn 48 = .ok (.if_icmp .ne 18, 3) := by decide +kernel
theorem dX12_turn_51 : decode cX12_turn 51 = .ok (.aload_n 0, 1) := by decide +kernel
theorem dX12_turn_52 : decode cX12_turn 52 = .ok (.iload_n 1, 1) := by decide +kernel
theorem dX12_turn_53 : decode cX12_turn 53 = .ok (.iload_n 3, 1) := by decide +kernel
theorem dX12_turn_54 : decode cX12_turn 54 = .ok (.invokevirtual 274, 3) := by decide +kernel
theorem dX12_turn_57 : decode cX12_turn 57 = .ok (.ifCond .eq 9, 3) := by decide +kernel
theorem dX12_turn_60 : decode cX12_turn 60 = .ok (.iconst 1, 1) := by decide +kernel
theorem dX12_turn_61 : decode cX12_turn 61 = .ok (.iload_n 3, 1) := by decide +kernel
theorem dX12_turn_62 : decode cX12_turn 62 = .ok (.ishl, 1) := by decide +kernel
theorem dX12_turn_63 : decode cX12_turn 63 = .ok (.goto 4, 3) := by decide +kernel
theorem dX12_turn_66 : decode cX12_turn 66 = .ok (.iconst 0, 1) := by decide +kernel
theorem dX12_turn_67 : decode cX12_turn 67 = .ok (.ior, 1) := by decide +kernel
theorem dX12_turn_68 : decode cX12_turn 68 = .ok (.istore_n 2, 1) := by decide +kernel
theorem dX12_turn_69 : decode cX12_turn 69 = .ok (.iinc 3 1, 3) := by decide +kernel
theorem dX12_turn_72 : decode cX12_turn 72 = .ok (.goto (-38), 3) := by decide +kernel
theorem dX12_turn_75 : decode cX12_turn 75 = .ok (.iconst 0, 1) := by decide +kernel
theorem dX12_turn_76 : decode cX12_turn 76 = .ok (.istore_n 3, 1) := by decide +kernel
theorem dX12_turn_77 : decode cX12_turn 77 = .ok (.iload_n 3, 1) := by decide +kernel
theorem dX12_turn_78 : decode cX12_turn 78 = .ok (.iload_n 1, 1) := by decide +kernel
theorem dX12_turn_79 : decode cX12_turn 79 = .ok (.if_icmp .ge 44, 3) := by decide +kernel
theorem dX12_turn_82 : decode cX12_turn 82 = .ok (.aload_n 0, 1) := by decide +kernel
theorem dX12_turn_83 : decode cX12_turn 83 = .ok (.getfield 37, 3) := by decide +kernel
theorem dX12_turn_86 : decode cX12_turn 86 = .ok (.iload_n 3, 1) := by decide +kernel
theorem dX12_turn_87 : decode cX12_turn 87 = .ok (.iload_n 2, 1) := by decide +kernel
theorem dX12_turn_88 : decode cX12_turn 88 = .ok (.iload_n 3, 1) := by decide +kernel
theorem dX12_turn_89 : decode cX12_turn 89 = .ok (.ishr, 1) := by decide +kernel
theorem dX12_turn_90 : decode cX12_turn 90 = .ok (.iconst 1, 1) := by decide +kernel
theorem dX12_turn_91 : decode cX12_turn 91 = .ok (.iand, 1) := by decide +kernel
theorem dX12_turn_92 : decode cX12_turn 92 = .ok (.iconst 1, 1) := by decide +kernel
theorem dX12_turn_93 : decode cX12_turn 93 = .ok (.if_icmp .ne 17, 3) := by decide +kernel
theorem dX12_turn_96 : decode cX12_turn 96 = .ok (.aload_n 0, 1) := by decide +kernel
theorem dX12_turn_97 : decode cX12_turn 97 = .ok (.getfield 34, 3) := by decide +kernel
theorem dX12_turn_100 : decode cX12_turn 100 = .ok (.aload_n 0, 1) := by decide +kernel
theorem dX12_turn_101 : decode cX12_turn 101 = .ok (.getfield 40, 3) := by decide +kernel
theorem dX12_turn_104 : decode cX12_turn 104 = .ok (.iload_n 3, 1) := by decide +kernel
theorem dX12_turn_105 : decode cX12_turn 105 = .ok (.iaload, 1) := by decide +kernel
theorem dX12_turn_106 : decode cX12_turn 106 = .ok (.iaload, 1) := by decide +kernel
theorem dX12_turn_107 : decode cX12_turn 107 = .ok (.goto 9, 3) := by decide +kernel
theorem dX12_turn_110 : decode cX12_turn 110 = .ok (.aload_n 0, 1) := by decide +kernel
theorem dX12_turn_111 : decode cX12_turn 111 = .ok (.getfield 37, 3) := by decide +kernel
theorem dX12_turn_114 : decode cX12_turn 114 = .ok (.iload_n 3, 1) := by decide +kernel
theorem dX12_turn_115 : decode cX12_turn 115 = .ok (.iaload, 1) := by decide +kernel
theorem dX12_turn_116 : decode cX12_turn 116 = .ok (.iastore, 1) := by decide +kernel
theorem dX12_turn_117 : decode cX12_turn 117 = .ok (.iinc 3 1, 3) := by decide +kernel
theorem dX12_turn_120 : decode cX12_turn 120 = .ok (.goto (-43), 3) := by decide +kernel
theorem dX12_turn_123 : decode cX12_turn 123 = .ok (.iconst 0, 1) := by decide +kernel
theorem dX12_turn_124 : decode cX12_turn 124 = .ok (.istore_n 3, 1) := by decide +kernel
theorem dX12_turn_125 : decode cX12_turn 125 = .ok (.iconst 0, 1) := by decide +kernel
theorem dX12_turn_126 : decode cX12_turn 126 = .ok (.istore 4, 2) := by decide +kernel
theorem dX12_turn_128 : decode cX12_turn 128 = .ok (.iload 4, 2) := by decide +kernel
theorem dX12_turn_130 : decode cX12_turn 130 = .ok (.iload_n 1, 1) := by decide +kernel
theorem dX12_turn_131 : decode cX12_turn 131 = .ok (.if_icmp .ge 31, 3) := by decide +kernel
theorem dX12_turn_134 : decode cX12_turn 134 = .ok (.iload_n 3, 1) := by decide +kernel
theorem dX12_turn_135 : decode cX12_turn 135 = .ok (.ifCond .ne 15, 3) := by decide +kernel
theorem dX12_turn_138 : decode cX12_turn 138 = .ok (.aload_n 0, 1) := by decide +kernel
theorem dX12_turn_139 : decode cX12_turn 139 = .ok (.getfield 37, 3) := by decide +kernel
theorem dX12_turn_142 : decode cX12_turn 142 = .ok (.iload 4, 2) := by decide +kernel
theorem dX12_turn_144 : decode cX12_turn 144 = .ok (.iaload, 1) := by decide +kernel
theorem dX12_turn_145 : decode cX12_turn 145 = .ok (.ldc 89, 2) := by decide +kernel
theorem dX12_turn_147 : decode cX12_turn 147 = .ok (.if_icmp .ne 7, 3) := by decide +kernel
theorem dX12_turn_150 : decode cX12_turn 150 = .ok (.iconst 1, 1) := by decide +kernel
theorem dX12_turn_151 : decode cX12_turn 151 = .ok (.goto 4, 3) := by decide +kernel
theorem dX12_turn_154 : decode cX12_turn 154 = .ok (.iconst 0, 1) := by decide +kernel
theorem dX12_turn_155 : decode cX12_turn 155 = .ok (.istore_n 3, 1) := by decide +kernel
theorem dX12_turn_156 : decode cX12_turn 156 = .ok (.iinc 4 1, 3) := by decide +kernel
theorem dX12_turn_159 : decode cX12_turn 159 = .ok (.goto (-31), 3) := by decide +kernel
theorem dX12_turn_162 : decode cX12_turn 162 = .ok (.iload_n 3, 1) := by decide +kernel
theorem dX12_turn_163 : decode cX12_turn 163 = .ok (.ireturn, 1) := by decide +kernel
theorem dX12_rings_0 : decode cX12_rings 0 = .ok (.aload_n 0, 1) := by decide +kernel
theorem dX12_rings_1 : decode cX12_rings 1 = .ok (.iconst 0, 1) := by decide +kernel
theorem dX12_rings_2 : decode cX12_rings 2 = .ok (.putfield 53, 3) := by decide +kernel
theorem dX12_rings_5 : decode cX12_rings 5 = .ok (.aload_n 0, 1) := by decide +kernel
theorem dX12_rings_6 : decode cX12_rings 6 = .ok (.getfield 192, 3) := by decide +kernel
theorem dX12_rings_9 : decode cX12_rings 9 = .ok (.ifCond .ne 6, 3) := by decide +kernel
theorem dX12_rings_12 : decode cX12_rings 12 = .ok (.ldc 208, 2) := by decide +kernel
theorem dX12_rings_14 : decode cX12_rings 14 = .ok (.ireturn, 1) := by decide +kernel
theorem dX12_rings_15 : decode cX12_rings 15 = .ok (.iload_n 1, 1) := by decide +kernel
theorem dX12_rings_16 : decode cX12_rings 16 = .ok (.invokestatic 67, 3) := by decide +kernel
theorem dX12_rings_19 : decode cX12_rings 19 = .ok (.ifCond .eq 30, 3) := by decide +kernel
theorem dX12_rings_22 : decode cX12_rings 22 = .ok (.iload_n 2, 1) := by decide +kernel
theorem dX12_rings_23 : decode cX12_rings 23 = .ok (.i2l, 1) := by decide +kernel
theorem dX12_rings_24 : decode cX12_rings 24 = .ok (.ldc2_w 71, 3) := by decide +kernel
theorem dX12_rings_27 : decode cX12_rings 27 = .ok (.ldc2_w 277, 3) := by decide +kernel
theorem dX12_rings_30 : decode cX12_rings 30 = .ok (.invokestatic 63, 3) := by decide +kernel
theorem dX12_rings_33 : decode cX12_rings 33 = .ok (.ifCond .eq 16, 3) := by decide +kernel
theorem dX12_rings_36 : decode cX12_rings 36 = .ok (.iload_n 3, 1) := by decide +kernel
theorem dX12_rings_37 : decode cX12_rings 37 = .ok (.i2l, 1) := by decide +kernel
theorem dX12_rings_38 : decode cX12_rings 38 = .ok (.lconst 0, 1) := by decide +kernel
theorem dX12_rings_39 : decode cX12_rings 39 = .ok (.iload_n 2, 1) := by decide +kernel
theorem dX12_rings_40 : decode cX12_rings 40 = .ok (.iconst 1, 1) := by decide +kernel
theorem dX12_rings_41 : decode cX12_rings 41 = .ok (.isub, 1) := by decide +kernel
theorem dX12_rings_42 : decode cX12_rings 42 = .ok (.i2l, 1) := by decide +kernel
theorem dX12_rings_43 : decode cX12_rings 43 = .ok (.invokestatic 63, 3) := by decide +kernel
theorem dX12_rings_46 : decode cX12_rings 46 = .ok (.ifCond .ne 6, 3) := by decide +kernel
theorem dX12_rings_49 : decode cX12_rings 49 = .ok (.ldc 73, 2) := by decide +kernel
theorem dX12_rings_51 : decode cX12_rings 51 = .ok (.ireturn, 1) := by decide +kernel
theorem dX12_rings_52 : decode cX12_rings 52 = .ok (.aload_n 0, 1) := by decide +kernel
theorem dX12_rings_53 : decode cX12_rings 53 = .ok (.getfield 7, 3) := by decide +kernel
theorem dX12_rings_56 : decode cX12_rings 56 = .ok (.iload_n 1, 1) := by decide +kernel
theorem dX12_rings_57 : decode cX12_rings 57 = .ok (.iaload, 1) := by decide +kernel
theorem dX12_rings_58 : decode cX12_rings 58 = .ok (.ifCond .ge 9, 3) := by decide +kernel
theorem dX12_rings_61 : decode cX12_rings 61 = .ok (.aload_n 0, 1) := by decide +kernel
theorem dX12_rings_62 : decode cX12_rings 62 = .ok (.iconst 1, 1) := by decide +kernel
theorem dX12_rings_63 : decode cX12_rings 63 = .ok (.invokevirtual 74, 3) := by decide +kernel
theorem dX12_rings_66 : decode cX12_rings 66 = .ok (.ireturn, 1) := by decide +kernel
theorem dX12_rings_67 : decode cX12_rings 67 = .ok (.iload_n 2, 1) := by decide +kernel
theorem dX12_rings_68 : decode cX12_rings 68 = .ok (.aload_n 0, 1) := by decide +kernel
theorem dX12_rings_69 : decode cX12_rings 69 = .ok (.getfield 13, 3) := by decide +kernel
theorem dX12_rings_72 : decode cX12_rings 72 = .ok (.iload_n 1, 1) := by decide +kernel
theorem dX12_rings_73 : decode cX12_rings 73 = .ok (.iaload, 1) := by decide +kernel
theorem dX12_rings_74 : decode cX12_rings 74 = .ok (.if_icmp .le 9, 3) := by decide +kernel
theorem dX12_rings_77 : decode cX12_rings 77 = .ok (.aload_n 0, 1) := by decide +kernel
theorem dX12_rings_78 : decode cX12_rings 78 = .ok (.iconst 2, 1) := by decide +kernel
theorem dX12_rings_79 : decode cX12_rings 79 = .ok (.invokevirtual 74, 3) := by decide +kernel
theorem dX12_rings_82 : decode cX12_rings 82 = .ok (.ireturn, 1) := by decide +kernel
theorem dX12_rings_83 : decode cX12_rings 83 = .ok (.iconst 0, 1) := by decide +kernel
theorem dX12_rings_84 : decode cX12_rings 84 = .ok (.istore 4, 2) := by decide +kernel
theorem dX12_rings_86 : decode cX12_rings 86 = .ok (.iconst 0, 1) := by decide +kernel
theorem dX12_rings_87 : decode cX12_rings 87 = .ok (.istore 5, 2) := by decide +kernel
theorem dX12_rings_89 : decode cX12_rings 89 = .ok (.iload 5, 2) := by decide +kernel
theorem dX12_rings_91 : decode cX12_rings 91 = .ok (.iload_n 2, 1) := by decide +kernel
theorem dX12_rings_92 : decode cX12_rings 92 = .ok (.if_icmp .ge 73, 3) := by decide +kernel
theorem dX12_rings_95 : decode cX12_rings 95 = .ok (.aload_n 0, 1) := by decide +kernel
theorem dX12_rings_96 : decode cX12_rings 96 = .ok (.getfield 16, 3) := by decide +kernel
theorem dX12_rings_99 : decode cX12_rings 99 = .ok (.bipush 40, 2) := by decide +kernel
theorem dX12_rings_101 : decode cX12_rings 101 = .ok (.iload_n 1, 1) := by decide +kernel
theorem dX12_rings_102 : decode cX12_rings 102 = .ok (.imul, 1) := by decide +kernel
theorem dX12_rings_103 : decode cX12_rings 103 = .ok (.iload 5, 2) := by decide +kernel
theorem dX12_rings_105 : decode cX12_rings 105 = .ok (.iadd, 1) := by decide +kernel
theorem dX12_rings_106 : decode cX12_rings 106 = .ok (.iaload, 1) := by decide +kernel
theorem dX12_rings_107 : decode cX12_rings 107 = .ok (.istore 6, 2) := by decide +kernel
theorem dX12_rings_109 : decode cX12_rings 109 = .ok (.aload_n 0, 1) := by decide +kernel
theorem dX12_rings_110 : decode cX12_rings 110 = .ok (.iload 6, 2) := by decide +kernel
theorem dX12_rings_112 : decode cX12_rings 112 = .ok (.invokevirtual 218, 3) := by decide +kernel
theorem dX12_rings_115 : decode cX12_rings 115 = .ok (.ifCond .eq 14, 3) := by decide +kernel
theorem dX12_rings_118 : decode cX12_rings 118 = .ok (.iload 4, 2) := by decide +kernel
theorem dX12_rings_120 : decode cX12_rings 120 = .ok (.iload 6, 2) := by decide +kernel
theorem dX12_rings_122 : decode cX12_rings 122 = .ok (.ishr, 1) := by decide +kernel
theorem dX12_rings_123 : decode cX12_rings 123 = .ok (.iconst 1, 1) := by decide +kernel
theorem dX12_rings_124 : decode cX12_rings 124 = .ok (.iand, 1) := by decide +kernel
theorem dX12_rings_125 : decode cX12_rings 125 = .ok (.iconst 1, 1) := by decide +kernel
theorem dX12_rings_126 : decode cX12_rings 126 = .ok (.if_icmp .ne 6, 3) := by decide +kernel
theorem dX12_rings_129 : decode cX12_rings 129 = .ok (.ldc 73, 2) := by decide +kernel
theorem dX12_rings_131 : decode cX12_rings 131 = .ok (.ireturn, 1) := by decide +kernel
theorem dX12_rings_132 : decode cX12_rings 132 = .ok (.iload 4, 2) := by decide +kernel
theorem dX12_rings_134 : decode cX12_rings 134 = .ok (.iconst 1, 1) := by decide +kernel
theorem dX12_rings_135 : decode cX12_rings 135 = .ok (.iload 6, 2) := by decide +kernel
theorem dX12_rings_137 : decode cX12_rings 137 = .ok (.ishl, 1) := by decide +kernel
theorem dX12_rings_138 : decode cX12_rings 138 = .ok (.ior, 1) := by decide +kernel
theorem dX12_rings_139 : decode cX12_rings 139 = .ok (.istore 4, 2) := by decide +kernel
theorem dX12_rings_141 : decode cX12_rings 141 = .ok (.aload_n 0, 1) := by decide +kernel
theorem dX12_rings_142 : decode cX12_rings 142 = .ok (.getfield 34, 3) := by decide +kernel
theorem dX12_rings_145 : decode cX12_rings 145 = .ok (.iload 5, 2) := by decide +kernel
theorem dX12_rings_147 : decode cX12_rings 147 = .ok (.iload 6, 2) := by decide +kernel
theorem dX12_rings_149 : decode cX12_rings 149 = .ok (.iastore, 1) := by decide +kernel
theorem dX12_rings_150 : decode cX12_rings 150 = .ok (.aload_n 0, 1) := by decide +kernel
theorem dX12_rings_151 : decode cX12_rings 151 = .ok (.getfield 37, 3) := by decide +kernel
theorem dX12_rings_154 : decode cX12_rings 154 = .ok (.iload 5, 2) := by decide +kernel
theorem dX12_rings_156 : decode cX12_rings 156 = .ok (.ldc 89, 2) := by decide +kernel
theorem dX12_rings_158 : decode cX12_rings 158 = .ok (.iastore, 1) := by decide +kernel
theorem dX12_rings_159 : decode cX12_rings 159 = .ok (.iinc 5 1, 3) := by decide +kernel
theorem dX12_rings_162 : decode cX12_rings 162 = .ok (.goto (-73), 3) := by decide +kernel
theorem dX12_rings_165 : decode cX12_rings 165 = .ok (.aload_n 0, 1) := by decide +kernel
theorem dX12_rings_166 : decode cX12_rings 166 = .ok (.iconst 0, 1) := by decide +kernel
theorem dX12_rings_167 : decode cX12_rings 167 = .ok (.putfield 57, 3) := by decide +kernel
theorem dX12_rings_170 : decode cX12_rings 170 = .ok (.iconst 1, 1) := by decide +kernel
theorem dX12_rings_171 : decode cX12_rings 171 = .ok (.istore 5, 2) := by decide +kernel
theorem dX12_rings_173 : decode cX12_rings 173 = .ok (.iload 5, 2) := by decide +kernel
theorem dX12_rings_175 : decode cX12_rings 175 = .ok (.ifCond .eq 13, 3) := by decide +kernel
theorem dX12_rings_178 : decode cX12_rings 178 = .ok (.aload_n 0, 1) := by decide +kernel
theorem dX12_rings_179 : decode cX12_rings 179 = .ok (.iload_n 2, 1) := by decide +kernel
theorem dX12_rings_180 : decode cX12_rings 180 = .ok (.invokevirtual 279, 3) := by decide +kernel
theorem dX12_rings_183 : decode cX12_rings 183 = .ok (.istore 5, 2) := by decide +kernel
theorem dX12_rings_185 : decode cX12_rings 185 = .ok (.goto (-12), 3) := by decide +kernel
theorem dX12_rings_188 : decode cX12_rings 188 = .ok (.aload_n 0, 1) := by decide +kernel
theorem dX12_rings_189 : decode cX12_rings 189 = .ok (.getfield 37, 3) := by decide +kernel
theorem dX12_rings_192 : decode cX12_rings 192 = .ok (.iload_n 3, 1) := by decide +kernel
theorem dX12_rings_193 : decode cX12_rings 193 = .ok (.iaload, 1) := by decide +kernel
theorem dX12_rings_194 : decode cX12_rings 194 = .ok (.ireturn, 1) := by decide +kernel
theorem dX12_nextIn_0 : decode cX12_nextIn 0 = .ok (.ldc 89, 2) := by decide +kernel
theorem dX12_nextIn_2 : decode cX12_nextIn 2 = .ok (.istore_n 2, 1) := by decide +kernel
theorem dX12_nextIn_3 : decode cX12_nextIn 3 = .ok (.iconst 0, 1) := by decide +kernel
theorem dX12_nextIn_4 : decode cX12_nextIn 4 = .ok (.istore_n 3, 1) := by decide +kernel
theorem dX12_nextIn_5 : decode cX12_nextIn 5 = .ok (.iload_n 3, 1) := by decide +kernel
theorem dX12_nextIn_6 : decode cX12_nextIn 6 = .ok (.aload_n 0, 1) := by decide +kernel
theorem dX12_nextIn_7 : decode cX12_nextIn 7 = .ok (.getfield 19, 3) := by decide +kernel
theorem dX12_nextIn_10 : decode cX12_nextIn 10 = .ok (.iconst 2, 1) := by decide +kernel
theorem dX12_nextIn_11 : decode cX12_nextIn 11 = .ok (.iaload, 1) := by decide +kernel
theorem dX12_nextIn_12 : decode cX12_nextIn 12 = .ok (.if_icmp .ge 67, 3) := by decide +kernel
theorem dX12_nextIn_15 : decode cX12_nextIn 15 = .ok (.aload_n 0, 1) := by decide +kernel
theorem dX12_nextIn_16 : decode cX12_nextIn 16 = .ok (.iload_n 3, 1) := by decide +kernel
theorem dX12_nextIn_17 : decode cX12_nextIn 17 = .ok (.iconst 4, 1) := by decide +kernel
theorem dX12_nextIn_18 : decode cX12_nextIn 18 = .ok (.invokevirtual 202, 3) := by decide +kernel
theorem dX12_nextIn_21 : decode cX12_nextIn 21 = .ok (.ldc 89, 2) := by decide +kernel
theorem dX12_nextIn_23 : decode cX12_nextIn 23 = .ok (.if_icmp .eq 15, 3) := by decide +kernel
theorem dX12_nextIn_26 : decode cX12_nextIn 26 = .ok (.iload_n 1, 1) := by decide +kernel
theorem dX12_nextIn_27 : decode cX12_nextIn 27 = .ok (.iload_n 3, 1) := by decide +kernel
theorem dX12_nextIn_28 : decode cX12_nextIn 28 = .ok (.ishr, 1) := by decide +kernel
theorem dX12_nextIn_29 : decode cX12_nextIn 29 = .ok (.iconst 1, 1) := by decide +kernel
theorem dX12_nextIn_30 : decode cX12_nextIn 30 = .ok (.iand, 1) := by decide +kernel
theorem dX12_nextIn_31 : decode cX12_nextIn 31 = .ok (.ifCond .ne 7, 3) := by decide +kernel
theorem dX12_nextIn_34 : decode cX12_nextIn 34 = .ok (.iconst 1, 1) := by decide +kernel
theorem dX12_nextIn_35 : decode cX12_nextIn 35 = .ok (.goto 4, 3) := by decide +kernel
theorem dX12_nextIn_38 : decode cX12_nextIn 38 = .ok (.iconst 0, 1) := by decide +kernel
theorem dX12_nextIn_39 : decode cX12_nextIn 39 = .ok (.istore 4, 2) := by decide +kernel
theorem dX12_nextIn_41 : decode cX12_nextIn 41 = .ok (.iload 4, 2) := by decide +kernel
theorem dX12_nextIn_43 : decode cX12_nextIn 43 = .ok (.ifCond .eq 28, 3) := by decide +kernel
theorem dX12_nextIn_46 : decode cX12_nextIn 46 = .ok (.iload_n 2, 1) := by decide +kernel
theorem dX12_nextIn_47 : decode cX12_nextIn 47 = .ok (.ldc 89, 2) := by decide +kernel
theorem dX12_nextIn_49 : decode cX12_nextIn 49 = .ok (.if_icmp .eq 18, 3) := by decide +kernel
theorem dX12_nextIn_52 : decode cX12_nextIn 52 = .ok (.aload_n 0, 1) := by decide +kernel
theorem dX12_nextIn_53 : decode cX12_nextIn 53 = .ok (.iload_n 3, 1) := by decide +kernel
theorem dX12_nextIn_54 : decode cX12_nextIn 54 = .ok (.iconst 3, 1) := by decide +kernel
theorem dX12_nextIn_55 : decode cX12_nextIn 55 = .ok (.invokevirtual 202, 3) := by decide +kernel
theorem dX12_nextIn_58 : decode cX12_nextIn 58 = .ok (.aload_n 0, 1) := by decide +kernel
theorem dX12_nextIn_59 : decode cX12_nextIn 59 = .ok (.iload_n 2, 1) := by decide +kernel
theorem dX12_nextIn_60 : decode cX12_nextIn 60 = .ok (.iconst 3, 1) := by decide +kernel
theorem dX12_nextIn_61 : decode cX12_nextIn 61 = .ok (.invokevirtual 202, 3) := by decide +kernel
theorem dX12_nextIn_64 : decode cX12_nextIn 64 = .ok (.if_icmp .le 7, 3) := by decide +kernel
theorem dX12_nextIn_67 : decode cX12_nextIn 67 = .ok (.iload_n 3, 1) := by decide +kernel
theorem dX12_nextIn_68 : decode cX12_nextIn 68 = .ok (.goto 4, 3) := by decide +kernel
theorem dX12_nextIn_71 : decode cX12_nextIn 71 = .ok (.iload_n 2, 1) := by decide +kernel
theorem dX12_nextIn_72 : decode cX12_nextIn 72 = .ok (.istore_n 2, 1) := by decide +kernel
theorem dX12_nextIn_73 : decode cX12_nextIn 73 = .ok (.iinc 3 1, 3) := by decide +kernel
theorem dX12_nextIn_76 : decode cX12_nextIn 76 = .ok (.goto (-71), 3) := by decide +kernel
theorem dX12_nextIn_79 : decode cX12_nextIn 79 = .ok (.iload_n 2, 1) := by decide +kernel
theorem dX12_nextIn_80 : decode cX12_nextIn 80 = .ok (.ireturn, 1) := by decide +kernel
theorem dX12_rain_0 : decode cX12_rain 0 = .ok (.aload_n 0, 1) := by decide +kernel
theorem dX12_rain_1 : decode cX12_rain 1 = .ok (.iconst 0, 1) := by decide +kernel
theorem dX12_rain_2 : decode cX12_rain 2 = .ok (.putfield 53, 3) := by decide +kernel
theorem dX12_rain_5 : decode cX12_rain 5 = .ok (.aload_n 0, 1) := by decide +kernel
theorem dX12_rain_6 : decode cX12_rain 6 = .ok (.getfield 192, 3) := by decide +kernel
theorem dX12_rain_9 : decode cX12_rain 9 = .ok (.ifCond .ne 6, 3) := by decide +kernel
theorem dX12_rain_12 : decode cX12_rain 12 = .ok (.ldc 208, 2) := by decide +kernel
theorem dX12_rain_14 : decode cX12_rain 14 = .ok (.ireturn, 1) := by decide +kernel
theorem dX12_rain_15 : decode cX12_rain 15 = .ok (.iload_n 1, 1) := by decide +kernel
theorem dX12_rain_16 : decode cX12_rain 16 = .ok (.i2l, 1) := by decide +kernel
theorem dX12_rain_17 : decode cX12_rain 17 = .ok (.lconst 0, 1) := by decide +kernel
theorem dX12_rain_18 : decode cX12_rain 18 = .ok (.ldc2_w 282, 3) := by decide +kernel
theorem dX12_rain_21 : decode cX12_rain 21 = .ok (.invokestatic 63, 3) := by decide +kernel
theorem dX12_rain_24 : decode cX12_rain 24 = .ok (.ifCond .eq 13, 3) := by decide +kernel
theorem dX12_rain_27 : decode cX12_rain 27 = .ok (.iload_n 2, 1) := by decide +kernel
theorem dX12_rain_28 : decode cX12_rain 28 = .ok (.i2l, 1) := by decide +kernel
theorem dX12_rain_29 : decode cX12_rain 29 = .ok (.lconst 0, 1) := by decide +kernel
theorem dX12_rain_30 : decode cX12_rain 30 = .ok (.lconst 1, 1) := by decide +kernel
theorem dX12_rain_31 : decode cX12_rain 31 = .ok (.invokestatic 63, 3) := by decide +kernel
theorem dX12_rain_34 : decode cX12_rain 34 = .ok (.ifCond .ne 6, 3) := by decide +kernel
theorem dX12_rain_37 : decode cX12_rain 37 = .ok (.ldc 73, 2) := by decide +kernel
theorem dX12_rain_39 : decode cX12_rain 39 = .ok (.ireturn, 1) := by decide +kernel
theorem dX12_rain_40 : decode cX12_rain 40 = .ok (.iload_n 2, 1) := by decide +kernel
theorem dX12_rain_41 : decode cX12_rain 41 = .ok (.iconst 1, 1) := by decide +kernel
theorem dX12_rain_42 : decode cX12_rain 42 = .ok (.if_icmp .ne 9, 3) := by decide +kernel
theorem dX12_rain_45 : decode cX12_rain 45 = .ok (.aload_n 0, 1) := by decide +kernel
theorem dX12_rain_46 : decode cX12_rain 46 = .ok (.iconst 0, 1) := by decide +kernel
theorem dX12_rain_47 : decode cX12_rain 47 = .ok (.invokevirtual 284, 3) := by decide +kernel
theorem dX12_rain_50 : decode cX12_rain 50 = .ok (.ireturn, 1) := by decide +kernel
theorem dX12_rain_51 : decode cX12_rain 51 = .ok (.iconst 0, 1) := by decide +kernel
theorem dX12_rain_52 : decode cX12_rain 52 = .ok (.istore_n 3, 1) := by decide +kernel
theorem dX12_rain_53 : decode cX12_rain 53 = .ok (.iconst 0, 1) := by decide +kernel
theorem dX12_rain_54 : decode cX12_rain 54 = .ok (.istore 4, 2) := by decide +kernel
theorem dX12_rain_56 : decode cX12_rain 56 = .ok (.ldc_w 287, 3) := by decide +kernel
theorem dX12_rain_59 : decode cX12_rain 59 = .ok (.istore 5, 2) := by decide +kernel
theorem dX12_rain_61 : decode cX12_rain 61 = .ok (.aload_n 0, 1) := by decide +kernel
theorem dX12_rain_62 : decode cX12_rain 62 = .ok (.iconst 0, 1) := by decide +kernel
theorem dX12_rain_63 : decode cX12_rain 63 = .ok (.invokevirtual 284, 3) := by decide +kernel
theorem dX12_rain_66 : decode cX12_rain 66 = .ok (.istore 6, 2) := by decide +kernel
theorem dX12_rain_68 : decode cX12_rain 68 = .ok (.iload 6, 2) := by decide +kernel
theorem dX12_rain_70 : decode cX12_rain 70 = .ok (.ldc 89, 2) := by decide +kernel
theorem dX12_rain_72 : decode cX12_rain 72 = .ok (.if_icmp .eq 51, 3) := by decide +kernel
theorem dX12_rain_75 : decode cX12_rain 75 = .ok (.iload 4, 2) := by decide +kernel
theorem dX12_rain_77 : decode cX12_rain 77 = .ok (.aload_n 0, 1) := by decide +kernel
theorem dX12_rain_78 : decode cX12_rain 78 = .ok (.iload 6, 2) := by decide +kernel
theorem dX12_rain_80 : decode cX12_rain 80 = .ok (.iconst 3, 1) := by decide +kernel
theorem dX12_rain_81 : decode cX12_rain 81 = .ok (.invokevirtual 202, 3) := by decide +kernel
theorem dX12_rain_84 : decode cX12_rain 84 = .ok (.ldc_w 287, 3) := by decide +kernel
theorem dX12_rain_87 : decode cX12_rain 87 = .ok (.iload 5, 2) := by decide +kernel
theorem dX12_rain_89 : decode cX12_rain 89 = .ok (.isub, 1) := by decide +kernel
theorem dX12_rain_90 : decode cX12_rain 90 = .ok (.imul, 1) := by decide +kernel
theorem dX12_rain_91 : decode cX12_rain 91 = .ok (.iadd, 1) := by decide +kernel
theorem dX12_rain_92 : decode cX12_rain 92 = .ok (.istore 4, 2) := by decide +kernel
theorem dX12_rain_94 : decode cX12_rain 94 = .ok (.iload 5, 2) := by decide +kernel
theorem dX12_rain_96 : decode cX12_rain 96 = .ok (.bipush 100, 2) := by decide +kernel
theorem dX12_rain_98 : decode cX12_rain 98 = .ok (.iload_n 1, 1) := by decide +kernel
theorem dX12_rain_99 : decode cX12_rain 99 = .ok (.isub, 1) := by decide +kernel
theorem dX12_rain_100 : decode cX12_rain 100 = .ok (.imul, 1) := by decide +kernel
theorem dX12_rain_101 : decode cX12_rain 101 = .ok (.bipush 100, 2) := by decide +kernel
theorem dX12_rain_103 : decode cX12_rain 103 = .ok (.idiv, 1) := by decide +kernel
theorem dX12_rain_104 : decode cX12_rain 104 = .ok (.istore 5, 2) := by decide +kernel
theorem dX12_rain_106 : decode cX12_rain 106 = .ok (.iload_n 3, 1) := by decide +kernel
theorem dX12_rain_107 : decode cX12_rain 107 = .ok (.iconst 1, 1) := by decide +kernel
theorem dX12_rain_108 : decode cX12_rain 108 = .ok (.iload 6, 2) := by decide +kernel
theorem dX12_rain_110 : decode cX12_rain 110 = .ok (.ishl, 1) := by decide +kernel
theorem dX12_rain_111 : decode cX12_rain 111 = .ok (.ior, 1) := by decide +kernel
theorem dX12_rain_112 : decode cX12_rain 112 = .ok (.istore_n 3, 1) := by decide +kernel
theorem dX12_rain_113 : decode cX12_rain 113 = .ok (.aload_n 0, 1) := by decide +kernel
theorem dX12_rain_114 : decode cX12_rain 114 = .ok (.iload_n 3, 1) := by decide +kernel
theorem dX12_rain_115 : decode cX12_rain 115 = .ok (.invokevirtual 284, 3) := by decide +kernel
theorem dX12_rain_118 : decode cX12_rain 118 = .ok (.istore 6, 2) := by decide +kernel
theorem dX12_rain_120 : decode cX12_rain 120 = .ok (.goto (-52), 3) := by decide +kernel
theorem dX12_rain_123 : decode cX12_rain 123 = .ok (.iload 4, 2) := by decide +kernel
theorem dX12_rain_125 : decode cX12_rain 125 = .ok (.ireturn, 1) := by decide +kernel
theorem dX12_image_0 : decode cX12_image 0 = .ok (.aload_n 0, 1) := by decide +kernel
theorem dX12_image_1 : decode cX12_image 1 = .ok (.iconst 0, 1) := by decide +kernel
theorem dX12_image_2 : decode cX12_image 2 = .ok (.putfield 53, 3) := by decide +kernel
theorem dX12_image_5 : decode cX12_image 5 = .ok (.iload_n 1, 1) := by decide +kernel
theorem dX12_image_6 : decode cX12_image 6 = .ok (.i2l, 1) := by decide +kernel
theorem dX12_image_7 : decode cX12_image 7 = .ok (.lconst 0, 1) := by decide +kernel
theorem dX12_image_8 : decode cX12_image 8 = .ok (.lconst 1, 1) := by decide +kernel
theorem dX12_image_9 : decode cX12_image 9 = .ok (.invokestatic 63, 3) := by decide +kernel
theorem dX12_image_12 : decode cX12_image 12 = .ok (.ifCond .ne 6, 3) := by decide +kernel
theorem dX12_image_15 : decode cX12_image 15 = .ok (.ldc 73, 2) := by decide +kernel
theorem dX12_image_17 : decode cX12_image 17 = .ok (.ireturn, 1) := by decide +kernel
theorem dX12_image_18 : decode cX12_image 18 = .ok (.aload_n 0, 1) := by decide +kernel
theorem dX12_image_19 : decode cX12_image 19 = .ok (.getfield 192, 3) := by decide +kernel
theorem dX12_image_22 : decode cX12_image 22 = .ok (.ifCond .ne 6, 3) := by decide +kernel
theorem dX12_image_25 : decode cX12_image 25 = .ok (.ldc 208, 2) := by decide +kernel
theorem dX12_image_27 : decode cX12_image 27 = .ok (.ireturn, 1) := by decide +kernel
theorem dX12_image_28 : decode cX12_image 28 = .ok (.iconst 0, 1) := by decide +kernel
theorem dX12_image_29 : decode cX12_image 29 = .ok (.istore_n 2, 1) := by decide +kernel
theorem dX12_image_30 : decode cX12_image 30 = .ok (.iload_n 2, 1) := by decide +kernel
theorem dX12_image_31 : decode cX12_image 31 = .ok (.sipush 144, 3) := by decide +kernel
theorem dX12_image_34 : decode cX12_image 34 = .ok (.if_icmp .ge 27, 3) := by decide +kernel
theorem dX12_image_37 : decode cX12_image 37 = .ok (.aload_n 0, 1) := by decide +kernel
theorem dX12_image_38 : decode cX12_image 38 = .ok (.getfield 47, 3) := by decide +kernel
theorem dX12_image_41 : decode cX12_image 41 = .ok (.sipush 144, 3) := by decide +kernel
theorem dX12_image_44 : decode cX12_image 44 = .ok (.iload_n 1, 1) := by decide +kernel
theorem dX12_image_45 : decode cX12_image 45 = .ok (.imul, 1) := by decide +kernel
theorem dX12_image_46 : decode cX12_image 46 = .ok (.iload_n 2, 1) := by decide +kernel
theorem dX12_image_47 : decode cX12_image 47 = .ok (.iadd, 1) := by decide +kernel
theorem dX12_image_48 : decode cX12_image 48 = .ok (.aload_n 0, 1) := by decide +kernel
theorem dX12_image_49 : decode cX12_image 49 = .ok (.getfield 19, 3) := by decide +kernel
theorem dX12_image_52 : decode cX12_image 52 = .ok (.iload_n 2, 1) := by decide +kernel
theorem dX12_image_53 : decode cX12_image 53 = .ok (.iaload, 1) := by decide +kernel
theorem dX12_image_54 : decode cX12_image 54 = .ok (.iastore, 1) := by decide +kernel
theorem dX12_image_55 : decode cX12_image 55 = .ok (.iinc 2 1, 3) := by decide +kernel
theorem dX12_image_58 : decode cX12_image 58 = .ok (.goto (-28), 3) := by decide +kernel
theorem dX12_image_61 : decode cX12_image 61 = .ok (.aload_n 0, 1) := by decide +kernel
theorem dX12_image_62 : decode cX12_image 62 = .ok (.getfield 43, 3) := by decide +kernel
theorem dX12_image_65 : decode cX12_image 65 = .ok (.iload_n 1, 1) := by decide +kernel
theorem dX12_image_66 : decode cX12_image 66 = .ok (.iconst 1, 1) := by decide +kernel
theorem dX12_image_67 : decode cX12_image 67 = .ok (.bastore, 1) := by decide +kernel
theorem dX12_image_68 : decode cX12_image 68 = .ok (.iconst 1, 1) := by decide +kernel
theorem dX12_image_69 : decode cX12_image 69 = .ok (.ireturn, 1) := by decide +kernel
theorem dX12_restore_0 : decode cX12_restore 0 = .ok (.aload_n 0, 1) := by decide +kernel
theorem dX12_restore_1 : decode cX12_restore 1 = .ok (.iconst 0, 1) := by decide +kernel
theorem dX12_restore_2 : decode cX12_restore 2 = .ok (.putfield 53, 3) := by decide +kernel
theorem dX12_restore_5 : decode cX12_restore 5 = .ok (.iload_n 1, 1) := by decide +kernel
theorem dX12_restore_6 : decode cX12_restore 6 = .ok (.i2l, 1) := by decide +kernel
theorem dX12_restore_7 : decode cX12_restore 7 = .ok (.lconst 0, 1) := by decide +kernel
theorem dX12_restore_8 : decode cX12_restore 8 = .ok (.lconst 1, 1) := by decide +kernel
theorem dX12_restore_9 : decode cX12_restore 9 = .ok (.invokestatic 63, 3) := by decide +kernel
theorem dX12_restore_12 : decode cX12_restore 12 = .ok (.ifCond .ne 6, 3) := by decide +kernel
theorem dX12_restore_15 : decode cX12_restore 15 = .ok (.ldc 73, 2) := by decide +kernel
theorem dX12_restore_17 : decode cX12_restore 17 = .ok (.ireturn, 1) := by decide +kernel
theorem dX12_restore_18 : decode cX12_restore 18 = .ok (.aload_n 0, 1) := by decide +kernel
theorem dX12_restore_19 : decode cX12_restore 19 = .ok (.getfield 43, 3) := by decide +kernel
theorem dX12_restore_22 : decode cX12_restore 22 = .ok (.iload_n 1, 1) := by decide +kernel
theorem dX12_restore_23 : decode cX12_restore 23 = .ok (.baload, 1) := by decide +kernel
theorem dX12_restore_24 : decode cX12_restore 24 = .ok (.ifCond .ne 6, 3) := by decide +kernel
theorem dX12_restore_27 : decode cX12_restore 27 = .ok (.ldc 208, 2) := by decide +kernel
theorem dX12_restore_29 : decode cX12_restore 29 = .ok (.ireturn, 1) := by decide +kernel
theorem dX12_restore_30 : decode cX12_restore 30 = .ok (.iconst 0, 1) := by decide +kernel
theorem dX12_restore_31 : decode cX12_restore 31 = .ok (.istore_n 2, 1) := by decide +kernel
theorem dX12_restore_32 : decode cX12_restore 32 = .ok (.iload_n 2, 1) := by decide +kernel
theorem dX12_restore_33 : decode cX12_restore 33 = .ok (.sipush 144, 3) := by decide +kernel
theorem dX12_restore_36 : decode cX12_restore 36 = .ok (.if_icmp .ge 27, 3) := by decide +kernel
theorem dX12_restore_39 : decode cX12_restore 39 = .ok (.aload_n 0, 1) := by decide +kernel
theorem dX12_restore_40 : decode cX12_restore 40 = .ok (.getfield 19, 3) := by decide +kernel
theorem dX12_restore_43 : decode cX12_restore 43 = .ok (.iload_n 2, 1) := by decide +kernel
theorem dX12_restore_44 : decode cX12_restore 44 = .ok (.aload_n 0, 1) := by decide +kernel
theorem dX12_restore_45 : decode cX12_restore 45 = .ok (.getfield 47, 3) := by decide +kernel
theorem dX12_restore_48 : decode cX12_restore 48 = .ok (.sipush 144, 3) := by decide +kernel
theorem dX12_restore_51 : decode cX12_restore 51 = .ok (.iload_n 1, 1) := by decide +kernel
theorem dX12_restore_52 : decode cX12_restore 52 = .ok (.imul, 1) := by decide +kernel
theorem dX12_restore_53 : decode cX12_restore 53 = .ok (.iload_n 2, 1) := by decide +kernel
theorem dX12_restore_54 : decode cX12_restore 54 = .ok (.iadd, 1) := by decide +kernel
theorem dX12_restore_55 : decode cX12_restore 55 = .ok (.iaload, 1) := by decide +kernel
theorem dX12_restore_56 : decode cX12_restore 56 = .ok (.iastore, 1) := by decide +kernel
theorem dX12_restore_57 : decode cX12_restore 57 = .ok (.iinc 2 1, 3) := by decide +kernel
theorem dX12_restore_60 : decode cX12_restore 60 = .ok (.goto (-28), 3) := by decide +kernel
theorem dX12_restore_63 : decode cX12_restore 63 = .ok (.iconst 1, 1) := by decide +kernel
theorem dX12_restore_64 : decode cX12_restore 64 = .ok (.ireturn, 1) := by decide +kernel
theorem dX12_isOf_0 : decode cX12_isOf 0 = .ok (.iload_n 1, 1) := by decide +kernel
theorem dX12_isOf_1 : decode cX12_isOf 1 = .ok (.ifCond .eq 28, 3) := by decide +kernel
theorem dX12_isOf_4 : decode cX12_isOf 4 = .ok (.iload_n 0, 1) := by decide +kernel
theorem dX12_isOf_5 : decode cX12_isOf 5 = .ok (.iload_n 1, 1) := by decide +kernel
theorem dX12_isOf_6 : decode cX12_isOf 6 = .ok (.if_icmp .eq 23, 3) := by decide +kernel
theorem dX12_isOf_9 : decode cX12_isOf 9 = .ok (.iload_n 1, 1) := by decide +kernel
theorem dX12_isOf_10 : decode cX12_isOf 10 = .ok (.iconst 1, 1) := by decide +kernel
theorem dX12_isOf_11 : decode cX12_isOf 11 = .ok (.if_icmp .ne 8, 3) := by decide +kernel
theorem dX12_isOf_14 : decode cX12_isOf 14 = .ok (.iload_n 0, 1) := by decide +kernel
theorem dX12_isOf_15 : decode cX12_isOf 15 = .ok (.iconst 2, 1) := by decide +kernel
theorem dX12_isOf_16 : decode cX12_isOf 16 = .ok (.if_icmp .eq 13, 3) := by decide +kernel
theorem dX12_isOf_19 : decode cX12_isOf 19 = .ok (.iload_n 1, 1) := by decide +kernel
theorem dX12_isOf_20 : decode cX12_isOf 20 = .ok (.iconst 3, 1) := by decide +kernel
theorem dX12_isOf_21 : decode cX12_isOf 21 = .ok (.if_icmp .ne 12, 3) := by decide +kernel
theorem dX12_isOf_24 : decode cX12_isOf 24 = .ok (.iload_n 0, 1) := by decide +kernel
theorem dX12_isOf_25 : decode cX12_isOf 25 = .ok (.iconst 5, 1) := by decide +kernel
theorem dX12_isOf_26 : decode cX12_isOf 26 = .ok (.if_icmp .ne 7, 3) := by decide +kernel
theorem dX12_isOf_29 : decode cX12_isOf 29 = .ok (.iconst 1, 1) := by decide +kernel
theorem dX12_isOf_30 : decode cX12_isOf 30 = .ok (.goto 4, 3) := by decide +kernel
theorem dX12_isOf_33 : decode cX12_isOf 33 = .ok (.iconst 0, 1) := by decide +kernel
theorem dX12_isOf_34 : decode cX12_isOf 34 = .ok (.ireturn, 1) := by decide +kernel
theorem dX12_kind_0 : decode cX12_kind 0 = .ok (.aload_n 0, 1) := by decide +kernel
theorem dX12_kind_1 : decode cX12_kind 1 = .ok (.iconst 0, 1) := by decide +kernel
theorem dX12_kind_2 : decode cX12_kind 2 = .ok (.putfield 53, 3) := by decide +kernel
theorem dX12_kind_5 : decode cX12_kind 5 = .ok (.aload_n 0, 1) := by decide +kernel
theorem dX12_kind_6 : decode cX12_kind 6 = .ok (.iload_n 1, 1) := by decide +kernel
theorem dX12_kind_7 : decode cX12_kind 7 = .ok (.invokevirtual 215, 3) := by decide +kernel
theorem dX12_kind_10 : decode cX12_kind 10 = .ok (.ifCond .eq 12, 3) := by decide +kernel
theorem dX12_kind_13 : decode cX12_kind 13 = .ok (.aload_n 0, 1) := by decide +kernel
theorem dX12_kind_14 : decode cX12_kind 14 = .ok (.iload_n 1, 1) := by decide +kernel
theorem dX12_kind_15 : decode cX12_kind 15 = .ok (.iconst 0, 1) := by decide +kernel
theorem dX12_kind_16 : decode cX12_kind 16 = .ok (.invokevirtual 202, 3) := by decide +kernel
theorem dX12_kind_19 : decode cX12_kind 19 = .ok (.goto 5, 3) := by decide +kernel
theorem dX12_kind_22 : decode cX12_kind 22 = .ok (.ldc 73, 2) := by decide +kernel
theorem dX12_kind_24 : decode cX12_kind 24 = .ok (.ireturn, 1) := by decide +kernel
theorem dX12_as_0 : decode cX12_as 0 = .ok (.aload_n 0, 1) := by decide +kernel
theorem dX12_as_1 : decode cX12_as 1 = .ok (.iconst 0, 1) := by decide +kernel
theorem dX12_as_2 : decode cX12_as 2 = .ok (.putfield 53, 3) := by decide +kernel
theorem dX12_as_5 : decode cX12_as 5 = .ok (.aload_n 0, 1) := by decide +kernel
theorem dX12_as_6 : decode cX12_as 6 = .ok (.iload_n 1, 1) := by decide +kernel
theorem dX12_as_7 : decode cX12_as 7 = .ok (.invokevirtual 215, 3) := by decide +kernel
theorem dX12_as_10 : decode cX12_as 10 = .ok (.ifCond .eq 15, 3) := by decide +kernel
theorem dX12_as_13 : decode cX12_as 13 = .ok (.iload_n 2, 1) := by decide +kernel
theorem dX12_as_14 : decode cX12_as 14 = .ok (.i2l, 1) := by decide +kernel
theorem dX12_as_15 : decode cX12_as 15 = .ok (.lconst 0, 1) := by decide +kernel
theorem dX12_as_16 : decode cX12_as 16 = .ok (.ldc2_w 252, 3) := by decide +kernel
theorem dX12_as_19 : decode cX12_as 19 = .ok (.invokestatic 63, 3) := by decide +kernel
theorem dX12_as_22 : decode cX12_as 22 = .ok (.ifCond .ne 6, 3) := by decide +kernel
theorem dX12_as_25 : decode cX12_as 25 = .ok (.ldc 73, 2) := by decide +kernel
theorem dX12_as_27 : decode cX12_as 27 = .ok (.ireturn, 1) := by decide +kernel
theorem dX12_as_28 : decode cX12_as 28 = .ok (.aload_n 0, 1) := by decide +kernel
theorem dX12_as_29 : decode cX12_as 29 = .ok (.iconst 0, 1) := by decide +kernel
theorem dX12_as_30 : decode cX12_as 30 = .ok (.putfield 57, 3) := by decide +kernel
theorem dX12_as_33 : decode cX12_as 33 = .ok (.aload_n 0, 1) := by decide +kernel
theorem dX12_as_34 : decode cX12_as 34 = .ok (.iload_n 1, 1) := by decide +kernel
theorem dX12_as_35 : decode cX12_as 35 = .ok (.iconst 0, 1) := by decide +kernel
theorem dX12_as_36 : decode cX12_as 36 = .ok (.invokevirtual 202, 3) := by decide +kernel
theorem dX12_as_39 : decode cX12_as 39 = .ok (.iload_n 2, 1) := by decide +kernel
theorem dX12_as_40 : decode cX12_as 40 = .ok (.invokestatic 288, 3) := by decide +kernel
theorem dX12_as_43 : decode cX12_as 43 = .ok (.ifCond .eq 7, 3) := by decide +kernel
theorem dX12_as_46 : decode cX12_as 46 = .ok (.iload_n 1, 1) := by decide +kernel
theorem dX12_as_47 : decode cX12_as 47 = .ok (.goto 8, 3) := by decide +kernel
theorem dX12_as_50 : decode cX12_as 50 = .ok (.aload_n 0, 1) := by decide +kernel
theorem dX12_as_51 : decode cX12_as 51 = .ok (.iconst 3, 1) := by decide +kernel
theorem dX12_as_52 : decode cX12_as 52 = .ok (.invokevirtual 74, 3) := by decide +kernel
theorem dX12_as_55 : decode cX12_as 55 = .ok (.ireturn, 1) := by decide +kernel
theorem dX12_began_0 : decode cX12_began 0 = .ok (.aload_n 0, 1) := by decide +kernel
theorem dX12_began_1 : decode cX12_began 1 = .ok (.getfield 291, 3) := by decide +kernel
theorem dX12_began_4 : decode cX12_began 4 = .ok (.bipush 16, 2) := by decide +kernel
theorem dX12_began_6 : decode cX12_began 6 = .ok (.if_icmp .ge 23, 3) := by decide +kernel
theorem dX12_began_9 : decode cX12_began 9 = .ok (.aload_n 0, 1) := by decide +kernel
theorem dX12_began_10 : decode cX12_began 10 = .ok (.getfield 50, 3) := by decide +kernel
theorem dX12_began_13 : decode cX12_began 13 = .ok (.aload_n 0, 1) := by decide +kernel
theorem dX12_began_14 : decode cX12_began 14 = .ok (.getfield 291, 3) := by decide +kernel
theorem dX12_began_17 : decode cX12_began 17 = .ok (.iload_n 1, 1) := by decide +kernel
theorem dX12_began_18 : decode cX12_began 18 = .ok (.iastore, 1) := by decide +kernel
theorem dX12_began_19 : decode cX12_began 19 = .ok (.aload_n 0, 1) := by decide +kernel
theorem dX12_began_20 : decode cX12_began 20 = .ok (.dup, 1) := by decide +kernel
theorem dX12_began_21 : decode cX12_began 21 = .ok (.getfield 291, 3) := by decide +kernel
theorem dX12_began_24 : decode cX12_began 24 = .ok (.iconst 1, 1) := by decide +kernel
theorem dX12_began_25 : decode cX12_began 25 = .ok (.iadd, 1) := by decide +kernel
theorem dX12_began_26 : decode cX12_began 26 = .ok (.putfield 291, 3) := by decide +kernel
theorem dX12_began_29 : decode cX12_began 29 = .ok (.return_, 1) := by decide +kernel
theorem dX12_redMark_0 : decode cX12_redMark 0 = .ok (.aload_n 0, 1) := by decide +kernel
theorem dX12_redMark_1 : decode cX12_redMark 1 = .ok (.iload_n 1, 1) := by decide +kernel
theorem dX12_redMark_2 : decode cX12_redMark 2 = .ok (.iconst 0, 1) := by decide +kernel
theorem dX12_redMark_3 : decode cX12_redMark 3 = .ok (.invokevirtual 202, 3) := by decide +kernel
theorem dX12_redMark_6 : decode cX12_redMark 6 = .ok (.iconst 2, 1) := by decide +kernel
theorem dX12_redMark_7 : decode cX12_redMark 7 = .ok (.if_icmp .ne 9, 3) := by decide +kernel
theorem dX12_redMark_10 : decode cX12_redMark 10 = .ok (.aload_n 0, 1) := by decide +kernel
theorem dX12_redMark_11 : decode cX12_redMark 11 = .ok (.bipush 24, 2) := by decide +kernel
theorem dX12_redMark_13 : decode cX12_redMark 13 = .ok (.invokevirtual 294, 3) := by decide +kernel
theorem dX12_redMark_16 : decode cX12_redMark 16 = .ok (.aload_n 0, 1) := by decide +kernel
theorem dX12_redMark_17 : decode cX12_redMark 17 = .ok (.bipush 21, 2) := by decide +kernel
theorem dX12_redMark_19 : decode cX12_redMark 19 = .ok (.invokevirtual 294, 3) := by decide +kernel
theorem dX12_redMark_22 : decode cX12_redMark 22 = .ok (.aload_n 0, 1) := by decide +kernel
theorem dX12_redMark_23 : decode cX12_redMark 23 = .ok (.bipush 20, 2) := by decide +kernel
theorem dX12_redMark_25 : decode cX12_redMark 25 = .ok (.invokevirtual 294, 3) := by decide +kernel
theorem dX12_redMark_28 : decode cX12_redMark 28 = .ok (.iload_n 1, 1) := by decide +kernel
theorem dX12_redMark_29 : decode cX12_redMark 29 = .ok (.aload_n 0, 1) := by decide +kernel
theorem dX12_redMark_30 : decode cX12_redMark 30 = .ok (.iload_n 1, 1) := by decide +kernel
theorem dX12_redMark_31 : decode cX12_redMark 31 = .ok (.iconst 3, 1) := by decide +kernel
theorem dX12_redMark_32 : decode cX12_redMark 32 = .ok (.invokevirtual 202, 3) := by decide +kernel
theorem dX12_redMark_35 : decode cX12_redMark 35 = .ok (.iadd, 1) := by decide +kernel
theorem dX12_redMark_36 : decode cX12_redMark 36 = .ok (.istore_n 2, 1) := by decide +kernel
theorem dX12_redMark_37 : decode cX12_redMark 37 = .ok (.aload_n 0, 1) := by decide +kernel
theorem dX12_redMark_38 : decode cX12_redMark 38 = .ok (.iload_n 1, 1) := by decide +kernel
theorem dX12_redMark_39 : decode cX12_redMark 39 = .ok (.iconst 0, 1) := by decide +kernel
theorem dX12_redMark_40 : decode cX12_redMark 40 = .ok (.invokevirtual 202, 3) := by decide +kernel
theorem dX12_redMark_43 : decode cX12_redMark 43 = .ok (.iconst 2, 1) := by decide +kernel
theorem dX12_redMark_44 : decode cX12_redMark 44 = .ok (.if_icmp .ne 11, 3) := by decide +kernel
theorem dX12_redMark_47 : decode cX12_redMark 47 = .ok (.iload_n 2, 1) := by decide +kernel
theorem dX12_redMark_48 : decode cX12_redMark 48 = .ok (.sipush 1000, 3) := by decide +kernel
theorem dX12_redMark_51 : decode cX12_redMark 51 = .ok (.iadd, 1) := by decide +kernel
theorem dX12_redMark_52 : decode cX12_redMark 52 = .ok (.goto 4, 3) := by decide +kernel
theorem dX12_redMark_55 : decode cX12_redMark 55 = .ok (.iload_n 2, 1) := by decide +kernel
theorem dX12_redMark_56 : decode cX12_redMark 56 = .ok (.ireturn, 1) := by decide +kernel
theorem dX12_plainSize_0 : decode cX12_plainSize 0 = .ok (.aload_n 0, 1) := by decide +kernel
theorem dX12_plainSize_1 : decode cX12_plainSize 1 = .ok (.bipush 10, 2) := by decide +kernel
theorem dX12_plainSize_3 : decode cX12_plainSize 3 = .ok (.invokevirtual 294, 3) := by decide +kernel
theorem dX12_plainSize_6 : decode cX12_plainSize 6 = .ok (.aload_n 0, 1) := by decide +kernel
theorem dX12_plainSize_7 : decode cX12_plainSize 7 = .ok (.iload_n 1, 1) := by decide +kernel
theorem dX12_plainSize_8 : decode cX12_plainSize 8 = .ok (.iconst 2, 1) := by decide +kernel
theorem dX12_plainSize_9 : decode cX12_plainSize 9 = .ok (.invokevirtual 202, 3) := by decide +kernel
theorem dX12_plainSize_12 : decode cX12_plainSize 12 = .ok (.ireturn, 1) := by decide +kernel
theorem dX12_sizeOf_0 : decode cX12_sizeOf 0 = .ok (.aload_n 0, 1) := by decide +kernel
theorem dX12_sizeOf_1 : decode cX12_sizeOf 1 = .ok (.iload_n 1, 1) := by decide +kernel
theorem dX12_sizeOf_2 : decode cX12_sizeOf 2 = .ok (.iconst 0, 1) := by decide +kernel
theorem dX12_sizeOf_3 : decode cX12_sizeOf 3 = .ok (.invokevirtual 202, 3) := by decide +kernel
theorem dX12_sizeOf_6 : decode cX12_sizeOf 6 = .ok (.istore_n 2, 1) := by decide +kernel
theorem dX12_sizeOf_7 : decode cX12_sizeOf 7 = .ok (.iload_n 2, 1) := by decide +kernel
theorem dX12_sizeOf_8 : decode cX12_sizeOf 8 = .ok (.iconst 4, 1) := by decide +kernel
theorem dX12_sizeOf_9 : decode cX12_sizeOf 9 = .ok (.if_icmp .ne 9, 3) := by decide +kernel
theorem dX12_sizeOf_12 : decode cX12_sizeOf 12 = .ok (.aload_n 0, 1) := by decide +kernel
theorem dX12_sizeOf_13 : decode cX12_sizeOf 13 = .ok (.iload_n 1, 1) := by decide +kernel
theorem dX12_sizeOf_14 : decode cX12_sizeOf 14 = .ok (.invokevirtual 297, 3) := by decide +kernel
theorem dX12_sizeOf_17 : decode cX12_sizeOf 17 = .ok (.ireturn, 1) := by decide +kernel
theorem dX12_sizeOf_18 : decode cX12_sizeOf 18 = .ok (.iload_n 2, 1) := by decide +kernel
theorem dX12_sizeOf_19 : decode cX12_sizeOf 19 = .ok (.iconst 2, 1) := by decide +kernel
theorem dX12_sizeOf_20 : decode cX12_sizeOf 20 = .ok (.if_icmp .eq 8, 3) := by decide +kernel
theorem dX12_sizeOf_23 : decode cX12_sizeOf 23 = .ok (.iload_n 2, 1) := by decide +kernel
theorem dX12_sizeOf_24 : decode cX12_sizeOf 24 = .ok (.iconst 5, 1) := by decide +kernel
theorem dX12_sizeOf_25 : decode cX12_sizeOf 25 = .ok (.if_icmp .ne 19, 3) := by decide +kernel
theorem dX12_sizeOf_28 : decode cX12_sizeOf 28 = .ok (.aload_n 0, 1) := by decide +kernel
theorem dX12_sizeOf_29 : decode cX12_sizeOf 29 = .ok (.iload_n 2, 1) := by decide +kernel
theorem dX12_sizeOf_30 : decode cX12_sizeOf 30 = .ok (.iconst 2, 1) := by decide +kernel
theorem dX12_sizeOf_31 : decode cX12_sizeOf 31 = .ok (.if_icmp .ne 8, 3) := by decide +kernel
theorem dX12_sizeOf_34 : decode cX12_sizeOf 34 = .ok (.bipush 12, 2) := by decide +kernel
theorem dX12_sizeOf_36 : decode cX12_sizeOf 36 = .ok (.goto 5, 3) := by decide +kernel
theorem dX12_sizeOf_39 : decode cX12_sizeOf 39 = .ok (.bipush 14, 2) := by decide +kernel
theorem dX12_sizeOf_41 : decode cX12_sizeOf 41 = .ok (.invokevirtual 294, 3) := by decide +kernel
theorem dX12_sizeOf_44 : decode cX12_sizeOf 44 = .ok (.aload_n 0, 1) := by decide +kernel
theorem dX12_sizeOf_45 : decode cX12_sizeOf 45 = .ok (.aload_n 0, 1) := by decide +kernel
theorem dX12_sizeOf_46 : decode cX12_sizeOf 46 = .ok (.iload_n 1, 1) := by decide +kernel
theorem dX12_sizeOf_47 : decode cX12_sizeOf 47 = .ok (.invokevirtual 240, 3) := by decide +kernel
theorem dX12_sizeOf_50 : decode cX12_sizeOf 50 = .ok (.ifCond .eq 8, 3) := by decide +kernel
theorem dX12_sizeOf_53 : decode cX12_sizeOf 53 = .ok (.bipush 11, 2) := by decide +kernel
theorem dX12_sizeOf_55 : decode cX12_sizeOf 55 = .ok (.goto 5, 3) := by decide +kernel
theorem dX12_sizeOf_58 : decode cX12_sizeOf 58 = .ok (.bipush 13, 2) := by decide +kernel
theorem dX12_sizeOf_60 : decode cX12_sizeOf 60 = .ok (.invokevirtual 294, 3) := by decide +kernel
theorem dX12_sizeOf_63 : decode cX12_sizeOf 63 = .ok (.aload_n 0, 1) := by decide +kernel
theorem dX12_sizeOf_64 : decode cX12_sizeOf 64 = .ok (.iload_n 1, 1) := by decide +kernel
theorem dX12_sizeOf_65 : decode cX12_sizeOf 65 = .ok (.invokevirtual 297, 3) := by decide +kernel
theorem dX12_sizeOf_68 : decode cX12_sizeOf 68 = .ok (.istore_n 3, 1) := by decide +kernel
theorem dX12_sizeOf_69 : decode cX12_sizeOf 69 = .ok (.iload_n 3, 1) := by decide +kernel
theorem dX12_sizeOf_70 : decode cX12_sizeOf 70 = .ok (.aload_n 0, 1) := by decide +kernel
theorem dX12_sizeOf_71 : decode cX12_sizeOf 71 = .ok (.iload_n 1, 1) := by decide +kernel
theorem dX12_sizeOf_72 : decode cX12_sizeOf 72 = .ok (.invokevirtual 240, 3) := by decide +kernel
theorem dX12_sizeOf_75 : decode cX12_sizeOf 75 = .ok (.ifCond .eq 11, 3) := by decide +kernel
theorem dX12_sizeOf_78 : decode cX12_sizeOf 78 = .ok (.aload_n 0, 1) := by decide +kernel
theorem dX12_sizeOf_79 : decode cX12_sizeOf 79 = .ok (.iload_n 1, 1) := by decide +kernel
theorem dX12_sizeOf_80 : decode cX12_sizeOf 80 = .ok (.invokevirtual 300, 3) := by decide +kernel
theorem dX12_sizeOf_83 : decode cX12_sizeOf 83 = .ok (.goto 10, 3) := by decide +kernel
theorem dX12_sizeOf_86 : decode cX12_sizeOf 86 = .ok (.aload_n 0, 1) := by decide +kernel
theorem dX12_sizeOf_87 : decode cX12_sizeOf 87 = .ok (.iload_n 1, 1) := by decide +kernel
theorem dX12_sizeOf_88 : decode cX12_sizeOf 88 = .ok (.iconst 3, 1) := by decide +kernel
theorem dX12_sizeOf_89 : decode cX12_sizeOf 89 = .ok (.invokevirtual 202, 3) := by decide +kernel
theorem dX12_sizeOf_92 : decode cX12_sizeOf 92 = .ok (.ineg, 1) := by decide +kernel
theorem dX12_sizeOf_93 : decode cX12_sizeOf 93 = .ok (.iadd, 1) := by decide +kernel
theorem dX12_sizeOf_94 : decode cX12_sizeOf 94 = .ok (.istore_n 3, 1) := by decide +kernel
theorem dX12_sizeOf_95 : decode cX12_sizeOf 95 = .ok (.iload_n 2, 1) := by decide +kernel
theorem dX12_sizeOf_96 : decode cX12_sizeOf 96 = .ok (.iconst 2, 1) := by decide +kernel
theorem dX12_sizeOf_97 : decode cX12_sizeOf 97 = .ok (.if_icmp .ne 8, 3) := by decide +kernel
theorem dX12_sizeOf_100 : decode cX12_sizeOf 100 = .ok (.iload_n 3, 1) := by decide +kernel
theorem dX12_sizeOf_101 : decode cX12_sizeOf 101 = .ok (.ineg, 1) := by decide +kernel
theorem dX12_sizeOf_102 : decode cX12_sizeOf 102 = .ok (.goto 15, 3) := by decide +kernel
theorem dX12_sizeOf_105 : decode cX12_sizeOf 105 = .ok (.iload_n 2, 1) := by decide +kernel
theorem dX12_sizeOf_106 : decode cX12_sizeOf 106 = .ok (.iconst 5, 1) := by decide +kernel
theorem dX12_sizeOf_107 : decode cX12_sizeOf 107 = .ok (.if_icmp .ne 9, 3) := by decide +kernel
theorem dX12_sizeOf_110 : decode cX12_sizeOf 110 = .ok (.iconst 2, 1) := by decide +kernel
theorem dX12_sizeOf_111 : decode cX12_sizeOf 111 = .ok (.iload_n 3, 1) := by decide +kernel
theorem dX12_sizeOf_112 : decode cX12_sizeOf 112 = .ok (.imul, 1) := by decide +kernel
theorem dX12_sizeOf_113 : decode cX12_sizeOf 113 = .ok (.goto 4, 3) := by decide +kernel
theorem dX12_sizeOf_116 : decode cX12_sizeOf 116 = .ok (.iload_n 3, 1) := by decide +kernel
theorem dX12_sizeOf_117 : decode cX12_sizeOf 117 = .ok (.ireturn, 1) := by decide +kernel
theorem dX12_markOf_0 : decode cX12_markOf 0 = .ok (.aload_n 0, 1) := by decide +kernel
theorem dX12_markOf_1 : decode cX12_markOf 1 = .ok (.iload_n 1, 1) := by decide +kernel
theorem dX12_markOf_2 : decode cX12_markOf 2 = .ok (.iconst 0, 1) := by decide +kernel
theorem dX12_markOf_3 : decode cX12_markOf 3 = .ok (.invokevirtual 202, 3) := by decide +kernel
theorem dX12_markOf_6 : decode cX12_markOf 6 = .ok (.istore_n 2, 1) := by decide +kernel
theorem dX12_markOf_7 : decode cX12_markOf 7 = .ok (.aload_n 0, 1) := by decide +kernel
theorem dX12_markOf_8 : decode cX12_markOf 8 = .ok (.iload_n 1, 1) := by decide +kernel
theorem dX12_markOf_9 : decode cX12_markOf 9 = .ok (.invokevirtual 240, 3) := by decide +kernel
theorem dX12_markOf_12 : decode cX12_markOf 12 = .ok (.ifCond .eq 9, 3) := by decide +kernel
theorem dX12_markOf_15 : decode cX12_markOf 15 = .ok (.aload_n 0, 1) := by decide +kernel
theorem dX12_markOf_16 : decode cX12_markOf 16 = .ok (.iload_n 1, 1) := by decide +kernel
theorem dX12_markOf_17 : decode cX12_markOf 17 = .ok (.invokevirtual 300, 3) := by decide +kernel
theorem dX12_markOf_20 : decode cX12_markOf 20 = .ok (.ireturn, 1) := by decide +kernel
theorem dX12_markOf_21 : decode cX12_markOf 21 = .ok (.iload_n 2, 1) := by decide +kernel
theorem dX12_markOf_22 : decode cX12_markOf 22 = .ok (.iconst 3, 1) := by decide +kernel
theorem dX12_markOf_23 : decode cX12_markOf 23 = .ok (.if_icmp .eq 19, 3) := by decide +kernel
theorem dX12_markOf_26 : decode cX12_markOf 26 = .ok (.aload_n 0, 1) := by decide +kernel
theorem dX12_markOf_27 : decode cX12_markOf 27 = .ok (.iload_n 2, 1) := by decide +kernel
theorem dX12_markOf_28 : decode cX12_markOf 28 = .ok (.iconst 4, 1) := by decide +kernel
theorem dX12_markOf_29 : decode cX12_markOf 29 = .ok (.if_icmp .ne 8, 3) := by decide +kernel
theorem dX12_markOf_32 : decode cX12_markOf 32 = .ok (.bipush 22, 2) := by decide +kernel
theorem dX12_markOf_34 : decode cX12_markOf 34 = .ok (.goto 5, 3) := by decide +kernel
theorem dX12_markOf_37 : decode cX12_markOf 37 = .ok (.bipush 23, 2) := by decide +kernel
theorem dX12_markOf_39 : decode cX12_markOf 39 = .ok (.invokevirtual 294, 3) := by decide +kernel
theorem dX12_markOf_42 : decode cX12_markOf 42 = .ok (.aload_n 0, 1) := by decide +kernel
theorem dX12_markOf_43 : decode cX12_markOf 43 = .ok (.bipush 20, 2) := by decide +kernel
theorem dX12_markOf_45 : decode cX12_markOf 45 = .ok (.invokevirtual 294, 3) := by decide +kernel
theorem dX12_markOf_48 : decode cX12_markOf 48 = .ok (.iload_n 2, 1) := by decide +kernel
theorem dX12_markOf_49 : decode cX12_markOf 49 = .ok (.iconst 3, 1) := by decide +kernel
theorem dX12_markOf_50 : decode cX12_markOf 50 = .ok (.if_icmp .ne 7, 3) := by decide +kernel
theorem dX12_markOf_53 : decode cX12_markOf 53 = .ok (.iload_n 1, 1) := by decide +kernel
theorem dX12_markOf_54 : decode cX12_markOf 54 = .ok (.goto 28, 3) := by decide +kernel
theorem dX12_markOf_57 : decode cX12_markOf 57 = .ok (.iload_n 2, 1) := by decide +kernel
theorem dX12_markOf_58 : decode cX12_markOf 58 = .ok (.iconst 4, 1) := by decide +kernel
theorem dX12_markOf_59 : decode cX12_markOf 59 = .ok (.if_icmp .ne 13, 3) := by decide +kernel
theorem dX12_markOf_62 : decode cX12_markOf 62 = .ok (.iload_n 1, 1) := by decide +kernel
theorem dX12_markOf_63 : decode cX12_markOf 63 = .ok (.aload_n 0, 1) := by decide +kernel
theorem dX12_markOf_64 : decode cX12_markOf 64 = .ok (.iload_n 1, 1) := by decide +kernel
theorem dX12_markOf_65 : decode cX12_markOf 65 = .ok (.invokevirtual 303, 3) := by decide +kernel
theorem dX12_markOf_68 : decode cX12_markOf 68 = .ok (.isub, 1) := by decide +kernel
theorem dX12_markOf_69 : decode cX12_markOf 69 = .ok (.goto 13, 3) := by decide +kernel
theorem dX12_markOf_72 : decode cX12_markOf 72 = .ok (.iload_n 1, 1) := by decide +kernel
theorem dX12_markOf_73 : decode cX12_markOf 73 = .ok (.bipush 10, 2) := by decide +kernel
theorem dX12_markOf_75 : decode cX12_markOf 75 = .ok (.aload_n 0, 1) := by decide +kernel
theorem dX12_markOf_76 : decode cX12_markOf 76 = .ok (.iload_n 1, 1) := by decide +kernel
theorem dX12_markOf_77 : decode cX12_markOf 77 = .ok (.invokevirtual 303, 3) := by decide +kernel
theorem dX12_markOf_80 : decode cX12_markOf 80 = .ok (.imul, 1) := by decide +kernel
theorem dX12_markOf_81 : decode cX12_markOf 81 = .ok (.iadd, 1) := by decide +kernel
