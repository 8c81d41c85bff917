theorem dL_holds_85 : decode cL_holds 85 = .ok (.ifCond .le 10, 3) := by decide +kernel
theorem dL_holds_88 : decode cL_holds 88 = .ok (.iconst 1, 1) := by decide +kernel
theorem dL_holds_89 : decode cL_holds 89 = .ok (.iload 6, 2) := by decide +kernel
theorem dL_holds_91 : decode cL_holds 91 = .ok (.ishl, 1) := by decide +kernel
theorem dL_holds_92 : decode cL_holds 92 = .ok (.goto 4, 3) := by decide +kernel
theorem dL_holds_95 : decode cL_holds 95 = .ok (.iconst 0, 1) := by decide +kernel
theorem dL_holds_96 : decode cL_holds 96 = .ok (.ior, 1) := by decide +kernel
theorem dL_holds_97 : decode cL_holds 97 = .ok (.istore_n 3, 1) := by decide +kernel
theorem dL_holds_98 : decode cL_holds 98 = .ok (.iload 4, 2) := by decide +kernel
theorem dL_holds_100 : decode cL_holds 100 = .ok (.aload_n 0, 1) := by decide +kernel
theorem dL_holds_101 : decode cL_holds 101 = .ok (.iload 6, 2) := by decide +kernel
theorem dL_holds_103 : decode cL_holds 103 = .ok (.iconst 4, 1) := by decide +kernel
theorem dL_holds_104 : decode cL_holds 104 = .ok (.invokevirtual 39, 3) := by decide +kernel
theorem dL_holds_107 : decode cL_holds 107 = .ok (.iload 6, 2) := by decide +kernel
theorem dL_holds_109 : decode cL_holds 109 = .ok (.ishl, 1) := by decide +kernel
theorem dL_holds_110 : decode cL_holds 110 = .ok (.ior, 1) := by decide +kernel
theorem dL_holds_111 : decode cL_holds 111 = .ok (.istore 4, 2) := by decide +kernel
theorem dL_holds_113 : decode cL_holds 113 = .ok (.iload_n 2, 1) := by decide +kernel
theorem dL_holds_114 : decode cL_holds 114 = .ok (.aload_n 0, 1) := by decide +kernel
theorem dL_holds_115 : decode cL_holds 115 = .ok (.iload 6, 2) := by decide +kernel
theorem dL_holds_117 : decode cL_holds 117 = .ok (.iconst 4, 1) := by decide +kernel
theorem dL_holds_118 : decode cL_holds 118 = .ok (.invokevirtual 39, 3) := by decide +kernel
theorem dL_holds_121 : decode cL_holds 121 = .ok (.ifCond .ne 14, 3) := by decide +kernel
theorem dL_holds_124 : decode cL_holds 124 = .ok (.aload_n 0, 1) := by decide +kernel
theorem dL_holds_125 : decode cL_holds 125 = .ok (.iload 6, 2) := by decide +kernel
theorem dL_holds_127 : decode cL_holds 127 = .ok (.bipush 8, 2) := by decide +kernel
theorem dL_holds_129 : decode cL_holds 129 = .ok (.invokevirtual 39, 3) := by decide +kernel
theorem dL_holds_132 : decode cL_holds 132 = .ok (.goto 4, 3) := by decide +kernel
theorem dL_holds_135 : decode cL_holds 135 = .ok (.iconst 0, 1) := by decide +kernel
theorem dL_holds_136 : decode cL_holds 136 = .ok (.iadd, 1) := by decide +kernel
theorem dL_holds_137 : decode cL_holds 137 = .ok (.istore_n 2, 1) := by decide +kernel
theorem dL_holds_138 : decode cL_holds 138 = .ok (.aload_n 0, 1) := by decide +kernel
theorem dL_holds_139 : decode cL_holds 139 = .ok (.iload 6, 2) := by decide +kernel
theorem dL_holds_141 : decode cL_holds 141 = .ok (.invokestatic 66, 3) := by decide +kernel
theorem dL_holds_144 : decode cL_holds 144 = .ok (.istore 5, 2) := by decide +kernel
theorem dL_holds_146 : decode cL_holds 146 = .ok (.iinc 6 1, 3) := by decide +kernel
theorem dL_holds_149 : decode cL_holds 149 = .ok (.goto (-134), 3) := by decide +kernel
theorem dL_holds_152 : decode cL_holds 152 = .ok (.iload 5, 2) := by decide +kernel
theorem dL_holds_154 : decode cL_holds 154 = .ok (.ifCond .eq 60, 3) := by decide +kernel
theorem dL_holds_157 : decode cL_holds 157 = .ok (.aload_n 0, 1) := by decide +kernel
theorem dL_holds_158 : decode cL_holds 158 = .ok (.iconst 1, 1) := by decide +kernel
theorem dL_holds_159 : decode cL_holds 159 = .ok (.invokevirtual 43, 3) := by decide +kernel
theorem dL_holds_162 : decode cL_holds 162 = .ok (.aload_n 0, 1) := by decide +kernel
theorem dL_holds_163 : decode cL_holds 163 = .ok (.iconst 3, 1) := by decide +kernel
theorem dL_holds_164 : decode cL_holds 164 = .ok (.invokevirtual 43, 3) := by decide +kernel
theorem dL_holds_167 : decode cL_holds 167 = .ok (.invokestatic 70, 3) := by decide +kernel
theorem dL_holds_170 : decode cL_holds 170 = .ok (.if_icmp .ne 44, 3) := by decide +kernel
theorem dL_holds_173 : decode cL_holds 173 = .ok (.aload_n 0, 1) := by decide +kernel
theorem dL_holds_174 : decode cL_holds 174 = .ok (.iconst 4, 1) := by decide +kernel
theorem dL_holds_175 : decode cL_holds 175 = .ok (.invokevirtual 43, 3) := by decide +kernel
theorem dL_holds_178 : decode cL_holds 178 = .ok (.iload 4, 2) := by decide +kernel
theorem dL_holds_180 : decode cL_holds 180 = .ok (.if_icmp .ne 34, 3) := by decide +kernel
theorem dL_holds_183 : decode cL_holds 183 = .ok (.aload_n 0, 1) := by decide +kernel
theorem dL_holds_184 : decode cL_holds 184 = .ok (.iconst 5, 1) := by decide +kernel
theorem dL_holds_185 : decode cL_holds 185 = .ok (.invokevirtual 43, 3) := by decide +kernel
theorem dL_holds_188 : decode cL_holds 188 = .ok (.iload_n 3, 1) := by decide +kernel
theorem dL_holds_189 : decode cL_holds 189 = .ok (.if_icmp .ne 25, 3) := by decide +kernel
theorem dL_holds_192 : decode cL_holds 192 = .ok (.aload_n 0, 1) := by decide +kernel
theorem dL_holds_193 : decode cL_holds 193 = .ok (.bipush 12, 2) := by decide +kernel
theorem dL_holds_195 : decode cL_holds 195 = .ok (.invokevirtual 43, 3) := by decide +kernel
theorem dL_holds_198 : decode cL_holds 198 = .ok (.iload_n 1, 1) := by decide +kernel
theorem dL_holds_199 : decode cL_holds 199 = .ok (.if_icmp .ne 15, 3) := by decide +kernel
theorem dL_holds_202 : decode cL_holds 202 = .ok (.aload_n 0, 1) := by decide +kernel
theorem dL_holds_203 : decode cL_holds 203 = .ok (.invokevirtual 73, 3) := by decide +kernel
theorem dL_holds_206 : decode cL_holds 206 = .ok (.iload_n 2, 1) := by decide +kernel
theorem dL_holds_207 : decode cL_holds 207 = .ok (.if_icmp .ne 7, 3) := by decide +kernel
theorem dL_holds_210 : decode cL_holds 210 = .ok (.iconst 1, 1) := by decide +kernel
theorem dL_holds_211 : decode cL_holds 211 = .ok (.goto 4, 3) := by decide +kernel
theorem dL_holds_214 : decode cL_holds 214 = .ok (.iconst 0, 1) := by decide +kernel
theorem dL_holds_215 : decode cL_holds 215 = .ok (.istore 5, 2) := by decide +kernel
theorem dL_holds_217 : decode cL_holds 217 = .ok (.iload 5, 2) := by decide +kernel
theorem dL_holds_219 : decode cL_holds 219 = .ok (.ifCond .eq 43, 3) := by decide +kernel
theorem dL_holds_222 : decode cL_holds 222 = .ok (.aload_n 0, 1) := by decide +kernel
theorem dL_holds_223 : decode cL_holds 223 = .ok (.bipush 7, 2) := by decide +kernel
theorem dL_holds_225 : decode cL_holds 225 = .ok (.invokevirtual 43, 3) := by decide +kernel
theorem dL_holds_228 : decode cL_holds 228 = .ok (.aload_n 0, 1) := by decide +kernel
theorem dL_holds_229 : decode cL_holds 229 = .ok (.bipush 6, 2) := by decide +kernel
theorem dL_holds_231 : decode cL_holds 231 = .ok (.invokevirtual 43, 3) := by decide +kernel
theorem dL_holds_234 : decode cL_holds 234 = .ok (.aload_n 0, 1) := by decide +kernel
theorem dL_holds_235 : decode cL_holds 235 = .ok (.bipush 8, 2) := by decide +kernel
theorem dL_holds_237 : decode cL_holds 237 = .ok (.invokevirtual 43, 3) := by decide +kernel
theorem dL_holds_240 : decode cL_holds 240 = .ok (.iadd, 1) := by decide +kernel
theorem dL_holds_241 : decode cL_holds 241 = .ok (.aload_n 0, 1) := by decide +kernel
theorem dL_holds_242 : decode cL_holds 242 = .ok (.bipush 9, 2) := by decide +kernel
theorem dL_holds_244 : decode cL_holds 244 = .ok (.invokevirtual 43, 3) := by decide +kernel
theorem dL_holds_247 : decode cL_holds 247 = .ok (.iadd, 1) := by decide +kernel
theorem dL_holds_248 : decode cL_holds 248 = .ok (.aload_n 0, 1) := by decide +kernel
theorem dL_holds_249 : decode cL_holds 249 = .ok (.bipush 10, 2) := by decide +kernel
theorem dL_holds_251 : decode cL_holds 251 = .ok (.invokevirtual 43, 3) := by decide +kernel
theorem dL_holds_254 : decode cL_holds 254 = .ok (.iadd, 1) := by decide +kernel
theorem dL_holds_255 : decode cL_holds 255 = .ok (.if_icmp .ne 7, 3) := by decide +kernel
theorem dL_holds_258 : decode cL_holds 258 = .ok (.iconst 1, 1) := by decide +kernel
theorem dL_holds_259 : decode cL_holds 259 = .ok (.goto 4, 3) := by decide +kernel
theorem dL_holds_262 : decode cL_holds 262 = .ok (.iconst 0, 1) := by decide +kernel
theorem dL_holds_263 : decode cL_holds 263 = .ok (.ireturn, 1) := by decide +kernel
theorem dL_asks_0 : decode cL_asks 0 = .ok (.aload_n 0, 1) := by decide +kernel
theorem dL_asks_1 : decode cL_asks 1 = .ok (.iload_n 1, 1) := by decide +kernel
theorem dL_asks_2 : decode cL_asks 2 = .ok (.iload_n 2, 1) := by decide +kernel
theorem dL_asks_3 : decode cL_asks 3 = .ok (.iconst 0, 1) := by decide +kernel
theorem dL_asks_4 : decode cL_asks 4 = .ok (.invokevirtual 61, 3) := by decide +kernel
theorem dL_asks_7 : decode cL_asks 7 = .ok (.istore_n 3, 1) := by decide +kernel
theorem dL_asks_8 : decode cL_asks 8 = .ok (.aload_n 0, 1) := by decide +kernel
theorem dL_asks_9 : decode cL_asks 9 = .ok (.iload_n 1, 1) := by decide +kernel
theorem dL_asks_10 : decode cL_asks 10 = .ok (.iload_n 2, 1) := by decide +kernel
theorem dL_asks_11 : decode cL_asks 11 = .ok (.iconst 1, 1) := by decide +kernel
theorem dL_asks_12 : decode cL_asks 12 = .ok (.invokevirtual 61, 3) := by decide +kernel
theorem dL_asks_15 : decode cL_asks 15 = .ok (.iload_n 3, 1) := by decide +kernel
theorem dL_asks_16 : decode cL_asks 16 = .ok (.if_icmp .ne 46, 3) := by decide +kernel
theorem dL_asks_19 : decode cL_asks 19 = .ok (.aload_n 0, 1) := by decide +kernel
theorem dL_asks_20 : decode cL_asks 20 = .ok (.iload_n 1, 1) := by decide +kernel
theorem dL_asks_21 : decode cL_asks 21 = .ok (.iconst 0, 1) := by decide +kernel
theorem dL_asks_22 : decode cL_asks 22 = .ok (.invokevirtual 39, 3) := by decide +kernel
theorem dL_asks_25 : decode cL_asks 25 = .ok (.iconst 4, 1) := by decide +kernel
theorem dL_asks_26 : decode cL_asks 26 = .ok (.if_icmp .lt 32, 3) := by decide +kernel
theorem dL_asks_29 : decode cL_asks 29 = .ok (.iload_n 3, 1) := by decide +kernel
theorem dL_asks_30 : decode cL_asks 30 = .ok (.aload_n 0, 1) := by decide +kernel
theorem dL_asks_31 : decode cL_asks 31 = .ok (.aload_n 0, 1) := by decide +kernel
theorem dL_asks_32 : decode cL_asks 32 = .ok (.iload_n 1, 1) := by decide +kernel
theorem dL_asks_33 : decode cL_asks 33 = .ok (.iconst 2, 1) := by decide +kernel
theorem dL_asks_34 : decode cL_asks 34 = .ok (.invokevirtual 39, 3) := by decide +kernel
theorem dL_asks_37 : decode cL_asks 37 = .ok (.iload_n 2, 1) := by decide +kernel
theorem dL_asks_38 : decode cL_asks 38 = .ok (.iconst 0, 1) := by decide +kernel
theorem dL_asks_39 : decode cL_asks 39 = .ok (.invokevirtual 61, 3) := by decide +kernel
theorem dL_asks_42 : decode cL_asks 42 = .ok (.aload_n 0, 1) := by decide +kernel
theorem dL_asks_43 : decode cL_asks 43 = .ok (.aload_n 0, 1) := by decide +kernel
theorem dL_asks_44 : decode cL_asks 44 = .ok (.iload_n 1, 1) := by decide +kernel
theorem dL_asks_45 : decode cL_asks 45 = .ok (.iconst 3, 1) := by decide +kernel
theorem dL_asks_46 : decode cL_asks 46 = .ok (.invokevirtual 39, 3) := by decide +kernel
theorem dL_asks_49 : decode cL_asks 49 = .ok (.iload_n 2, 1) := by decide +kernel
theorem dL_asks_50 : decode cL_asks 50 = .ok (.iconst 1, 1) := by decide +kernel
theorem dL_asks_51 : decode cL_asks 51 = .ok (.invokevirtual 61, 3) := by decide +kernel
theorem dL_asks_54 : decode cL_asks 54 = .ok (.isub, 1) := by decide +kernel
theorem dL_asks_55 : decode cL_asks 55 = .ok (.if_icmp .ne 7, 3) := by decide +kernel
theorem dL_asks_58 : decode cL_asks 58 = .ok (.iconst 1, 1) := by decide +kernel
theorem dL_asks_59 : decode cL_asks 59 = .ok (.goto 4, 3) := by decide +kernel
theorem dL_asks_62 : decode cL_asks 62 = .ok (.iconst 0, 1) := by decide +kernel
theorem dL_asks_63 : decode cL_asks 63 = .ok (.istore 4, 2) := by decide +kernel
theorem dL_asks_65 : decode cL_asks 65 = .ok (.aload_n 0, 1) := by decide +kernel
theorem dL_asks_66 : decode cL_asks 66 = .ok (.iload_n 1, 1) := by decide +kernel
theorem dL_asks_67 : decode cL_asks 67 = .ok (.invokevirtual 76, 3) := by decide +kernel
theorem dL_asks_70 : decode cL_asks 70 = .ok (.istore 5, 2) := by decide +kernel
theorem dL_asks_72 : decode cL_asks 72 = .ok (.aload_n 0, 1) := by decide +kernel
theorem dL_asks_73 : decode cL_asks 73 = .ok (.iload_n 1, 1) := by decide +kernel
theorem dL_asks_74 : decode cL_asks 74 = .ok (.aload_n 0, 1) := by decide +kernel
theorem dL_asks_75 : decode cL_asks 75 = .ok (.iconst 0, 1) := by decide +kernel
theorem dL_asks_76 : decode cL_asks 76 = .ok (.invokevirtual 43, 3) := by decide +kernel
theorem dL_asks_79 : decode cL_asks 79 = .ok (.iconst 0, 1) := by decide +kernel
theorem dL_asks_80 : decode cL_asks 80 = .ok (.invokevirtual 61, 3) := by decide +kernel
theorem dL_asks_83 : decode cL_asks 83 = .ok (.istore 6, 2) := by decide +kernel
theorem dL_asks_85 : decode cL_asks 85 = .ok (.iload 4, 2) := by decide +kernel
theorem dL_asks_87 : decode cL_asks 87 = .ok (.ifCond .eq 67, 3) := by decide +kernel
theorem dL_asks_90 : decode cL_asks 90 = .ok (.iload 5, 2) := by decide +kernel
theorem dL_asks_92 : decode cL_asks 92 = .ok (.ifCond .lt 62, 3) := by decide +kernel
theorem dL_asks_95 : decode cL_asks 95 = .ok (.iload 5, 2) := by decide +kernel
theorem dL_asks_97 : decode cL_asks 97 = .ok (.aload_n 0, 1) := by decide +kernel
theorem dL_asks_98 : decode cL_asks 98 = .ok (.iconst 0, 1) := by decide +kernel
theorem dL_asks_99 : decode cL_asks 99 = .ok (.invokevirtual 43, 3) := by decide +kernel
theorem dL_asks_102 : decode cL_asks 102 = .ok (.if_icmp .gt 52, 3) := by decide +kernel
theorem dL_asks_105 : decode cL_asks 105 = .ok (.aload_n 0, 1) := by decide +kernel
theorem dL_asks_106 : decode cL_asks 106 = .ok (.iload_n 1, 1) := by decide +kernel
theorem dL_asks_107 : decode cL_asks 107 = .ok (.iload 5, 2) := by decide +kernel
theorem dL_asks_109 : decode cL_asks 109 = .ok (.iconst 0, 1) := by decide +kernel
theorem dL_asks_110 : decode cL_asks 110 = .ok (.invokevirtual 61, 3) := by decide +kernel
theorem dL_asks_113 : decode cL_asks 113 = .ok (.iload 6, 2) := by decide +kernel
theorem dL_asks_115 : decode cL_asks 115 = .ok (.if_icmp .ne 39, 3) := by decide +kernel
theorem dL_asks_118 : decode cL_asks 118 = .ok (.iload 5, 2) := by decide +kernel
theorem dL_asks_120 : decode cL_asks 120 = .ok (.ifCond .eq 18, 3) := by decide +kernel
theorem dL_asks_123 : decode cL_asks 123 = .ok (.aload_n 0, 1) := by decide +kernel
theorem dL_asks_124 : decode cL_asks 124 = .ok (.iload_n 1, 1) := by decide +kernel
theorem dL_asks_125 : decode cL_asks 125 = .ok (.iload 5, 2) := by decide +kernel
theorem dL_asks_127 : decode cL_asks 127 = .ok (.iconst 1, 1) := by decide +kernel
theorem dL_asks_128 : decode cL_asks 128 = .ok (.isub, 1) := by decide +kernel
theorem dL_asks_129 : decode cL_asks 129 = .ok (.iconst 0, 1) := by decide +kernel
theorem dL_asks_130 : decode cL_asks 130 = .ok (.invokevirtual 61, 3) := by decide +kernel
theorem dL_asks_133 : decode cL_asks 133 = .ok (.iload 6, 2) := by decide +kernel
theorem dL_asks_135 : decode cL_asks 135 = .ok (.if_icmp .eq 19, 3) := by decide +kernel
theorem dL_asks_138 : decode cL_asks 138 = .ok (.iload_n 2, 1) := by decide +kernel
theorem dL_asks_139 : decode cL_asks 139 = .ok (.iload 5, 2) := by decide +kernel
theorem dL_asks_141 : decode cL_asks 141 = .ok (.if_icmp .lt 9, 3) := by decide +kernel
theorem dL_asks_144 : decode cL_asks 144 = .ok (.iload_n 3, 1) := by decide +kernel
theorem dL_asks_145 : decode cL_asks 145 = .ok (.iload 6, 2) := by decide +kernel
theorem dL_asks_147 : decode cL_asks 147 = .ok (.if_icmp .ne 7, 3) := by decide +kernel
theorem dL_asks_150 : decode cL_asks 150 = .ok (.iconst 1, 1) := by decide +kernel
theorem dL_asks_151 : decode cL_asks 151 = .ok (.goto 4, 3) := by decide +kernel
theorem dL_asks_154 : decode cL_asks 154 = .ok (.iconst 0, 1) := by decide +kernel
theorem dL_asks_155 : decode cL_asks 155 = .ok (.ireturn, 1) := by decide +kernel
theorem dL_ticks_0 : decode cL_ticks 0 = .ok (.iconst 0, 1) := by decide +kernel
theorem dL_ticks_1 : decode cL_ticks 1 = .ok (.istore_n 1, 1) := by decide +kernel
theorem dL_ticks_2 : decode cL_ticks 2 = .ok (.aload_n 0, 1) := by decide +kernel
theorem dL_ticks_3 : decode cL_ticks 3 = .ok (.bipush 12, 2) := by decide +kernel
theorem dL_ticks_5 : decode cL_ticks 5 = .ok (.invokevirtual 43, 3) := by decide +kernel
theorem dL_ticks_8 : decode cL_ticks 8 = .ok (.aload_n 0, 1) := by decide +kernel
theorem dL_ticks_9 : decode cL_ticks 9 = .ok (.bipush 11, 2) := by decide +kernel
theorem dL_ticks_11 : decode cL_ticks 11 = .ok (.invokevirtual 43, 3) := by decide +kernel
theorem dL_ticks_14 : decode cL_ticks 14 = .ok (.iadd, 1) := by decide +kernel
theorem dL_ticks_15 : decode cL_ticks 15 = .ok (.istore_n 2, 1) := by decide +kernel
theorem dL_ticks_16 : decode cL_ticks 16 = .ok (.aload_n 0, 1) := by decide +kernel
theorem dL_ticks_17 : decode cL_ticks 17 = .ok (.iconst 4, 1) := by decide +kernel
theorem dL_ticks_18 : decode cL_ticks 18 = .ok (.invokevirtual 43, 3) := by decide +kernel
theorem dL_ticks_21 : decode cL_ticks 21 = .ok (.istore_n 3, 1) := by decide +kernel
theorem dL_ticks_22 : decode cL_ticks 22 = .ok (.iconst 0, 1) := by decide +kernel
theorem dL_ticks_23 : decode cL_ticks 23 = .ok (.istore 4, 2) := by decide +kernel
theorem dL_ticks_25 : decode cL_ticks 25 = .ok (.iconst 0, 1) := by decide +kernel
theorem dL_ticks_26 : decode cL_ticks 26 = .ok (.istore 5, 2) := by decide +kernel
theorem dL_ticks_28 : decode cL_ticks 28 = .ok (.iload 5, 2) := by decide +kernel
theorem dL_ticks_30 : decode cL_ticks 30 = .ok (.aload_n 0, 1) := by decide +kernel
theorem dL_ticks_31 : decode cL_ticks 31 = .ok (.iconst 2, 1) := by decide +kernel
theorem dL_ticks_32 : decode cL_ticks 32 = .ok (.invokevirtual 43, 3) := by decide +kernel
theorem dL_ticks_35 : decode cL_ticks 35 = .ok (.if_icmp .ge 65, 3) := by decide +kernel
theorem dL_ticks_38 : decode cL_ticks 38 = .ok (.aload_n 0, 1) := by decide +kernel
theorem dL_ticks_39 : decode cL_ticks 39 = .ok (.iconst 3, 1) := by decide +kernel
theorem dL_ticks_40 : decode cL_ticks 40 = .ok (.invokevirtual 43, 3) := by decide +kernel
theorem dL_ticks_43 : decode cL_ticks 43 = .ok (.iload 5, 2) := by decide +kernel
theorem dL_ticks_45 : decode cL_ticks 45 = .ok (.invokestatic 49, 3) := by decide +kernel
theorem dL_ticks_48 : decode cL_ticks 48 = .ok (.ifCond .eq 46, 3) := by decide +kernel
theorem dL_ticks_51 : decode cL_ticks 51 = .ok (.iload_n 3, 1) := by decide +kernel
theorem dL_ticks_52 : decode cL_ticks 52 = .ok (.iload 5, 2) := by decide +kernel
theorem dL_ticks_54 : decode cL_ticks 54 = .ok (.invokestatic 49, 3) := by decide +kernel
theorem dL_ticks_57 : decode cL_ticks 57 = .ok (.ifCond .ne 37, 3) := by decide +kernel
theorem dL_ticks_60 : decode cL_ticks 60 = .ok (.iload_n 1, 1) := by decide +kernel
theorem dL_ticks_61 : decode cL_ticks 61 = .ok (.aload_n 0, 1) := by decide +kernel
theorem dL_ticks_62 : decode cL_ticks 62 = .ok (.iload 5, 2) := by decide +kernel
theorem dL_ticks_64 : decode cL_ticks 64 = .ok (.bipush 6, 2) := by decide +kernel
theorem dL_ticks_66 : decode cL_ticks 66 = .ok (.invokevirtual 39, 3) := by decide +kernel
theorem dL_ticks_69 : decode cL_ticks 69 = .ok (.iadd, 1) := by decide +kernel
theorem dL_ticks_70 : decode cL_ticks 70 = .ok (.istore_n 1, 1) := by decide +kernel
theorem dL_ticks_71 : decode cL_ticks 71 = .ok (.iload 4, 2) := by decide +kernel
theorem dL_ticks_73 : decode cL_ticks 73 = .ok (.aload_n 0, 1) := by decide +kernel
theorem dL_ticks_74 : decode cL_ticks 74 = .ok (.iload 5, 2) := by decide +kernel
theorem dL_ticks_76 : decode cL_ticks 76 = .ok (.invokevirtual 58, 3) := by decide +kernel
theorem dL_ticks_79 : decode cL_ticks 79 = .ok (.iconst 1, 1) := by decide +kernel
theorem dL_ticks_80 : decode cL_ticks 80 = .ok (.if_icmp .ne 10, 3) := by decide +kernel
theorem dL_ticks_83 : decode cL_ticks 83 = .ok (.iconst 1, 1) := by decide +kernel
theorem dL_ticks_84 : decode cL_ticks 84 = .ok (.iload 5, 2) := by decide +kernel
theorem dL_ticks_86 : decode cL_ticks 86 = .ok (.ishl, 1) := by decide +kernel
theorem dL_ticks_87 : decode cL_ticks 87 = .ok (.goto 4, 3) := by decide +kernel
theorem dL_ticks_90 : decode cL_ticks 90 = .ok (.iconst 0, 1) := by decide +kernel
theorem dL_ticks_91 : decode cL_ticks 91 = .ok (.ior, 1) := by decide +kernel
theorem dL_ticks_92 : decode cL_ticks 92 = .ok (.istore 4, 2) := by decide +kernel
theorem dL_ticks_94 : decode cL_ticks 94 = .ok (.iinc 5 1, 3) := by decide +kernel
theorem dL_ticks_97 : decode cL_ticks 97 = .ok (.goto (-69), 3) := by decide +kernel
theorem dL_ticks_100 : decode cL_ticks 100 = .ok (.aload_n 0, 1) := by decide +kernel
theorem dL_ticks_101 : decode cL_ticks 101 = .ok (.bipush 6, 2) := by decide +kernel
theorem dL_ticks_103 : decode cL_ticks 103 = .ok (.invokevirtual 43, 3) := by decide +kernel
theorem dL_ticks_106 : decode cL_ticks 106 = .ok (.istore 5, 2) := by decide +kernel
theorem dL_ticks_108 : decode cL_ticks 108 = .ok (.aload_n 0, 1) := by decide +kernel
theorem dL_ticks_109 : decode cL_ticks 109 = .ok (.bipush 17, 2) := by decide +kernel
theorem dL_ticks_111 : decode cL_ticks 111 = .ok (.invokevirtual 43, 3) := by decide +kernel
theorem dL_ticks_114 : decode cL_ticks 114 = .ok (.istore 6, 2) := by decide +kernel
theorem dL_ticks_116 : decode cL_ticks 116 = .ok (.aload_n 0, 1) := by decide +kernel
theorem dL_ticks_117 : decode cL_ticks 117 = .ok (.invokevirtual 79, 3) := by decide +kernel
theorem dL_ticks_120 : decode cL_ticks 120 = .ok (.istore 7, 2) := by decide +kernel
theorem dL_ticks_122 : decode cL_ticks 122 = .ok (.iload 5, 2) := by decide +kernel
theorem dL_ticks_124 : decode cL_ticks 124 = .ok (.aload_n 0, 1) := by decide +kernel
theorem dL_ticks_125 : decode cL_ticks 125 = .ok (.bipush 20, 2) := by decide +kernel
theorem dL_ticks_127 : decode cL_ticks 127 = .ok (.invokevirtual 43, 3) := by decide +kernel
theorem dL_ticks_130 : decode cL_ticks 130 = .ok (.iadd, 1) := by decide +kernel
theorem dL_ticks_131 : decode cL_ticks 131 = .ok (.sipush 9999, 3) := by decide +kernel
theorem dL_ticks_134 : decode cL_ticks 134 = .ok (.if_icmp .le 27, 3) := by decide +kernel
theorem dL_ticks_137 : decode cL_ticks 137 = .ok (.iload 7, 2) := by decide +kernel
theorem dL_ticks_139 : decode cL_ticks 139 = .ok (.ldc 82, 2) := by decide +kernel
theorem dL_ticks_141 : decode cL_ticks 141 = .ok (.if_icmp .ne 18, 3) := by decide +kernel
theorem dL_ticks_144 : decode cL_ticks 144 = .ok (.aload_n 0, 1) := by decide +kernel
theorem dL_ticks_145 : decode cL_ticks 145 = .ok (.bipush 6, 2) := by decide +kernel
theorem dL_ticks_147 : decode cL_ticks 147 = .ok (.invokevirtual 43, 3) := by decide +kernel
theorem dL_ticks_150 : decode cL_ticks 150 = .ok (.iload 5, 2) := by decide +kernel
theorem dL_ticks_152 : decode cL_ticks 152 = .ok (.if_icmp .ne 7, 3) := by decide +kernel
theorem dL_ticks_155 : decode cL_ticks 155 = .ok (.iconst 1, 1) := by decide +kernel
theorem dL_ticks_156 : decode cL_ticks 156 = .ok (.goto 4, 3) := by decide +kernel
theorem dL_ticks_159 : decode cL_ticks 159 = .ok (.iconst 0, 1) := by decide +kernel
theorem dL_ticks_160 : decode cL_ticks 160 = .ok (.ireturn, 1) := by decide +kernel
theorem dL_ticks_161 : decode cL_ticks 161 = .ok (.iload 7, 2) := by decide +kernel
theorem dL_ticks_163 : decode cL_ticks 163 = .ok (.iload 4, 2) := by decide +kernel
theorem dL_ticks_165 : decode cL_ticks 165 = .ok (.if_icmp .ne 59, 3) := by decide +kernel
theorem dL_ticks_168 : decode cL_ticks 168 = .ok (.aload_n 0, 1) := by decide +kernel
theorem dL_ticks_169 : decode cL_ticks 169 = .ok (.iconst 4, 1) := by decide +kernel
theorem dL_ticks_170 : decode cL_ticks 170 = .ok (.invokevirtual 43, 3) := by decide +kernel
theorem dL_ticks_173 : decode cL_ticks 173 = .ok (.iload_n 3, 1) := by decide +kernel
theorem dL_ticks_174 : decode cL_ticks 174 = .ok (.iload 4, 2) := by decide +kernel
theorem dL_ticks_176 : decode cL_ticks 176 = .ok (.ior, 1) := by decide +kernel
theorem dL_ticks_177 : decode cL_ticks 177 = .ok (.if_icmp .ne 47, 3) := by decide +kernel
theorem dL_ticks_180 : decode cL_ticks 180 = .ok (.aload_n 0, 1) := by decide +kernel
theorem dL_ticks_181 : decode cL_ticks 181 = .ok (.bipush 12, 2) := by decide +kernel
theorem dL_ticks_183 : decode cL_ticks 183 = .ok (.invokevirtual 43, 3) := by decide +kernel
theorem dL_ticks_186 : decode cL_ticks 186 = .ok (.aload_n 0, 1) := by decide +kernel
theorem dL_ticks_187 : decode cL_ticks 187 = .ok (.bipush 11, 2) := by decide +kernel
theorem dL_ticks_189 : decode cL_ticks 189 = .ok (.invokevirtual 43, 3) := by decide +kernel
theorem dL_ticks_192 : decode cL_ticks 192 = .ok (.iadd, 1) := by decide +kernel
theorem dL_ticks_193 : decode cL_ticks 193 = .ok (.iload_n 2, 1) := by decide +kernel
theorem dL_ticks_194 : decode cL_ticks 194 = .ok (.iload 6, 2) := by decide +kernel
theorem dL_ticks_196 : decode cL_ticks 196 = .ok (.iload_n 1, 1) := by decide +kernel
theorem dL_ticks_197 : decode cL_ticks 197 = .ok (.imul, 1) := by decide +kernel
theorem dL_ticks_198 : decode cL_ticks 198 = .ok (.iadd, 1) := by decide +kernel
theorem dL_ticks_199 : decode cL_ticks 199 = .ok (.if_icmp .ne 25, 3) := by decide +kernel
theorem dL_ticks_202 : decode cL_ticks 202 = .ok (.aload_n 0, 1) := by decide +kernel
theorem dL_ticks_203 : decode cL_ticks 203 = .ok (.bipush 6, 2) := by decide +kernel
theorem dL_ticks_205 : decode cL_ticks 205 = .ok (.invokevirtual 43, 3) := by decide +kernel
theorem dL_ticks_208 : decode cL_ticks 208 = .ok (.iload 5, 2) := by decide +kernel
theorem dL_ticks_210 : decode cL_ticks 210 = .ok (.aload_n 0, 1) := by decide +kernel
theorem dL_ticks_211 : decode cL_ticks 211 = .ok (.bipush 20, 2) := by decide +kernel
theorem dL_ticks_213 : decode cL_ticks 213 = .ok (.invokevirtual 43, 3) := by decide +kernel
theorem dL_ticks_216 : decode cL_ticks 216 = .ok (.iadd, 1) := by decide +kernel
theorem dL_ticks_217 : decode cL_ticks 217 = .ok (.if_icmp .ne 7, 3) := by decide +kernel
theorem dL_ticks_220 : decode cL_ticks 220 = .ok (.iconst 1, 1) := by decide +kernel
theorem dL_ticks_221 : decode cL_ticks 221 = .ok (.goto 4, 3) := by decide +kernel
theorem dL_ticks_224 : decode cL_ticks 224 = .ok (.iconst 0, 1) := by decide +kernel
theorem dL_ticks_225 : decode cL_ticks 225 = .ok (.ireturn, 1) := by decide +kernel
theorem dL_pays_0 : decode cL_pays 0 = .ok (.aload_n 0, 1) := by decide +kernel
theorem dL_pays_1 : decode cL_pays 1 = .ok (.iload_n 1, 1) := by decide +kernel
theorem dL_pays_2 : decode cL_pays 2 = .ok (.iconst 4, 1) := by decide +kernel
theorem dL_pays_3 : decode cL_pays 3 = .ok (.invokevirtual 39, 3) := by decide +kernel
theorem dL_pays_6 : decode cL_pays 6 = .ok (.iconst 1, 1) := by decide +kernel
theorem dL_pays_7 : decode cL_pays 7 = .ok (.if_icmp .eq 12, 3) := by decide +kernel
theorem dL_pays_10 : decode cL_pays 10 = .ok (.aload_n 0, 1) := by decide +kernel
theorem dL_pays_11 : decode cL_pays 11 = .ok (.bipush 6, 2) := by decide +kernel
theorem dL_pays_13 : decode cL_pays 13 = .ok (.invokevirtual 43, 3) := by decide +kernel
theorem dL_pays_16 : decode cL_pays 16 = .ok (.ifCond .ne 20, 3) := by decide +kernel
theorem dL_pays_19 : decode cL_pays 19 = .ok (.aload_n 0, 1) := by decide +kernel
theorem dL_pays_20 : decode cL_pays 20 = .ok (.iload_n 1, 1) := by decide +kernel
theorem dL_pays_21 : decode cL_pays 21 = .ok (.iload_n 2, 1) := by decide +kernel
theorem dL_pays_22 : decode cL_pays 22 = .ok (.invokevirtual 83, 3) := by decide +kernel
theorem dL_pays_25 : decode cL_pays 25 = .ok (.ldc 57, 2) := by decide +kernel
theorem dL_pays_27 : decode cL_pays 27 = .ok (.if_icmp .ne 7, 3) := by decide +kernel
theorem dL_pays_30 : decode cL_pays 30 = .ok (.iconst 1, 1) := by decide +kernel
theorem dL_pays_31 : decode cL_pays 31 = .ok (.goto 4, 3) := by decide +kernel
theorem dL_pays_34 : decode cL_pays 34 = .ok (.iconst 0, 1) := by decide +kernel
theorem dL_pays_35 : decode cL_pays 35 = .ok (.ireturn, 1) := by decide +kernel
theorem dL_pays_36 : decode cL_pays 36 = .ok (.aload_n 0, 1) := by decide +kernel
theorem dL_pays_37 : decode cL_pays 37 = .ok (.iload_n 1, 1) := by decide +kernel
theorem dL_pays_38 : decode cL_pays 38 = .ok (.bipush 8, 2) := by decide +kernel
theorem dL_pays_40 : decode cL_pays 40 = .ok (.invokevirtual 39, 3) := by decide +kernel
theorem dL_pays_43 : decode cL_pays 43 = .ok (.istore_n 3, 1) := by decide +kernel
theorem dL_pays_44 : decode cL_pays 44 = .ok (.aload_n 0, 1) := by decide +kernel
theorem dL_pays_45 : decode cL_pays 45 = .ok (.bipush 6, 2) := by decide +kernel
theorem dL_pays_47 : decode cL_pays 47 = .ok (.invokevirtual 43, 3) := by decide +kernel
theorem dL_pays_50 : decode cL_pays 50 = .ok (.istore 4, 2) := by decide +kernel
theorem dL_pays_52 : decode cL_pays 52 = .ok (.aload_n 0, 1) := by decide +kernel
theorem dL_pays_53 : decode cL_pays 53 = .ok (.iload_n 1, 1) := by decide +kernel
theorem dL_pays_54 : decode cL_pays 54 = .ok (.bipush 9, 2) := by decide +kernel
theorem dL_pays_56 : decode cL_pays 56 = .ok (.invokevirtual 39, 3) := by decide +kernel
theorem dL_pays_59 : decode cL_pays 59 = .ok (.istore 5, 2) := by decide +kernel
theorem dL_pays_61 : decode cL_pays 61 = .ok (.aload_n 0, 1) := by decide +kernel
theorem dL_pays_62 : decode cL_pays 62 = .ok (.iload_n 1, 1) := by decide +kernel
theorem dL_pays_63 : decode cL_pays 63 = .ok (.iload_n 2, 1) := by decide +kernel
theorem dL_pays_64 : decode cL_pays 64 = .ok (.invokevirtual 83, 3) := by decide +kernel
theorem dL_pays_67 : decode cL_pays 67 = .ok (.istore 6, 2) := by decide +kernel
theorem dL_pays_69 : decode cL_pays 69 = .ok (.iload 6, 2) := by decide +kernel
theorem dL_pays_71 : decode cL_pays 71 = .ok (.ifCond .lt 69, 3) := by decide +kernel
theorem dL_pays_74 : decode cL_pays 74 = .ok (.iload 6, 2) := by decide +kernel
theorem dL_pays_76 : decode cL_pays 76 = .ok (.iload_n 2, 1) := by decide +kernel
theorem dL_pays_77 : decode cL_pays 77 = .ok (.if_icmp .gt 63, 3) := by decide +kernel
theorem dL_pays_80 : decode cL_pays 80 = .ok (.iload 6, 2) := by decide +kernel
theorem dL_pays_82 : decode cL_pays 82 = .ok (.iload 4, 2) := by decide +kernel
theorem dL_pays_84 : decode cL_pays 84 = .ok (.if_icmp .gt 56, 3) := by decide +kernel
theorem dL_pays_87 : decode cL_pays 87 = .ok (.iload 6, 2) := by decide +kernel
theorem dL_pays_89 : decode cL_pays 89 = .ok (.iload_n 3, 1) := by decide +kernel
theorem dL_pays_90 : decode cL_pays 90 = .ok (.if_icmp .gt 50, 3) := by decide +kernel
theorem dL_pays_93 : decode cL_pays 93 = .ok (.aload_n 0, 1) := by decide +kernel
theorem dL_pays_94 : decode cL_pays 94 = .ok (.bipush 6, 2) := by decide +kernel
theorem dL_pays_96 : decode cL_pays 96 = .ok (.invokevirtual 43, 3) := by decide +kernel
theorem dL_pays_99 : decode cL_pays 99 = .ok (.iload 4, 2) := by decide +kernel
theorem dL_pays_101 : decode cL_pays 101 = .ok (.iload 6, 2) := by decide +kernel
theorem dL_pays_103 : decode cL_pays 103 = .ok (.isub, 1) := by decide +kernel
theorem dL_pays_104 : decode cL_pays 104 = .ok (.if_icmp .ne 36, 3) := by decide +kernel
theorem dL_pays_107 : decode cL_pays 107 = .ok (.aload_n 0, 1) := by decide +kernel
theorem dL_pays_108 : decode cL_pays 108 = .ok (.iload_n 1, 1) := by decide +kernel
theorem dL_pays_109 : decode cL_pays 109 = .ok (.bipush 9, 2) := by decide +kernel
theorem dL_pays_111 : decode cL_pays 111 = .ok (.invokevirtual 39, 3) := by decide +kernel
theorem dL_pays_114 : decode cL_pays 114 = .ok (.iload 5, 2) := by decide +kernel
theorem dL_pays_116 : decode cL_pays 116 = .ok (.iload 6, 2) := by decide +kernel
theorem dL_pays_118 : decode cL_pays 118 = .ok (.iadd, 1) := by decide +kernel
theorem dL_pays_119 : decode cL_pays 119 = .ok (.if_icmp .ne 21, 3) := by decide +kernel
theorem dL_pays_122 : decode cL_pays 122 = .ok (.aload_n 0, 1) := by decide +kernel
theorem dL_pays_123 : decode cL_pays 123 = .ok (.iload_n 1, 1) := by decide +kernel
theorem dL_pays_124 : decode cL_pays 124 = .ok (.bipush 8, 2) := by decide +kernel
theorem dL_pays_126 : decode cL_pays 126 = .ok (.invokevirtual 39, 3) := by decide +kernel
theorem dL_pays_129 : decode cL_pays 129 = .ok (.iload_n 3, 1) := by decide +kernel
theorem dL_pays_130 : decode cL_pays 130 = .ok (.iload 6, 2) := by decide +kernel
theorem dL_pays_132 : decode cL_pays 132 = .ok (.isub, 1) := by decide +kernel
theorem dL_pays_133 : decode cL_pays 133 = .ok (.if_icmp .ne 7, 3) := by decide +kernel
theorem dL_pays_136 : decode cL_pays 136 = .ok (.iconst 1, 1) := by decide +kernel
theorem dL_pays_137 : decode cL_pays 137 = .ok (.goto 4, 3) := by decide +kernel
theorem dL_pays_140 : decode cL_pays 140 = .ok (.iconst 0, 1) := by decide +kernel
theorem dL_pays_141 : decode cL_pays 141 = .ok (.istore 7, 2) := by decide +kernel
theorem dL_pays_143 : decode cL_pays 143 = .ok (.iload 7, 2) := by decide +kernel
theorem dL_pays_145 : decode cL_pays 145 = .ok (.ifCond .eq 42, 3) := by decide +kernel
theorem dL_pays_148 : decode cL_pays 148 = .ok (.iload_n 2, 1) := by decide +kernel
theorem dL_pays_149 : decode cL_pays 149 = .ok (.iload_n 3, 1) := by decide +kernel
theorem dL_pays_150 : decode cL_pays 150 = .ok (.if_icmp .lt 33, 3) := by decide +kernel
theorem dL_pays_153 : decode cL_pays 153 = .ok (.iload 4, 2) := by decide +kernel
theorem dL_pays_155 : decode cL_pays 155 = .ok (.iload_n 3, 1) := by decide +kernel
theorem dL_pays_156 : decode cL_pays 156 = .ok (.if_icmp .lt 27, 3) := by decide +kernel
theorem dL_pays_159 : decode cL_pays 159 = .ok (.aload_n 0, 1) := by decide +kernel
theorem dL_pays_160 : decode cL_pays 160 = .ok (.iload_n 1, 1) := by decide +kernel
theorem dL_pays_161 : decode cL_pays 161 = .ok (.bipush 8, 2) := by decide +kernel
theorem dL_pays_163 : decode cL_pays 163 = .ok (.invokevirtual 39, 3) := by decide +kernel
theorem dL_pays_166 : decode cL_pays 166 = .ok (.ifCond .ne 21, 3) := by decide +kernel
theorem dL_pays_169 : decode cL_pays 169 = .ok (.aload_n 0, 1) := by decide +kernel
theorem dL_pays_170 : decode cL_pays 170 = .ok (.iload_n 1, 1) := by decide +kernel
theorem dL_pays_171 : decode cL_pays 171 = .ok (.iconst 5, 1) := by decide +kernel
theorem dL_pays_172 : decode cL_pays 172 = .ok (.invokevirtual 39, 3) := by decide +kernel
theorem dL_pays_175 : decode cL_pays 175 = .ok (.aload_n 0, 1) := by decide +kernel
theorem dL_pays_176 : decode cL_pays 176 = .ok (.iconst 0, 1) := by decide +kernel
theorem dL_pays_177 : decode cL_pays 177 = .ok (.invokevirtual 43, 3) := by decide +kernel
theorem dL_pays_180 : decode cL_pays 180 = .ok (.if_icmp .ne 7, 3) := by decide +kernel
theorem dL_pays_183 : decode cL_pays 183 = .ok (.iconst 1, 1) := by decide +kernel
theorem dL_pays_184 : decode cL_pays 184 = .ok (.goto 4, 3) := by decide +kernel
theorem dL_pays_187 : decode cL_pays 187 = .ok (.iconst 0, 1) := by decide +kernel
theorem dL_pays_188 : decode cL_pays 188 = .ok (.ireturn, 1) := by decide +kernel
theorem dL_founds_0 : decode cL_founds 0 = .ok (.aload_n 0, 1) := by decide +kernel
theorem dL_founds_1 : decode cL_founds 1 = .ok (.iload_n 1, 1) := by decide +kernel
theorem dL_founds_2 : decode cL_founds 2 = .ok (.iconst 4, 1) := by decide +kernel
theorem dL_founds_3 : decode cL_founds 3 = .ok (.invokevirtual 39, 3) := by decide +kernel
theorem dL_founds_6 : decode cL_founds 6 = .ok (.iconst 1, 1) := by decide +kernel
theorem dL_founds_7 : decode cL_founds 7 = .ok (.if_icmp .ne 7, 3) := by decide +kernel
theorem dL_founds_10 : decode cL_founds 10 = .ok (.iconst 1, 1) := by decide +kernel
theorem dL_founds_11 : decode cL_founds 11 = .ok (.goto 4, 3) := by decide +kernel
theorem dL_founds_14 : decode cL_founds 14 = .ok (.iconst 0, 1) := by decide +kernel
theorem dL_founds_15 : decode cL_founds 15 = .ok (.istore_n 2, 1) := by decide +kernel
theorem dL_founds_16 : decode cL_founds 16 = .ok (.aload_n 0, 1) := by decide +kernel
theorem dL_founds_17 : decode cL_founds 17 = .ok (.bipush 6, 2) := by decide +kernel
theorem dL_founds_19 : decode cL_founds 19 = .ok (.invokevirtual 43, 3) := by decide +kernel
theorem dL_founds_22 : decode cL_founds 22 = .ok (.istore_n 3, 1) := by decide +kernel
theorem dL_founds_23 : decode cL_founds 23 = .ok (.aload_n 0, 1) := by decide +kernel
theorem dL_founds_24 : decode cL_founds 24 = .ok (.iload_n 1, 1) := by decide +kernel
theorem dL_founds_25 : decode cL_founds 25 = .ok (.invokevirtual 86, 3) := by decide +kernel
theorem dL_founds_28 : decode cL_founds 28 = .ok (.istore 4, 2) := by decide +kernel
theorem dL_founds_30 : decode cL_founds 30 = .ok (.iload 4, 2) := by decide +kernel
theorem dL_founds_32 : decode cL_founds 32 = .ok (.ifCond .ge 40, 3) := by decide +kernel
theorem dL_founds_35 : decode cL_founds 35 = .ok (.iload 4, 2) := by decide +kernel
theorem dL_founds_37 : decode cL_founds 37 = .ok (.ldc 57, 2) := by decide +kernel
theorem dL_founds_39 : decode cL_founds 39 = .ok (.if_icmp .ne 31, 3) := by decide +kernel
theorem dL_founds_42 : decode cL_founds 42 = .ok (.aload_n 0, 1) := by decide +kernel
theorem dL_founds_43 : decode cL_founds 43 = .ok (.bipush 6, 2) := by decide +kernel
theorem dL_founds_45 : decode cL_founds 45 = .ok (.invokevirtual 43, 3) := by decide +kernel
theorem dL_founds_48 : decode cL_founds 48 = .ok (.iload_n 3, 1) := by decide +kernel
theorem dL_founds_49 : decode cL_founds 49 = .ok (.if_icmp .ne 21, 3) := by decide +kernel
theorem dL_founds_52 : decode cL_founds 52 = .ok (.iload_n 2, 1) := by decide +kernel
theorem dL_founds_53 : decode cL_founds 53 = .ok (.ifCond .eq 13, 3) := by decide +kernel
theorem dL_founds_56 : decode cL_founds 56 = .ok (.aload_n 0, 1) := by decide +kernel
theorem dL_founds_57 : decode cL_founds 57 = .ok (.iload_n 1, 1) := by decide +kernel
theorem dL_founds_58 : decode cL_founds 58 = .ok (.iconst 4, 1) := by decide +kernel
theorem dL_founds_59 : decode cL_founds 59 = .ok (.invokevirtual 39, 3) := by decide +kernel
theorem dL_founds_62 : decode cL_founds 62 = .ok (.iconst 1, 1) := by decide +kernel
theorem dL_founds_63 : decode cL_founds 63 = .ok (.if_icmp .ne 7, 3) := by decide +kernel
theorem dL_founds_66 : decode cL_founds 66 = .ok (.iconst 1, 1) := by decide +kernel
theorem dL_founds_67 : decode cL_founds 67 = .ok (.goto 4, 3) := by decide +kernel
theorem dL_founds_70 : decode cL_founds 70 = .ok (.iconst 0, 1) := by decide +kernel
theorem dL_founds_71 : decode cL_founds 71 = .ok (.ireturn, 1) := by decide +kernel
theorem dL_founds_72 : decode cL_founds 72 = .ok (.iload_n 2, 1) := by decide +kernel
theorem dL_founds_73 : decode cL_founds 73 = .ok (.ifCond .eq 58, 3) := by decide +kernel
theorem dL_founds_76 : decode cL_founds 76 = .ok (.iload 4, 2) := by decide +kernel
theorem dL_founds_78 : decode cL_founds 78 = .ok (.ifCond .le 53, 3) := by decide +kernel
theorem dL_founds_81 : decode cL_founds 81 = .ok (.aload_n 0, 1) := by decide +kernel
theorem dL_founds_82 : decode cL_founds 82 = .ok (.bipush 6, 2) := by decide +kernel
theorem dL_founds_84 : decode cL_founds 84 = .ok (.invokevirtual 43, 3) := by decide +kernel
theorem dL_founds_87 : decode cL_founds 87 = .ok (.iload_n 3, 1) := by decide +kernel
theorem dL_founds_88 : decode cL_founds 88 = .ok (.iload 4, 2) := by decide +kernel
theorem dL_founds_90 : decode cL_founds 90 = .ok (.isub, 1) := by decide +kernel
theorem dL_founds_91 : decode cL_founds 91 = .ok (.if_icmp .ne 40, 3) := by decide +kernel
theorem dL_founds_94 : decode cL_founds 94 = .ok (.aload_n 0, 1) := by decide +kernel
theorem dL_founds_95 : decode cL_founds 95 = .ok (.iload_n 1, 1) := by decide +kernel
theorem dL_founds_96 : decode cL_founds 96 = .ok (.iconst 4, 1) := by decide +kernel
theorem dL_founds_97 : decode cL_founds 97 = .ok (.invokevirtual 39, 3) := by decide +kernel
theorem dL_founds_100 : decode cL_founds 100 = .ok (.ifCond .ne 31, 3) := by decide +kernel
theorem dL_founds_103 : decode cL_founds 103 = .ok (.aload_n 0, 1) := by decide +kernel
theorem dL_founds_104 : decode cL_founds 104 = .ok (.iload_n 1, 1) := by decide +kernel
theorem dL_founds_105 : decode cL_founds 105 = .ok (.iconst 5, 1) := by decide +kernel
theorem dL_founds_106 : decode cL_founds 106 = .ok (.invokevirtual 39, 3) := by decide +kernel
theorem dL_founds_109 : decode cL_founds 109 = .ok (.aload_n 0, 1) := by decide +kernel
theorem dL_founds_110 : decode cL_founds 110 = .ok (.iconst 0, 1) := by decide +kernel
theorem dL_founds_111 : decode cL_founds 111 = .ok (.invokevirtual 43, 3) := by decide +kernel
theorem dL_founds_114 : decode cL_founds 114 = .ok (.if_icmp .ne 17, 3) := by decide +kernel
theorem dL_founds_117 : decode cL_founds 117 = .ok (.aload_n 0, 1) := by decide +kernel
theorem dL_founds_118 : decode cL_founds 118 = .ok (.iload_n 1, 1) := by decide +kernel
theorem dL_founds_119 : decode cL_founds 119 = .ok (.bipush 7, 2) := by decide +kernel
theorem dL_founds_121 : decode cL_founds 121 = .ok (.invokevirtual 39, 3) := by decide +kernel
theorem dL_founds_124 : decode cL_founds 124 = .ok (.ifCond .ne 7, 3) := by decide +kernel
theorem dL_founds_127 : decode cL_founds 127 = .ok (.iconst 1, 1) := by decide +kernel
theorem dL_founds_128 : decode cL_founds 128 = .ok (.goto 4, 3) := by decide +kernel
theorem dL_founds_131 : decode cL_founds 131 = .ok (.iconst 0, 1) := by decide +kernel
theorem dL_founds_132 : decode cL_founds 132 = .ok (.ireturn, 1) := by decide +kernel
theorem dL_law_0 : decode cL_law 0 = .ok (.new 21, 3) := by decide +kernel
theorem dL_law_3 : decode cL_law 3 = .ok (.dup, 1) := by decide +kernel
theorem dL_law_4 : decode cL_law 4 = .ok (.invokespecial 89, 3) := by decide +kernel
theorem dL_law_7 : decode cL_law 7 = .ok (.astore_n 1, 1) := by decide +kernel
theorem dL_law_8 : decode cL_law 8 = .ok (.aload_n 1, 1) := by decide +kernel
theorem dL_law_9 : decode cL_law 9 = .ok (.invokestatic 90, 3) := by decide +kernel
theorem dL_law_12 : decode cL_law 12 = .ok (.ifCond .eq 79, 3) := by decide +kernel
theorem dL_law_15 : decode cL_law 15 = .ok (.aload_n 1, 1) := by decide +kernel
theorem dL_law_16 : decode cL_law 16 = .ok (.invokevirtual 94, 3) := by decide +kernel
theorem dL_law_19 : decode cL_law 19 = .ok (.ldc 57, 2) := by decide +kernel
theorem dL_law_21 : decode cL_law 21 = .ok (.if_icmp .ne 70, 3) := by decide +kernel
theorem dL_law_24 : decode cL_law 24 = .ok (.aload_n 1, 1) := by decide +kernel
theorem dL_law_25 : decode cL_law 25 = .ok (.iconst 0, 1) := by decide +kernel
theorem dL_law_26 : decode cL_law 26 = .ok (.aload_n 0, 1) := by decide +kernel
theorem dL_law_27 : decode cL_law 27 = .ok (.iconst 0, 1) := by decide +kernel
theorem dL_law_28 : decode cL_law 28 = .ok (.invokestatic 97, 3) := by decide +kernel
theorem dL_law_31 : decode cL_law 31 = .ok (.bipush 6, 2) := by decide +kernel
theorem dL_law_33 : decode cL_law 33 = .ok (.irem, 1) := by decide +kernel
theorem dL_law_34 : decode cL_law 34 = .ok (.invokevirtual 101, 3) := by decide +kernel
theorem dL_law_37 : decode cL_law 37 = .ok (.iconst 1, 1) := by decide +kernel
theorem dL_law_38 : decode cL_law 38 = .ok (.if_icmp .ne 53, 3) := by decide +kernel
theorem dL_law_41 : decode cL_law 41 = .ok (.aload_n 1, 1) := by decide +kernel
theorem dL_law_42 : decode cL_law 42 = .ok (.iconst 2, 1) := by decide +kernel
theorem dL_law_43 : decode cL_law 43 = .ok (.aload_n 0, 1) := by decide +kernel
theorem dL_law_44 : decode cL_law 44 = .ok (.iconst 1, 1) := by decide +kernel
theorem dL_law_45 : decode cL_law 45 = .ok (.invokestatic 97, 3) := by decide +kernel
theorem dL_law_48 : decode cL_law 48 = .ok (.bipush 60, 2) := by decide +kernel
theorem dL_law_50 : decode cL_law 50 = .ok (.irem, 1) := by decide +kernel
theorem dL_law_51 : decode cL_law 51 = .ok (.invokevirtual 101, 3) := by decide +kernel
theorem dL_law_54 : decode cL_law 54 = .ok (.bipush 30, 2) := by decide +kernel
theorem dL_law_56 : decode cL_law 56 = .ok (.if_icmp .ne 35, 3) := by decide +kernel
theorem dL_law_59 : decode cL_law 59 = .ok (.aload_n 1, 1) := by decide +kernel
theorem dL_law_60 : decode cL_law 60 = .ok (.iconst 4, 1) := by decide +kernel
theorem dL_law_61 : decode cL_law 61 = .ok (.aload_n 0, 1) := by decide +kernel
theorem dL_law_62 : decode cL_law 62 = .ok (.iconst 2, 1) := by decide +kernel
theorem dL_law_63 : decode cL_law 63 = .ok (.invokestatic 97, 3) := by decide +kernel
theorem dL_law_66 : decode cL_law 66 = .ok (.iconst 2, 1) := by decide +kernel
theorem dL_law_67 : decode cL_law 67 = .ok (.irem, 1) := by decide +kernel
theorem dL_law_68 : decode cL_law 68 = .ok (.invokevirtual 101, 3) := by decide +kernel
theorem dL_law_71 : decode cL_law 71 = .ok (.ifCond .ne 20, 3) := by decide +kernel
theorem dL_law_74 : decode cL_law 74 = .ok (.aload_n 1, 1) := by decide +kernel
theorem dL_law_75 : decode cL_law 75 = .ok (.sipush 200, 3) := by decide +kernel
theorem dL_law_78 : decode cL_law 78 = .ok (.invokevirtual 104, 3) := by decide +kernel
theorem dL_law_81 : decode cL_law 81 = .ok (.sipush 200, 3) := by decide +kernel
theorem dL_law_84 : decode cL_law 84 = .ok (.if_icmp .ne 7, 3) := by decide +kernel
theorem dL_law_87 : decode cL_law 87 = .ok (.iconst 1, 1) := by decide +kernel
theorem dL_law_88 : decode cL_law 88 = .ok (.goto 4, 3) := by decide +kernel
theorem dL_law_91 : decode cL_law 91 = .ok (.iconst 0, 1) := by decide +kernel
theorem dL_law_92 : decode cL_law 92 = .ok (.istore_n 2, 1) := by decide +kernel
theorem dL_law_93 : decode cL_law 93 = .ok (.iconst 0, 1) := by decide +kernel
theorem dL_law_94 : decode cL_law 94 = .ok (.istore_n 3, 1) := by decide +kernel
theorem dL_law_95 : decode cL_law 95 = .ok (.iload_n 3, 1) := by decide +kernel
theorem dL_law_96 : decode cL_law 96 = .ok (.iconst 4, 1) := by decide +kernel
theorem dL_law_97 : decode cL_law 97 = .ok (.if_icmp .ge 83, 3) := by decide +kernel
theorem dL_law_100 : decode cL_law 100 = .ok (.iload_n 2, 1) := by decide +kernel
theorem dL_law_101 : decode cL_law 101 = .ok (.ifCond .eq 79, 3) := by decide +kernel
theorem dL_law_104 : decode cL_law 104 = .ok (.aload_n 0, 1) := by decide +kernel
theorem dL_law_105 : decode cL_law 105 = .ok (.iconst 3, 1) := by decide +kernel
theorem dL_law_106 : decode cL_law 106 = .ok (.iload_n 3, 1) := by decide +kernel
theorem dL_law_107 : decode cL_law 107 = .ok (.iadd, 1) := by decide +kernel
theorem dL_law_108 : decode cL_law 108 = .ok (.invokestatic 97, 3) := by decide +kernel
theorem dL_law_111 : decode cL_law 111 = .ok (.istore 4, 2) := by decide +kernel
theorem dL_law_113 : decode cL_law 113 = .ok (.iload 4, 2) := by decide +kernel
theorem dL_law_115 : decode cL_law 115 = .ok (.bipush 12, 2) := by decide +kernel
theorem dL_law_117 : decode cL_law 117 = .ok (.irem, 1) := by decide +kernel
theorem dL_law_118 : decode cL_law 118 = .ok (.istore 5, 2) := by decide +kernel
theorem dL_law_120 : decode cL_law 120 = .ok (.iload 5, 2) := by decide +kernel
theorem dL_law_122 : decode cL_law 122 = .ok (.iload 4, 2) := by decide +kernel
theorem dL_law_124 : decode cL_law 124 = .ok (.bipush 16, 2) := by decide +kernel
theorem dL_law_126 : decode cL_law 126 = .ok (.idiv, 1) := by decide +kernel
theorem dL_law_127 : decode cL_law 127 = .ok (.bipush 12, 2) := by decide +kernel
theorem dL_law_129 : decode cL_law 129 = .ok (.iload 5, 2) := by decide +kernel
theorem dL_law_131 : decode cL_law 131 = .ok (.isub, 1) := by decide +kernel
theorem dL_law_132 : decode cL_law 132 = .ok (.irem, 1) := by decide +kernel
theorem dL_law_133 : decode cL_law 133 = .ok (.iadd, 1) := by decide +kernel
theorem dL_law_134 : decode cL_law 134 = .ok (.istore 6, 2) := by decide +kernel
theorem dL_law_136 : decode cL_law 136 = .ok (.aload_n 1, 1) := by decide +kernel
theorem dL_law_137 : decode cL_law 137 = .ok (.iload 4, 2) := by decide +kernel
theorem dL_law_139 : decode cL_law 139 = .ok (.sipush 256, 3) := by decide +kernel
theorem dL_law_142 : decode cL_law 142 = .ok (.idiv, 1) := by decide +kernel
theorem dL_law_143 : decode cL_law 143 = .ok (.iconst 4, 1) := by decide +kernel
theorem dL_law_144 : decode cL_law 144 = .ok (.irem, 1) := by decide +kernel
theorem dL_law_145 : decode cL_law 145 = .ok (.iload 4, 2) := by decide +kernel
theorem dL_law_147 : decode cL_law 147 = .ok (.sipush 1024, 3) := by decide +kernel
theorem dL_law_150 : decode cL_law 150 = .ok (.idiv, 1) := by decide +kernel
theorem dL_law_151 : decode cL_law 151 = .ok (.iconst 2, 1) := by decide +kernel
theorem dL_law_152 : decode cL_law 152 = .ok (.irem, 1) := by decide +kernel
theorem dL_law_153 : decode cL_law 153 = .ok (.iload 5, 2) := by decide +kernel
theorem dL_law_155 : decode cL_law 155 = .ok (.iload 6, 2) := by decide +kernel
theorem dL_law_157 : decode cL_law 157 = .ok (.invokestatic 107, 3) := by decide +kernel
theorem dL_law_160 : decode cL_law 160 = .ok (.aload_n 1, 1) := by decide +kernel
theorem dL_law_161 : decode cL_law 161 = .ok (.invokevirtual 111, 3) := by decide +kernel
theorem dL_law_164 : decode cL_law 164 = .ok (.iload_n 3, 1) := by decide +kernel
theorem dL_law_165 : decode cL_law 165 = .ok (.if_icmp .ne 7, 3) := by decide +kernel
theorem dL_law_168 : decode cL_law 168 = .ok (.iconst 1, 1) := by decide +kernel
theorem dL_law_169 : decode cL_law 169 = .ok (.goto 4, 3) := by decide +kernel
theorem dL_law_172 : decode cL_law 172 = .ok (.iconst 0, 1) := by decide +kernel
theorem dL_law_173 : decode cL_law 173 = .ok (.istore_n 2, 1) := by decide +kernel
theorem dL_law_174 : decode cL_law 174 = .ok (.iinc 3 1, 3) := by decide +kernel
theorem dL_law_177 : decode cL_law 177 = .ok (.goto (-82), 3) := by decide +kernel
theorem dL_law_180 : decode cL_law 180 = .ok (.aload_n 1, 1) := by decide +kernel
theorem dL_law_181 : decode cL_law 181 = .ok (.iconst 4, 1) := by decide +kernel
theorem dL_law_182 : decode cL_law 182 = .ok (.iconst 0, 1) := by decide +kernel
theorem dL_law_183 : decode cL_law 183 = .ok (.aload_n 0, 1) := by decide +kernel
theorem dL_law_184 : decode cL_law 184 = .ok (.bipush 7, 2) := by decide +kernel
theorem dL_law_186 : decode cL_law 186 = .ok (.invokestatic 97, 3) := by decide +kernel
theorem dL_law_189 : decode cL_law 189 = .ok (.iconst 2, 1) := by decide +kernel
theorem dL_law_190 : decode cL_law 190 = .ok (.irem, 1) := by decide +kernel
theorem dL_law_191 : decode cL_law 191 = .ok (.iconst 2, 1) := by decide +kernel
theorem dL_law_192 : decode cL_law 192 = .ok (.aload_n 0, 1) := by decide +kernel
theorem dL_law_193 : decode cL_law 193 = .ok (.bipush 8, 2) := by decide +kernel
theorem dL_law_195 : decode cL_law 195 = .ok (.invokestatic 97, 3) := by decide +kernel
theorem dL_law_198 : decode cL_law 198 = .ok (.iconst 2, 1) := by decide +kernel
theorem dL_law_199 : decode cL_law 199 = .ok (.irem, 1) := by decide +kernel
theorem dL_law_200 : decode cL_law 200 = .ok (.iadd, 1) := by decide +kernel
theorem dL_law_201 : decode cL_law 201 = .ok (.invokestatic 107, 3) := by decide +kernel
theorem dL_law_204 : decode cL_law 204 = .ok (.iload_n 2, 1) := by decide +kernel
theorem dL_law_205 : decode cL_law 205 = .ok (.ifCond .eq 15, 3) := by decide +kernel
theorem dL_law_208 : decode cL_law 208 = .ok (.aload_n 1, 1) := by decide +kernel
theorem dL_law_209 : decode cL_law 209 = .ok (.invokevirtual 111, 3) := by decide +kernel
theorem dL_law_212 : decode cL_law 212 = .ok (.iconst 4, 1) := by decide +kernel
theorem dL_law_213 : decode cL_law 213 = .ok (.if_icmp .ne 7, 3) := by decide +kernel
theorem dL_law_216 : decode cL_law 216 = .ok (.iconst 1, 1) := by decide +kernel
theorem dL_law_217 : decode cL_law 217 = .ok (.goto 4, 3) := by decide +kernel
theorem dL_law_220 : decode cL_law 220 = .ok (.iconst 0, 1) := by decide +kernel
theorem dL_law_221 : decode cL_law 221 = .ok (.istore_n 2, 1) := by decide +kernel
theorem dL_law_222 : decode cL_law 222 = .ok (.iconst 0, 1) := by decide +kernel
theorem dL_law_223 : decode cL_law 223 = .ok (.istore_n 3, 1) := by decide +kernel
theorem dL_law_224 : decode cL_law 224 = .ok (.iload_n 3, 1) := by decide +kernel
theorem dL_law_225 : decode cL_law 225 = .ok (.bipush 26, 2) := by decide +kernel
theorem dL_law_227 : decode cL_law 227 = .ok (.if_icmp .ge 289, 3) := by decide +kernel
theorem dL_law_230 : decode cL_law 230 = .ok (.iload_n 2, 1) := by decide +kernel
theorem dL_law_231 : decode cL_law 231 = .ok (.ifCond .eq 285, 3) := by decide +kernel
theorem dL_law_234 : decode cL_law 234 = .ok (.aload_n 0, 1) := by decide +kernel
theorem dL_law_235 : decode cL_law 235 = .ok (.bipush 9, 2) := by decide +kernel
theorem dL_law_237 : decode cL_law 237 = .ok (.iload_n 3, 1) := by decide +kernel
theorem dL_law_238 : decode cL_law 238 = .ok (.iadd, 1) := by decide +kernel
theorem dL_law_239 : decode cL_law 239 = .ok (.invokestatic 97, 3) := by decide +kernel
theorem dL_law_242 : decode cL_law 242 = .ok (.istore 4, 2) := by decide +kernel
theorem dL_law_244 : decode cL_law 244 = .ok (.iload 4, 2) := by decide +kernel
theorem dL_law_246 : decode cL_law 246 = .ok (.bipush 16, 2) := by decide +kernel
theorem dL_law_248 : decode cL_law 248 = .ok (.idiv, 1) := by decide +kernel
theorem dL_law_249 : decode cL_law 249 = .ok (.istore 5, 2) := by decide +kernel
theorem dL_law_251 : decode cL_law 251 = .ok (.iload 5, 2) := by decide +kernel
theorem dL_law_253 : decode cL_law 253 = .ok (.iconst 5, 1) := by decide +kernel
theorem dL_law_254 : decode cL_law 254 = .ok (.irem, 1) := by decide +kernel
theorem dL_law_255 : decode cL_law 255 = .ok (.istore 6, 2) := by decide +kernel
theorem dL_law_257 : decode cL_law 257 = .ok (.iload 4, 2) := by decide +kernel
theorem dL_law_259 : decode cL_law 259 = .ok (.bipush 16, 2) := by decide +kernel
theorem dL_law_261 : decode cL_law 261 = .ok (.irem, 1) := by decide +kernel
theorem dL_law_262 : decode cL_law 262 = .ok (.tableswitch 153 0 7 #[46, 46, 54, 54, 74, 84, 107, 132], 46) := by decide +kernel
theorem dL_law_308 : decode cL_law 308 = .ok (.aload_n 1, 1) := by decide +kernel
theorem dL_law_309 : decode cL_law 309 = .ok (.invokestatic 114, 3) := by decide +kernel
theorem dL_law_312 : decode cL_law 312 = .ok (.istore_n 2, 1) := by decide +kernel
theorem dL_law_313 : decode cL_law 313 = .ok (.goto 174, 3) := by decide +kernel
theorem dL_law_316 : decode cL_law 316 = .ok (.aload_n 1, 1) := by decide +kernel
theorem dL_law_317 : decode cL_law 317 = .ok (.iload 6, 2) := by decide +kernel
theorem dL_law_319 : decode cL_law 319 = .ok (.iconst 1, 1) := by decide +kernel
theorem dL_law_320 : decode cL_law 320 = .ok (.iload 5, 2) := by decide +kernel
theorem dL_law_322 : decode cL_law 322 = .ok (.bipush 8, 2) := by decide +kernel
theorem dL_law_324 : decode cL_law 324 = .ok (.idiv, 1) := by decide +kernel
theorem dL_law_325 : decode cL_law 325 = .ok (.bipush 30, 2) := by decide +kernel
theorem dL_law_327 : decode cL_law 327 = .ok (.irem, 1) := by decide +kernel
theorem dL_law_328 : decode cL_law 328 = .ok (.iadd, 1) := by decide +kernel
theorem dL_law_329 : decode cL_law 329 = .ok (.invokestatic 117, 3) := by decide +kernel
theorem dL_law_332 : decode cL_law 332 = .ok (.istore_n 2, 1) := by decide +kernel
theorem dL_law_333 : decode cL_law 333 = .ok (.goto 154, 3) := by decide +kernel
theorem dL_law_336 : decode cL_law 336 = .ok (.aload_n 1, 1) := by decide +kernel
theorem dL_law_337 : decode cL_law 337 = .ok (.iload 6, 2) := by decide +kernel
theorem dL_law_339 : decode cL_law 339 = .ok (.invokestatic 121, 3) := by decide +kernel
theorem dL_law_342 : decode cL_law 342 = .ok (.istore_n 2, 1) := by decide +kernel
theorem dL_law_343 : decode cL_law 343 = .ok (.goto 144, 3) := by decide +kernel
theorem dL_law_346 : decode cL_law 346 = .ok (.aload_n 1, 1) := by decide +kernel
theorem dL_law_347 : decode cL_law 347 = .ok (.iload 6, 2) := by decide +kernel
theorem dL_law_349 : decode cL_law 349 = .ok (.iload 5, 2) := by decide +kernel
theorem dL_law_351 : decode cL_law 351 = .ok (.bipush 8, 2) := by decide +kernel
theorem dL_law_353 : decode cL_law 353 = .ok (.idiv, 1) := by decide +kernel
theorem dL_law_354 : decode cL_law 354 = .ok (.aload_n 1, 1) := by decide +kernel
theorem dL_law_355 : decode cL_law 355 = .ok (.iconst 0, 1) := by decide +kernel
theorem dL_law_356 : decode cL_law 356 = .ok (.invokevirtual 43, 3) := by decide +kernel
theorem dL_law_359 : decode cL_law 359 = .ok (.iconst 1, 1) := by decide +kernel
theorem dL_law_360 : decode cL_law 360 = .ok (.iadd, 1) := by decide +kernel
theorem dL_law_361 : decode cL_law 361 = .ok (.irem, 1) := by decide +kernel
theorem dL_law_362 : decode cL_law 362 = .ok (.invokestatic 124, 3) := by decide +kernel
theorem dL_law_365 : decode cL_law 365 = .ok (.istore_n 2, 1) := by decide +kernel
theorem dL_law_366 : decode cL_law 366 = .ok (.goto 121, 3) := by decide +kernel
theorem dL_law_369 : decode cL_law 369 = .ok (.aload_n 1, 1) := by decide +kernel
theorem dL_law_370 : decode cL_law 370 = .ok (.iconst 1, 1) := by decide +kernel
theorem dL_law_371 : decode cL_law 371 = .ok (.iconst 1, 1) := by decide +kernel
theorem dL_law_372 : decode cL_law 372 = .ok (.iload 5, 2) := by decide +kernel
theorem dL_law_374 : decode cL_law 374 = .ok (.bipush 6, 2) := by decide +kernel
theorem dL_law_376 : decode cL_law 376 = .ok (.irem, 1) := by decide +kernel
theorem dL_law_377 : decode cL_law 377 = .ok (.iadd, 1) := by decide +kernel
theorem dL_law_378 : decode cL_law 378 = .ok (.invokevirtual 101, 3) := by decide +kernel
theorem dL_law_381 : decode cL_law 381 = .ok (.iconst 1, 1) := by decide +kernel
theorem dL_law_382 : decode cL_law 382 = .ok (.if_icmp .lt 7, 3) := by decide +kernel
theorem dL_law_385 : decode cL_law 385 = .ok (.iconst 1, 1) := by decide +kernel
theorem dL_law_386 : decode cL_law 386 = .ok (.goto 4, 3) := by decide +kernel
theorem dL_law_389 : decode cL_law 389 = .ok (.iconst 0, 1) := by decide +kernel
theorem dL_law_390 : decode cL_law 390 = .ok (.istore_n 2, 1) := by decide +kernel
theorem dL_law_391 : decode cL_law 391 = .ok (.goto 96, 3) := by decide +kernel
theorem dL_law_394 : decode cL_law 394 = .ok (.aload_n 1, 1) := by decide +kernel
theorem dL_law_395 : decode cL_law 395 = .ok (.iconst 5, 1) := by decide +kernel
theorem dL_law_396 : decode cL_law 396 = .ok (.iload 5, 2) := by decide +kernel
theorem dL_law_398 : decode cL_law 398 = .ok (.iconst 3, 1) := by decide +kernel
theorem dL_law_399 : decode cL_law 399 = .ok (.irem, 1) := by decide +kernel
theorem dL_law_400 : decode cL_law 400 = .ok (.invokevirtual 101, 3) := by decide +kernel
theorem dL_law_403 : decode cL_law 403 = .ok (.ifCond .lt 7, 3) := by decide +kernel
theorem dL_law_406 : decode cL_law 406 = .ok (.iconst 1, 1) := by decide +kernel
theorem dL_law_407 : decode cL_law 407 = .ok (.goto 4, 3) := by decide +kernel
theorem dL_law_410 : decode cL_law 410 = .ok (.iconst 0, 1) := by decide +kernel
theorem dL_law_411 : decode cL_law 411 = .ok (.istore_n 2, 1) := by decide +kernel
theorem dL_law_412 : decode cL_law 412 = .ok (.goto 75, 3) := by decide +kernel
theorem dL_law_415 : decode cL_law 415 = .ok (.aload_n 1, 1) := by decide +kernel
theorem dL_law_416 : decode cL_law 416 = .ok (.iconst 0, 1) := by decide +kernel
theorem dL_law_417 : decode cL_law 417 = .ok (.invokevirtual 43, 3) := by decide +kernel
theorem dL_law_420 : decode cL_law 420 = .ok (.istore 7, 2) := by decide +kernel
theorem dL_law_422 : decode cL_law 422 = .ok (.aload_n 1, 1) := by decide +kernel
theorem dL_law_423 : decode cL_law 423 = .ok (.iload 5, 2) := by decide +kernel
theorem dL_law_425 : decode cL_law 425 = .ok (.iconst 2, 1) := by decide +kernel
theorem dL_law_426 : decode cL_law 426 = .ok (.irem, 1) := by decide +kernel
theorem dL_law_427 : decode cL_law 427 = .ok (.iload 5, 2) := by decide +kernel
theorem dL_law_429 : decode cL_law 429 = .ok (.iconst 2, 1) := by decide +kernel
theorem dL_law_430 : decode cL_law 430 = .ok (.idiv, 1) := by decide +kernel
theorem dL_law_431 : decode cL_law 431 = .ok (.bipush 12, 2) := by decide +kernel
theorem dL_law_433 : decode cL_law 433 = .ok (.irem, 1) := by decide +kernel
theorem dL_law_434 : decode cL_law 434 = .ok (.iload 5, 2) := by decide +kernel
theorem dL_law_436 : decode cL_law 436 = .ok (.bipush 32, 2) := by decide +kernel
theorem dL_law_438 : decode cL_law 438 = .ok (.idiv, 1) := by decide +kernel
theorem dL_law_439 : decode cL_law 439 = .ok (.bipush 101, 2) := by decide +kernel
theorem dL_law_441 : decode cL_law 441 = .ok (.irem, 1) := by decide +kernel
theorem dL_law_442 : decode cL_law 442 = .ok (.iconst 1, 1) := by decide +kernel
theorem dL_law_443 : decode cL_law 443 = .ok (.isub, 1) := by decide +kernel
theorem dL_law_444 : decode cL_law 444 = .ok (.invokevirtual 127, 3) := by decide +kernel
theorem dL_law_447 : decode cL_law 447 = .ok (.iload 7, 2) := by decide +kernel
theorem dL_law_449 : decode cL_law 449 = .ok (.if_icmp .ne 36, 3) := by decide +kernel
theorem dL_law_452 : decode cL_law 452 = .ok (.aload_n 1, 1) := by decide +kernel
theorem dL_law_453 : decode cL_law 453 = .ok (.iconst 0, 1) := by decide +kernel
theorem dL_law_454 : decode cL_law 454 = .ok (.invokevirtual 43, 3) := by decide +kernel
theorem dL_law_457 : decode cL_law 457 = .ok (.iload 7, 2) := by decide +kernel
theorem dL_law_459 : decode cL_law 459 = .ok (.iconst 1, 1) := by decide +kernel
theorem dL_law_460 : decode cL_law 460 = .ok (.iadd, 1) := by decide +kernel
theorem dL_law_461 : decode cL_law 461 = .ok (.if_icmp .ne 24, 3) := by decide +kernel
theorem dL_law_464 : decode cL_law 464 = .ok (.aload_n 1, 1) := by decide +kernel
theorem dL_law_465 : decode cL_law 465 = .ok (.iload 7, 2) := by decide +kernel
theorem dL_law_467 : decode cL_law 467 = .ok (.iconst 1, 1) := by decide +kernel
theorem dL_law_468 : decode cL_law 468 = .ok (.invokevirtual 46, 3) := by decide +kernel
theorem dL_law_471 : decode cL_law 471 = .ok (.iload 5, 2) := by decide +kernel
theorem dL_law_473 : decode cL_law 473 = .ok (.iconst 2, 1) := by decide +kernel
theorem dL_law_474 : decode cL_law 474 = .ok (.idiv, 1) := by decide +kernel
theorem dL_law_475 : decode cL_law 475 = .ok (.bipush 12, 2) := by decide +kernel
theorem dL_law_477 : decode cL_law 477 = .ok (.irem, 1) := by decide +kernel
theorem dL_law_478 : decode cL_law 478 = .ok (.if_icmp .ne 7, 3) := by decide +kernel
theorem dL_law_481 : decode cL_law 481 = .ok (.iconst 1, 1) := by decide +kernel
theorem dL_law_482 : decode cL_law 482 = .ok (.goto 4, 3) := by decide +kernel
theorem dL_law_485 : decode cL_law 485 = .ok (.iconst 0, 1) := by decide +kernel
theorem dL_law_486 : decode cL_law 486 = .ok (.istore_n 2, 1) := by decide +kernel
theorem dL_law_487 : decode cL_law 487 = .ok (.iload_n 2, 1) := by decide +kernel
theorem dL_law_488 : decode cL_law 488 = .ok (.ifCond .eq 20, 3) := by decide +kernel
theorem dL_law_491 : decode cL_law 491 = .ok (.iload_n 3, 1) := by decide +kernel
theorem dL_law_492 : decode cL_law 492 = .ok (.iconst 3, 1) := by decide +kernel
theorem dL_law_493 : decode cL_law 493 = .ok (.irem, 1) := by decide +kernel
theorem dL_law_494 : decode cL_law 494 = .ok (.ifCond .gt 10, 3) := by decide +kernel
theorem dL_law_497 : decode cL_law 497 = .ok (.aload_n 1, 1) := by decide +kernel
theorem dL_law_498 : decode cL_law 498 = .ok (.invokestatic 90, 3) := by decide +kernel
theorem dL_law_501 : decode cL_law 501 = .ok (.ifCond .eq 7, 3) := by decide +kernel
theorem dL_law_504 : decode cL_law 504 = .ok (.iconst 1, 1) := by decide +kernel
theorem dL_law_505 : decode cL_law 505 = .ok (.goto 4, 3) := by decide +kernel
theorem dL_law_508 : decode cL_law 508 = .ok (.iconst 0, 1) := by decide +kernel
theorem dL_law_509 : decode cL_law 509 = .ok (.istore_n 2, 1) := by decide +kernel
theorem dL_law_510 : decode cL_law 510 = .ok (.iinc 3 1, 3) := by decide +kernel
theorem dL_law_513 : decode cL_law 513 = .ok (.goto (-289), 3) := by decide +kernel
theorem dL_law_516 : decode cL_law 516 = .ok (.aload_n 1, 1) := by decide +kernel
theorem dL_law_517 : decode cL_law 517 = .ok (.bipush 15, 2) := by decide +kernel
theorem dL_law_519 : decode cL_law 519 = .ok (.invokevirtual 43, 3) := by decide +kernel
theorem dL_law_522 : decode cL_law 522 = .ok (.istore_n 3, 1) := by decide +kernel
theorem dL_law_523 : decode cL_law 523 = .ok (.iload_n 2, 1) := by decide +kernel
theorem dL_law_524 : decode cL_law 524 = .ok (.ifCond .eq 96, 3) := by decide +kernel
theorem dL_law_527 : decode cL_law 527 = .ok (.aload_n 1, 1) := by decide +kernel
theorem dL_law_528 : decode cL_law 528 = .ok (.iconst 2, 1) := by decide +kernel
theorem dL_law_529 : decode cL_law 529 = .ok (.iconst 0, 1) := by decide +kernel
theorem dL_law_530 : decode cL_law 530 = .ok (.iconst 0, 1) := by decide +kernel
theorem dL_law_531 : decode cL_law 531 = .ok (.invokevirtual 127, 3) := by decide +kernel
theorem dL_law_534 : decode cL_law 534 = .ok (.ldc 65, 2) := by decide +kernel
theorem dL_law_536 : decode cL_law 536 = .ok (.if_icmp .ne 84, 3) := by decide +kernel
theorem dL_law_539 : decode cL_law 539 = .ok (.aload_n 1, 1) := by decide +kernel
theorem dL_law_540 : decode cL_law 540 = .ok (.iconst 0, 1) := by decide +kernel
theorem dL_law_541 : decode cL_law 541 = .ok (.iconst 0, 1) := by decide +kernel
theorem dL_law_542 : decode cL_law 542 = .ok (.bipush 100, 2) := by decide +kernel
theorem dL_law_544 : decode cL_law 544 = .ok (.invokevirtual 127, 3) := by decide +kernel
theorem dL_law_547 : decode cL_law 547 = .ok (.ldc 65, 2) := by decide +kernel
theorem dL_law_549 : decode cL_law 549 = .ok (.if_icmp .ne 71, 3) := by decide +kernel
theorem dL_law_552 : decode cL_law 552 = .ok (.aload_n 1, 1) := by decide +kernel
theorem dL_law_553 : decode cL_law 553 = .ok (.bipush 6, 2) := by decide +kernel
theorem dL_law_555 : decode cL_law 555 = .ok (.iconst 0, 1) := by decide +kernel
theorem dL_law_556 : decode cL_law 556 = .ok (.invokevirtual 101, 3) := by decide +kernel
theorem dL_law_559 : decode cL_law 559 = .ok (.ldc 65, 2) := by decide +kernel
theorem dL_law_561 : decode cL_law 561 = .ok (.if_icmp .ne 59, 3) := by decide +kernel
theorem dL_law_564 : decode cL_law 564 = .ok (.aload_n 1, 1) := by decide +kernel
theorem dL_law_565 : decode cL_law 565 = .ok (.iconst 0, 1) := by decide +kernel
theorem dL_law_566 : decode cL_law 566 = .ok (.invokevirtual 104, 3) := by decide +kernel
theorem dL_law_569 : decode cL_law 569 = .ok (.ldc 65, 2) := by decide +kernel
theorem dL_law_571 : decode cL_law 571 = .ok (.if_icmp .ne 49, 3) := by decide +kernel
theorem dL_law_574 : decode cL_law 574 = .ok (.aload_n 1, 1) := by decide +kernel
theorem dL_law_575 : decode cL_law 575 = .ok (.bipush 8, 2) := by decide +kernel
theorem dL_law_577 : decode cL_law 577 = .ok (.iconst 1, 1) := by decide +kernel
theorem dL_law_578 : decode cL_law 578 = .ok (.invokevirtual 83, 3) := by decide +kernel
theorem dL_law_581 : decode cL_law 581 = .ok (.ldc 65, 2) := by decide +kernel
theorem dL_law_583 : decode cL_law 583 = .ok (.if_icmp .ne 37, 3) := by decide +kernel
theorem dL_law_586 : decode cL_law 586 = .ok (.aload_n 1, 1) := by decide +kernel
theorem dL_law_587 : decode cL_law 587 = .ok (.iconst 0, 1) := by decide +kernel
theorem dL_law_588 : decode cL_law 588 = .ok (.sipush 1000, 3) := by decide +kernel
theorem dL_law_591 : decode cL_law 591 = .ok (.invokevirtual 83, 3) := by decide +kernel
theorem dL_law_594 : decode cL_law 594 = .ok (.ldc 65, 2) := by decide +kernel
theorem dL_law_596 : decode cL_law 596 = .ok (.if_icmp .ne 24, 3) := by decide +kernel
theorem dL_law_599 : decode cL_law 599 = .ok (.aload_n 1, 1) := by decide +kernel
theorem dL_law_600 : decode cL_law 600 = .ok (.aload_n 0, 1) := by decide +kernel
theorem dL_law_601 : decode cL_law 601 = .ok (.bipush 7, 2) := by decide +kernel
theorem dL_law_603 : decode cL_law 603 = .ok (.invokestatic 97, 3) := by decide +kernel
theorem dL_law_606 : decode cL_law 606 = .ok (.iconst 2, 1) := by decide +kernel
theorem dL_law_607 : decode cL_law 607 = .ok (.irem, 1) := by decide +kernel
theorem dL_law_608 : decode cL_law 608 = .ok (.invokevirtual 130, 3) := by decide +kernel
theorem dL_law_611 : decode cL_law 611 = .ok (.ldc 57, 2) := by decide +kernel
theorem dL_law_613 : decode cL_law 613 = .ok (.if_icmp .ne 7, 3) := by decide +kernel
theorem dL_law_616 : decode cL_law 616 = .ok (.iconst 1, 1) := by decide +kernel
theorem dL_law_617 : decode cL_law 617 = .ok (.goto 4, 3) := by decide +kernel
theorem dL_law_620 : decode cL_law 620 = .ok (.iconst 0, 1) := by decide +kernel
theorem dL_law_621 : decode cL_law 621 = .ok (.istore_n 2, 1) := by decide +kernel
theorem dL_law_622 : decode cL_law 622 = .ok (.iload_n 2, 1) := by decide +kernel
theorem dL_law_623 : decode cL_law 623 = .ok (.ifCond .eq 34, 3) := by decide +kernel
theorem dL_law_626 : decode cL_law 626 = .ok (.aload_n 1, 1) := by decide +kernel
theorem dL_law_627 : decode cL_law 627 = .ok (.bipush 15, 2) := by decide +kernel
theorem dL_law_629 : decode cL_law 629 = .ok (.invokevirtual 43, 3) := by decide +kernel
theorem dL_law_632 : decode cL_law 632 = .ok (.iload_n 3, 1) := by decide +kernel
theorem dL_law_633 : decode cL_law 633 = .ok (.if_icmp .ne 24, 3) := by decide +kernel
theorem dL_law_636 : decode cL_law 636 = .ok (.aload_n 1, 1) := by decide +kernel
theorem dL_law_637 : decode cL_law 637 = .ok (.invokevirtual 94, 3) := by decide +kernel
theorem dL_law_640 : decode cL_law 640 = .ok (.iload_n 3, 1) := by decide +kernel
theorem dL_law_641 : decode cL_law 641 = .ok (.iconst 1, 1) := by decide +kernel
theorem dL_law_642 : decode cL_law 642 = .ok (.isub, 1) := by decide +kernel
theorem dL_law_643 : decode cL_law 643 = .ok (.if_icmp .ne 14, 3) := by decide +kernel
theorem dL_law_646 : decode cL_law 646 = .ok (.aload_n 1, 1) := by decide +kernel
theorem dL_law_647 : decode cL_law 647 = .ok (.invokestatic 90, 3) := by decide +kernel
theorem dL_law_650 : decode cL_law 650 = .ok (.ifCond .eq 7, 3) := by decide +kernel
theorem dL_law_653 : decode cL_law 653 = .ok (.iconst 1, 1) := by decide +kernel
theorem dL_law_654 : decode cL_law 654 = .ok (.goto 4, 3) := by decide +kernel
theorem dL_law_657 : decode cL_law 657 = .ok (.iconst 0, 1) := by decide +kernel
theorem dL_law_658 : decode cL_law 658 = .ok (.ireturn, 1) := by decide +kernel
