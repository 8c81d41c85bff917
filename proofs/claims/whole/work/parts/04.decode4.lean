theorem dX10_set_25 : decode cX10_set 25 = .ok (.aload_n 0, 1) := by decide +kernel
theorem dX10_set_26 : decode cX10_set 26 = .ok (.getfield 7, 3) := by decide +kernel
theorem dX10_set_29 : decode cX10_set 29 = .ok (.bipush 9, 2) := by decide +kernel
theorem dX10_set_31 : decode cX10_set 31 = .ok (.iload_n 1, 1) := by decide +kernel
theorem dX10_set_32 : decode cX10_set 32 = .ok (.iadd, 1) := by decide +kernel
theorem dX10_set_33 : decode cX10_set 33 = .ok (.iload_n 2, 1) := by decide +kernel
theorem dX10_set_34 : decode cX10_set 34 = .ok (.iastore, 1) := by decide +kernel
theorem dX10_set_35 : decode cX10_set 35 = .ok (.iload_n 3, 1) := by decide +kernel
theorem dX10_set_36 : decode cX10_set 36 = .ok (.ireturn, 1) := by decide +kernel
theorem dX10_grant_0 : decode cX10_grant 0 = .ok (.iload_n 1, 1) := by decide +kernel
theorem dX10_grant_1 : decode cX10_grant 1 = .ok (.iconst 1, 1) := by decide +kernel
theorem dX10_grant_2 : decode cX10_grant 2 = .ok (.sipush 999, 3) := by decide +kernel
theorem dX10_grant_5 : decode cX10_grant 5 = .ok (.invokestatic 31, 3) := by decide +kernel
theorem dX10_grant_8 : decode cX10_grant 8 = .ok (.ifCond .ne 6, 3) := by decide +kernel
theorem dX10_grant_11 : decode cX10_grant 11 = .ok (.ldc 71, 2) := by decide +kernel
theorem dX10_grant_13 : decode cX10_grant 13 = .ok (.ireturn, 1) := by decide +kernel
theorem dX10_grant_14 : decode cX10_grant 14 = .ok (.aload_n 0, 1) := by decide +kernel
theorem dX10_grant_15 : decode cX10_grant 15 = .ok (.getfield 7, 3) := by decide +kernel
theorem dX10_grant_18 : decode cX10_grant 18 = .ok (.iconst 2, 1) := by decide +kernel
theorem dX10_grant_19 : decode cX10_grant 19 = .ok (.iaload, 1) := by decide +kernel
theorem dX10_grant_20 : decode cX10_grant 20 = .ok (.iload_n 1, 1) := by decide +kernel
theorem dX10_grant_21 : decode cX10_grant 21 = .ok (.iadd, 1) := by decide +kernel
theorem dX10_grant_22 : decode cX10_grant 22 = .ok (.sipush 9999, 3) := by decide +kernel
theorem dX10_grant_25 : decode cX10_grant 25 = .ok (.if_icmp .le 6, 3) := by decide +kernel
theorem dX10_grant_28 : decode cX10_grant 28 = .ok (.ldc 72, 2) := by decide +kernel
theorem dX10_grant_30 : decode cX10_grant 30 = .ok (.ireturn, 1) := by decide +kernel
theorem dX10_grant_31 : decode cX10_grant 31 = .ok (.aload_n 0, 1) := by decide +kernel
theorem dX10_grant_32 : decode cX10_grant 32 = .ok (.invokevirtual 73, 3) := by decide +kernel
theorem dX10_grant_35 : decode cX10_grant 35 = .ok (.aload_n 0, 1) := by decide +kernel
theorem dX10_grant_36 : decode cX10_grant 36 = .ok (.getfield 7, 3) := by decide +kernel
theorem dX10_grant_39 : decode cX10_grant 39 = .ok (.iconst 2, 1) := by decide +kernel
theorem dX10_grant_40 : decode cX10_grant 40 = .ok (.dup2, 1) := by decide +kernel
theorem dX10_grant_41 : decode cX10_grant 41 = .ok (.iaload, 1) := by decide +kernel
theorem dX10_grant_42 : decode cX10_grant 42 = .ok (.iload_n 1, 1) := by decide +kernel
theorem dX10_grant_43 : decode cX10_grant 43 = .ok (.iadd, 1) := by decide +kernel
theorem dX10_grant_44 : decode cX10_grant 44 = .ok (.iastore, 1) := by decide +kernel
theorem dX10_grant_45 : decode cX10_grant 45 = .ok (.aload_n 0, 1) := by decide +kernel
theorem dX10_grant_46 : decode cX10_grant 46 = .ok (.getfield 7, 3) := by decide +kernel
theorem dX10_grant_49 : decode cX10_grant 49 = .ok (.iconst 3, 1) := by decide +kernel
theorem dX10_grant_50 : decode cX10_grant 50 = .ok (.dup2, 1) := by decide +kernel
theorem dX10_grant_51 : decode cX10_grant 51 = .ok (.iaload, 1) := by decide +kernel
theorem dX10_grant_52 : decode cX10_grant 52 = .ok (.iload_n 1, 1) := by decide +kernel
theorem dX10_grant_53 : decode cX10_grant 53 = .ok (.iadd, 1) := by decide +kernel
theorem dX10_grant_54 : decode cX10_grant 54 = .ok (.iastore, 1) := by decide +kernel
theorem dX10_grant_55 : decode cX10_grant 55 = .ok (.aload_n 0, 1) := by decide +kernel
theorem dX10_grant_56 : decode cX10_grant 56 = .ok (.getfield 7, 3) := by decide +kernel
theorem dX10_grant_59 : decode cX10_grant 59 = .ok (.iconst 2, 1) := by decide +kernel
theorem dX10_grant_60 : decode cX10_grant 60 = .ok (.iaload, 1) := by decide +kernel
theorem dX10_grant_61 : decode cX10_grant 61 = .ok (.ireturn, 1) := by decide +kernel
theorem dX10_tick_0 : decode cX10_tick 0 = .ok (.aload_n 0, 1) := by decide +kernel
theorem dX10_tick_1 : decode cX10_tick 1 = .ok (.getfield 7, 3) := by decide +kernel
theorem dX10_tick_4 : decode cX10_tick 4 = .ok (.iconst 2, 1) := by decide +kernel
theorem dX10_tick_5 : decode cX10_tick 5 = .ok (.iaload, 1) := by decide +kernel
theorem dX10_tick_6 : decode cX10_tick 6 = .ok (.aload_n 0, 1) := by decide +kernel
theorem dX10_tick_7 : decode cX10_tick 7 = .ok (.getfield 7, 3) := by decide +kernel
theorem dX10_tick_10 : decode cX10_tick 10 = .ok (.bipush 12, 2) := by decide +kernel
theorem dX10_tick_12 : decode cX10_tick 12 = .ok (.iaload, 1) := by decide +kernel
theorem dX10_tick_13 : decode cX10_tick 13 = .ok (.iadd, 1) := by decide +kernel
theorem dX10_tick_14 : decode cX10_tick 14 = .ok (.sipush 9999, 3) := by decide +kernel
theorem dX10_tick_17 : decode cX10_tick 17 = .ok (.if_icmp .le 6, 3) := by decide +kernel
theorem dX10_tick_20 : decode cX10_tick 20 = .ok (.ldc 72, 2) := by decide +kernel
theorem dX10_tick_22 : decode cX10_tick 22 = .ok (.ireturn, 1) := by decide +kernel
theorem dX10_tick_23 : decode cX10_tick 23 = .ok (.aload_n 0, 1) := by decide +kernel
theorem dX10_tick_24 : decode cX10_tick 24 = .ok (.invokevirtual 73, 3) := by decide +kernel
theorem dX10_tick_27 : decode cX10_tick 27 = .ok (.iconst 0, 1) := by decide +kernel
theorem dX10_tick_28 : decode cX10_tick 28 = .ok (.istore_n 1, 1) := by decide +kernel
theorem dX10_tick_29 : decode cX10_tick 29 = .ok (.iconst 0, 1) := by decide +kernel
theorem dX10_tick_30 : decode cX10_tick 30 = .ok (.istore_n 2, 1) := by decide +kernel
theorem dX10_tick_31 : decode cX10_tick 31 = .ok (.iload_n 2, 1) := by decide +kernel
theorem dX10_tick_32 : decode cX10_tick 32 = .ok (.aload_n 0, 1) := by decide +kernel
theorem dX10_tick_33 : decode cX10_tick 33 = .ok (.getfield 7, 3) := by decide +kernel
theorem dX10_tick_36 : decode cX10_tick 36 = .ok (.iconst 1, 1) := by decide +kernel
theorem dX10_tick_37 : decode cX10_tick 37 = .ok (.iaload, 1) := by decide +kernel
theorem dX10_tick_38 : decode cX10_tick 38 = .ok (.if_icmp .ge 126, 3) := by decide +kernel
theorem dX10_tick_41 : decode cX10_tick 41 = .ok (.aload_n 0, 1) := by decide +kernel
theorem dX10_tick_42 : decode cX10_tick 42 = .ok (.iload_n 2, 1) := by decide +kernel
theorem dX10_tick_43 : decode cX10_tick 43 = .ok (.invokevirtual 76, 3) := by decide +kernel
theorem dX10_tick_46 : decode cX10_tick 46 = .ok (.ifCond .eq 112, 3) := by decide +kernel
theorem dX10_tick_49 : decode cX10_tick 49 = .ok (.aload_n 0, 1) := by decide +kernel
theorem dX10_tick_50 : decode cX10_tick 50 = .ok (.iload_n 2, 1) := by decide +kernel
theorem dX10_tick_51 : decode cX10_tick 51 = .ok (.invokevirtual 61, 3) := by decide +kernel
theorem dX10_tick_54 : decode cX10_tick 54 = .ok (.ifCond .eq 6, 3) := by decide +kernel
theorem dX10_tick_57 : decode cX10_tick 57 = .ok (.goto 101, 3) := by decide +kernel
theorem dX10_tick_60 : decode cX10_tick 60 = .ok (.aload_n 0, 1) := by decide +kernel
theorem dX10_tick_61 : decode cX10_tick 61 = .ok (.getfield 7, 3) := by decide +kernel
theorem dX10_tick_64 : decode cX10_tick 64 = .ok (.iload_n 2, 1) := by decide +kernel
theorem dX10_tick_65 : decode cX10_tick 65 = .ok (.bipush 7, 2) := by decide +kernel
theorem dX10_tick_67 : decode cX10_tick 67 = .ok (.invokestatic 35, 3) := by decide +kernel
theorem dX10_tick_70 : decode cX10_tick 70 = .ok (.dup2, 1) := by decide +kernel
theorem dX10_tick_71 : decode cX10_tick 71 = .ok (.iaload, 1) := by decide +kernel
theorem dX10_tick_72 : decode cX10_tick 72 = .ok (.aload_n 0, 1) := by decide +kernel
theorem dX10_tick_73 : decode cX10_tick 73 = .ok (.getfield 7, 3) := by decide +kernel
theorem dX10_tick_76 : decode cX10_tick 76 = .ok (.bipush 9, 2) := by decide +kernel
theorem dX10_tick_78 : decode cX10_tick 78 = .ok (.iaload, 1) := by decide +kernel
theorem dX10_tick_79 : decode cX10_tick 79 = .ok (.aload_n 0, 1) := by decide +kernel
theorem dX10_tick_80 : decode cX10_tick 80 = .ok (.iload_n 2, 1) := by decide +kernel
theorem dX10_tick_81 : decode cX10_tick 81 = .ok (.invokevirtual 68, 3) := by decide +kernel
theorem dX10_tick_84 : decode cX10_tick 84 = .ok (.imul, 1) := by decide +kernel
theorem dX10_tick_85 : decode cX10_tick 85 = .ok (.iadd, 1) := by decide +kernel
theorem dX10_tick_86 : decode cX10_tick 86 = .ok (.iastore, 1) := by decide +kernel
theorem dX10_tick_87 : decode cX10_tick 87 = .ok (.aload_n 0, 1) := by decide +kernel
theorem dX10_tick_88 : decode cX10_tick 88 = .ok (.getfield 7, 3) := by decide +kernel
theorem dX10_tick_91 : decode cX10_tick 91 = .ok (.iload_n 2, 1) := by decide +kernel
theorem dX10_tick_92 : decode cX10_tick 92 = .ok (.bipush 7, 2) := by decide +kernel
theorem dX10_tick_94 : decode cX10_tick 94 = .ok (.invokestatic 35, 3) := by decide +kernel
theorem dX10_tick_97 : decode cX10_tick 97 = .ok (.iaload, 1) := by decide +kernel
theorem dX10_tick_98 : decode cX10_tick 98 = .ok (.aload_n 0, 1) := by decide +kernel
theorem dX10_tick_99 : decode cX10_tick 99 = .ok (.getfield 7, 3) := by decide +kernel
theorem dX10_tick_102 : decode cX10_tick 102 = .ok (.bipush 11, 2) := by decide +kernel
theorem dX10_tick_104 : decode cX10_tick 104 = .ok (.iaload, 1) := by decide +kernel
theorem dX10_tick_105 : decode cX10_tick 105 = .ok (.if_icmp .le 53, 3) := by decide +kernel
theorem dX10_tick_108 : decode cX10_tick 108 = .ok (.iload_n 1, 1) := by decide +kernel
theorem dX10_tick_109 : decode cX10_tick 109 = .ok (.iconst 1, 1) := by decide +kernel
theorem dX10_tick_110 : decode cX10_tick 110 = .ok (.iload_n 2, 1) := by decide +kernel
theorem dX10_tick_111 : decode cX10_tick 111 = .ok (.ishl, 1) := by decide +kernel
theorem dX10_tick_112 : decode cX10_tick 112 = .ok (.ior, 1) := by decide +kernel
theorem dX10_tick_113 : decode cX10_tick 113 = .ok (.istore_n 1, 1) := by decide +kernel
theorem dX10_tick_114 : decode cX10_tick 114 = .ok (.aload_n 0, 1) := by decide +kernel
theorem dX10_tick_115 : decode cX10_tick 115 = .ok (.getfield 7, 3) := by decide +kernel
theorem dX10_tick_118 : decode cX10_tick 118 = .ok (.bipush 7, 2) := by decide +kernel
theorem dX10_tick_120 : decode cX10_tick 120 = .ok (.dup2, 1) := by decide +kernel
theorem dX10_tick_121 : decode cX10_tick 121 = .ok (.iaload, 1) := by decide +kernel
theorem dX10_tick_122 : decode cX10_tick 122 = .ok (.aload_n 0, 1) := by decide +kernel
theorem dX10_tick_123 : decode cX10_tick 123 = .ok (.getfield 7, 3) := by decide +kernel
theorem dX10_tick_126 : decode cX10_tick 126 = .ok (.iload_n 2, 1) := by decide +kernel
theorem dX10_tick_127 : decode cX10_tick 127 = .ok (.bipush 7, 2) := by decide +kernel
theorem dX10_tick_129 : decode cX10_tick 129 = .ok (.invokestatic 35, 3) := by decide +kernel
theorem dX10_tick_132 : decode cX10_tick 132 = .ok (.iaload, 1) := by decide +kernel
theorem dX10_tick_133 : decode cX10_tick 133 = .ok (.iadd, 1) := by decide +kernel
theorem dX10_tick_134 : decode cX10_tick 134 = .ok (.iastore, 1) := by decide +kernel
theorem dX10_tick_135 : decode cX10_tick 135 = .ok (.aload_n 0, 1) := by decide +kernel
theorem dX10_tick_136 : decode cX10_tick 136 = .ok (.getfield 7, 3) := by decide +kernel
theorem dX10_tick_139 : decode cX10_tick 139 = .ok (.iload_n 2, 1) := by decide +kernel
theorem dX10_tick_140 : decode cX10_tick 140 = .ok (.bipush 7, 2) := by decide +kernel
theorem dX10_tick_142 : decode cX10_tick 142 = .ok (.invokestatic 35, 3) := by decide +kernel
theorem dX10_tick_145 : decode cX10_tick 145 = .ok (.iconst 0, 1) := by decide +kernel
theorem dX10_tick_146 : decode cX10_tick 146 = .ok (.iastore, 1) := by decide +kernel
theorem dX10_tick_147 : decode cX10_tick 147 = .ok (.aload_n 0, 1) := by decide +kernel
theorem dX10_tick_148 : decode cX10_tick 148 = .ok (.getfield 7, 3) := by decide +kernel
theorem dX10_tick_151 : decode cX10_tick 151 = .ok (.iload_n 2, 1) := by decide +kernel
theorem dX10_tick_152 : decode cX10_tick 152 = .ok (.iconst 5, 1) := by decide +kernel
theorem dX10_tick_153 : decode cX10_tick 153 = .ok (.invokestatic 35, 3) := by decide +kernel
theorem dX10_tick_156 : decode cX10_tick 156 = .ok (.iconst 1, 1) := by decide +kernel
theorem dX10_tick_157 : decode cX10_tick 157 = .ok (.iastore, 1) := by decide +kernel
theorem dX10_tick_158 : decode cX10_tick 158 = .ok (.iinc 2 1, 3) := by decide +kernel
theorem dX10_tick_161 : decode cX10_tick 161 = .ok (.goto (-130), 3) := by decide +kernel
theorem dX10_tick_164 : decode cX10_tick 164 = .ok (.aload_n 0, 1) := by decide +kernel
theorem dX10_tick_165 : decode cX10_tick 165 = .ok (.getfield 7, 3) := by decide +kernel
theorem dX10_tick_168 : decode cX10_tick 168 = .ok (.iconst 2, 1) := by decide +kernel
theorem dX10_tick_169 : decode cX10_tick 169 = .ok (.dup2, 1) := by decide +kernel
theorem dX10_tick_170 : decode cX10_tick 170 = .ok (.iaload, 1) := by decide +kernel
theorem dX10_tick_171 : decode cX10_tick 171 = .ok (.aload_n 0, 1) := by decide +kernel
theorem dX10_tick_172 : decode cX10_tick 172 = .ok (.getfield 7, 3) := by decide +kernel
theorem dX10_tick_175 : decode cX10_tick 175 = .ok (.bipush 12, 2) := by decide +kernel
theorem dX10_tick_177 : decode cX10_tick 177 = .ok (.iaload, 1) := by decide +kernel
theorem dX10_tick_178 : decode cX10_tick 178 = .ok (.iadd, 1) := by decide +kernel
theorem dX10_tick_179 : decode cX10_tick 179 = .ok (.iastore, 1) := by decide +kernel
theorem dX10_tick_180 : decode cX10_tick 180 = .ok (.aload_n 0, 1) := by decide +kernel
theorem dX10_tick_181 : decode cX10_tick 181 = .ok (.getfield 7, 3) := by decide +kernel
theorem dX10_tick_184 : decode cX10_tick 184 = .ok (.iconst 3, 1) := by decide +kernel
theorem dX10_tick_185 : decode cX10_tick 185 = .ok (.dup2, 1) := by decide +kernel
theorem dX10_tick_186 : decode cX10_tick 186 = .ok (.iaload, 1) := by decide +kernel
theorem dX10_tick_187 : decode cX10_tick 187 = .ok (.aload_n 0, 1) := by decide +kernel
theorem dX10_tick_188 : decode cX10_tick 188 = .ok (.getfield 7, 3) := by decide +kernel
theorem dX10_tick_191 : decode cX10_tick 191 = .ok (.bipush 12, 2) := by decide +kernel
theorem dX10_tick_193 : decode cX10_tick 193 = .ok (.iaload, 1) := by decide +kernel
theorem dX10_tick_194 : decode cX10_tick 194 = .ok (.iadd, 1) := by decide +kernel
theorem dX10_tick_195 : decode cX10_tick 195 = .ok (.iastore, 1) := by decide +kernel
theorem dX10_tick_196 : decode cX10_tick 196 = .ok (.aload_n 0, 1) := by decide +kernel
theorem dX10_tick_197 : decode cX10_tick 197 = .ok (.getfield 7, 3) := by decide +kernel
theorem dX10_tick_200 : decode cX10_tick 200 = .ok (.bipush 8, 2) := by decide +kernel
theorem dX10_tick_202 : decode cX10_tick 202 = .ok (.dup2, 1) := by decide +kernel
theorem dX10_tick_203 : decode cX10_tick 203 = .ok (.iaload, 1) := by decide +kernel
theorem dX10_tick_204 : decode cX10_tick 204 = .ok (.iconst 1, 1) := by decide +kernel
theorem dX10_tick_205 : decode cX10_tick 205 = .ok (.iadd, 1) := by decide +kernel
theorem dX10_tick_206 : decode cX10_tick 206 = .ok (.iastore, 1) := by decide +kernel
theorem dX10_tick_207 : decode cX10_tick 207 = .ok (.iload_n 1, 1) := by decide +kernel
theorem dX10_tick_208 : decode cX10_tick 208 = .ok (.ireturn, 1) := by decide +kernel
theorem dX10_spends_0 : decode cX10_spends 0 = .ok (.aload_n 0, 1) := by decide +kernel
theorem dX10_spends_1 : decode cX10_spends 1 = .ok (.getfield 7, 3) := by decide +kernel
theorem dX10_spends_4 : decode cX10_spends 4 = .ok (.iload_n 1, 1) := by decide +kernel
theorem dX10_spends_5 : decode cX10_spends 5 = .ok (.bipush 7, 2) := by decide +kernel
theorem dX10_spends_7 : decode cX10_spends 7 = .ok (.invokestatic 35, 3) := by decide +kernel
theorem dX10_spends_10 : decode cX10_spends 10 = .ok (.iaload, 1) := by decide +kernel
theorem dX10_spends_11 : decode cX10_spends 11 = .ok (.istore_n 3, 1) := by decide +kernel
theorem dX10_spends_12 : decode cX10_spends 12 = .ok (.aload_n 0, 1) := by decide +kernel
theorem dX10_spends_13 : decode cX10_spends 13 = .ok (.iload_n 1, 1) := by decide +kernel
theorem dX10_spends_14 : decode cX10_spends 14 = .ok (.invokevirtual 65, 3) := by decide +kernel
theorem dX10_spends_17 : decode cX10_spends 17 = .ok (.istore 4, 2) := by decide +kernel
theorem dX10_spends_19 : decode cX10_spends 19 = .ok (.aload_n 0, 1) := by decide +kernel
theorem dX10_spends_20 : decode cX10_spends 20 = .ok (.iload_n 1, 1) := by decide +kernel
theorem dX10_spends_21 : decode cX10_spends 21 = .ok (.invokevirtual 68, 3) := by decide +kernel
theorem dX10_spends_24 : decode cX10_spends 24 = .ok (.istore 5, 2) := by decide +kernel
theorem dX10_spends_26 : decode cX10_spends 26 = .ok (.iload_n 2, 1) := by decide +kernel
theorem dX10_spends_27 : decode cX10_spends 27 = .ok (.istore 6, 2) := by decide +kernel
theorem dX10_spends_29 : decode cX10_spends 29 = .ok (.aload_n 0, 1) := by decide +kernel
theorem dX10_spends_30 : decode cX10_spends 30 = .ok (.iconst 0, 1) := by decide +kernel
theorem dX10_spends_31 : decode cX10_spends 31 = .ok (.putfield 90, 3) := by decide +kernel
theorem dX10_spends_34 : decode cX10_spends 34 = .ok (.aload_n 0, 1) := by decide +kernel
theorem dX10_spends_35 : decode cX10_spends 35 = .ok (.getfield 7, 3) := by decide +kernel
theorem dX10_spends_38 : decode cX10_spends 38 = .ok (.bipush 13, 2) := by decide +kernel
theorem dX10_spends_40 : decode cX10_spends 40 = .ok (.iaload, 1) := by decide +kernel
theorem dX10_spends_41 : decode cX10_spends 41 = .ok (.ifCond .ne 28, 3) := by decide +kernel
theorem dX10_spends_44 : decode cX10_spends 44 = .ok (.aload_n 0, 1) := by decide +kernel
theorem dX10_spends_45 : decode cX10_spends 45 = .ok (.iload 6, 2) := by decide +kernel
theorem dX10_spends_47 : decode cX10_spends 47 = .ok (.iload_n 3, 1) := by decide +kernel
theorem dX10_spends_48 : decode cX10_spends 48 = .ok (.if_icmp .ge 8, 3) := by decide +kernel
theorem dX10_spends_51 : decode cX10_spends 51 = .ok (.iload 6, 2) := by decide +kernel
theorem dX10_spends_53 : decode cX10_spends 53 = .ok (.goto 4, 3) := by decide +kernel
theorem dX10_spends_56 : decode cX10_spends 56 = .ok (.iload_n 3, 1) := by decide +kernel
theorem dX10_spends_57 : decode cX10_spends 57 = .ok (.putfield 90, 3) := by decide +kernel
theorem dX10_spends_60 : decode cX10_spends 60 = .ok (.iload 6, 2) := by decide +kernel
theorem dX10_spends_62 : decode cX10_spends 62 = .ok (.aload_n 0, 1) := by decide +kernel
theorem dX10_spends_63 : decode cX10_spends 63 = .ok (.getfield 90, 3) := by decide +kernel
theorem dX10_spends_66 : decode cX10_spends 66 = .ok (.isub, 1) := by decide +kernel
theorem dX10_spends_67 : decode cX10_spends 67 = .ok (.istore 6, 2) := by decide +kernel
theorem dX10_spends_69 : decode cX10_spends 69 = .ok (.iload 6, 2) := by decide +kernel
theorem dX10_spends_71 : decode cX10_spends 71 = .ok (.iload 4, 2) := by decide +kernel
theorem dX10_spends_73 : decode cX10_spends 73 = .ok (.idiv, 1) := by decide +kernel
theorem dX10_spends_74 : decode cX10_spends 74 = .ok (.iload 5, 2) := by decide +kernel
theorem dX10_spends_76 : decode cX10_spends 76 = .ok (.if_icmp .ge 11, 3) := by decide +kernel
theorem dX10_spends_79 : decode cX10_spends 79 = .ok (.iload 6, 2) := by decide +kernel
theorem dX10_spends_81 : decode cX10_spends 81 = .ok (.iload 4, 2) := by decide +kernel
theorem dX10_spends_83 : decode cX10_spends 83 = .ok (.idiv, 1) := by decide +kernel
theorem dX10_spends_84 : decode cX10_spends 84 = .ok (.goto 5, 3) := by decide +kernel
theorem dX10_spends_87 : decode cX10_spends 87 = .ok (.iload 5, 2) := by decide +kernel
theorem dX10_spends_89 : decode cX10_spends 89 = .ok (.istore 7, 2) := by decide +kernel
theorem dX10_spends_91 : decode cX10_spends 91 = .ok (.aload_n 0, 1) := by decide +kernel
theorem dX10_spends_92 : decode cX10_spends 92 = .ok (.iload 4, 2) := by decide +kernel
theorem dX10_spends_94 : decode cX10_spends 94 = .ok (.iload 7, 2) := by decide +kernel
theorem dX10_spends_96 : decode cX10_spends 96 = .ok (.imul, 1) := by decide +kernel
theorem dX10_spends_97 : decode cX10_spends 97 = .ok (.putfield 93, 3) := by decide +kernel
theorem dX10_spends_100 : decode cX10_spends 100 = .ok (.iload 6, 2) := by decide +kernel
theorem dX10_spends_102 : decode cX10_spends 102 = .ok (.aload_n 0, 1) := by decide +kernel
theorem dX10_spends_103 : decode cX10_spends 103 = .ok (.getfield 93, 3) := by decide +kernel
theorem dX10_spends_106 : decode cX10_spends 106 = .ok (.isub, 1) := by decide +kernel
theorem dX10_spends_107 : decode cX10_spends 107 = .ok (.istore 6, 2) := by decide +kernel
theorem dX10_spends_109 : decode cX10_spends 109 = .ok (.aload_n 0, 1) := by decide +kernel
theorem dX10_spends_110 : decode cX10_spends 110 = .ok (.getfield 7, 3) := by decide +kernel
theorem dX10_spends_113 : decode cX10_spends 113 = .ok (.bipush 13, 2) := by decide +kernel
theorem dX10_spends_115 : decode cX10_spends 115 = .ok (.iaload, 1) := by decide +kernel
theorem dX10_spends_116 : decode cX10_spends 116 = .ok (.iconst 1, 1) := by decide +kernel
theorem dX10_spends_117 : decode cX10_spends 117 = .ok (.if_icmp .ne 19, 3) := by decide +kernel
theorem dX10_spends_120 : decode cX10_spends 120 = .ok (.aload_n 0, 1) := by decide +kernel
theorem dX10_spends_121 : decode cX10_spends 121 = .ok (.iload 6, 2) := by decide +kernel
theorem dX10_spends_123 : decode cX10_spends 123 = .ok (.iload_n 3, 1) := by decide +kernel
theorem dX10_spends_124 : decode cX10_spends 124 = .ok (.if_icmp .ge 8, 3) := by decide +kernel
theorem dX10_spends_127 : decode cX10_spends 127 = .ok (.iload 6, 2) := by decide +kernel
theorem dX10_spends_129 : decode cX10_spends 129 = .ok (.goto 4, 3) := by decide +kernel
theorem dX10_spends_132 : decode cX10_spends 132 = .ok (.iload_n 3, 1) := by decide +kernel
theorem dX10_spends_133 : decode cX10_spends 133 = .ok (.putfield 90, 3) := by decide +kernel
theorem dX10_spends_136 : decode cX10_spends 136 = .ok (.return_, 1) := by decide +kernel
theorem dX10_pays_0 : decode cX10_pays 0 = .ok (.aload_n 0, 1) := by decide +kernel
theorem dX10_pays_1 : decode cX10_pays 1 = .ok (.iload_n 1, 1) := by decide +kernel
theorem dX10_pays_2 : decode cX10_pays 2 = .ok (.iload_n 2, 1) := by decide +kernel
theorem dX10_pays_3 : decode cX10_pays 3 = .ok (.aload_n 0, 1) := by decide +kernel
theorem dX10_pays_4 : decode cX10_pays 4 = .ok (.getfield 7, 3) := by decide +kernel
theorem dX10_pays_7 : decode cX10_pays 7 = .ok (.iconst 2, 1) := by decide +kernel
theorem dX10_pays_8 : decode cX10_pays 8 = .ok (.iaload, 1) := by decide +kernel
theorem dX10_pays_9 : decode cX10_pays 9 = .ok (.if_icmp .ge 7, 3) := by decide +kernel
theorem dX10_pays_12 : decode cX10_pays 12 = .ok (.iload_n 2, 1) := by decide +kernel
theorem dX10_pays_13 : decode cX10_pays 13 = .ok (.goto 9, 3) := by decide +kernel
theorem dX10_pays_16 : decode cX10_pays 16 = .ok (.aload_n 0, 1) := by decide +kernel
theorem dX10_pays_17 : decode cX10_pays 17 = .ok (.getfield 7, 3) := by decide +kernel
theorem dX10_pays_20 : decode cX10_pays 20 = .ok (.iconst 2, 1) := by decide +kernel
theorem dX10_pays_21 : decode cX10_pays 21 = .ok (.iaload, 1) := by decide +kernel
theorem dX10_pays_22 : decode cX10_pays 22 = .ok (.invokevirtual 96, 3) := by decide +kernel
theorem dX10_pays_25 : decode cX10_pays 25 = .ok (.aload_n 0, 1) := by decide +kernel
theorem dX10_pays_26 : decode cX10_pays 26 = .ok (.getfield 90, 3) := by decide +kernel
theorem dX10_pays_29 : decode cX10_pays 29 = .ok (.aload_n 0, 1) := by decide +kernel
theorem dX10_pays_30 : decode cX10_pays 30 = .ok (.getfield 93, 3) := by decide +kernel
theorem dX10_pays_33 : decode cX10_pays 33 = .ok (.iadd, 1) := by decide +kernel
theorem dX10_pays_34 : decode cX10_pays 34 = .ok (.istore_n 3, 1) := by decide +kernel
theorem dX10_pays_35 : decode cX10_pays 35 = .ok (.aload_n 0, 1) := by decide +kernel
theorem dX10_pays_36 : decode cX10_pays 36 = .ok (.getfield 7, 3) := by decide +kernel
theorem dX10_pays_39 : decode cX10_pays 39 = .ok (.iload_n 1, 1) := by decide +kernel
theorem dX10_pays_40 : decode cX10_pays 40 = .ok (.bipush 6, 2) := by decide +kernel
theorem dX10_pays_42 : decode cX10_pays 42 = .ok (.invokestatic 35, 3) := by decide +kernel
theorem dX10_pays_45 : decode cX10_pays 45 = .ok (.aload_n 0, 1) := by decide +kernel
theorem dX10_pays_46 : decode cX10_pays 46 = .ok (.iload_n 1, 1) := by decide +kernel
theorem dX10_pays_47 : decode cX10_pays 47 = .ok (.aload_n 0, 1) := by decide +kernel
theorem dX10_pays_48 : decode cX10_pays 48 = .ok (.getfield 93, 3) := by decide +kernel
theorem dX10_pays_51 : decode cX10_pays 51 = .ok (.aload_n 0, 1) := by decide +kernel
theorem dX10_pays_52 : decode cX10_pays 52 = .ok (.iload_n 1, 1) := by decide +kernel
theorem dX10_pays_53 : decode cX10_pays 53 = .ok (.invokevirtual 65, 3) := by decide +kernel
theorem dX10_pays_56 : decode cX10_pays 56 = .ok (.idiv, 1) := by decide +kernel
theorem dX10_pays_57 : decode cX10_pays 57 = .ok (.invokevirtual 100, 3) := by decide +kernel
theorem dX10_pays_60 : decode cX10_pays 60 = .ok (.iastore, 1) := by decide +kernel
theorem dX10_pays_61 : decode cX10_pays 61 = .ok (.aload_n 0, 1) := by decide +kernel
theorem dX10_pays_62 : decode cX10_pays 62 = .ok (.getfield 7, 3) := by decide +kernel
theorem dX10_pays_65 : decode cX10_pays 65 = .ok (.iload_n 1, 1) := by decide +kernel
theorem dX10_pays_66 : decode cX10_pays 66 = .ok (.bipush 7, 2) := by decide +kernel
theorem dX10_pays_68 : decode cX10_pays 68 = .ok (.invokestatic 35, 3) := by decide +kernel
theorem dX10_pays_71 : decode cX10_pays 71 = .ok (.dup2, 1) := by decide +kernel
theorem dX10_pays_72 : decode cX10_pays 72 = .ok (.iaload, 1) := by decide +kernel
theorem dX10_pays_73 : decode cX10_pays 73 = .ok (.aload_n 0, 1) := by decide +kernel
theorem dX10_pays_74 : decode cX10_pays 74 = .ok (.getfield 90, 3) := by decide +kernel
theorem dX10_pays_77 : decode cX10_pays 77 = .ok (.isub, 1) := by decide +kernel
theorem dX10_pays_78 : decode cX10_pays 78 = .ok (.iastore, 1) := by decide +kernel
theorem dX10_pays_79 : decode cX10_pays 79 = .ok (.aload_n 0, 1) := by decide +kernel
theorem dX10_pays_80 : decode cX10_pays 80 = .ok (.getfield 7, 3) := by decide +kernel
theorem dX10_pays_83 : decode cX10_pays 83 = .ok (.iload_n 1, 1) := by decide +kernel
theorem dX10_pays_84 : decode cX10_pays 84 = .ok (.bipush 8, 2) := by decide +kernel
theorem dX10_pays_86 : decode cX10_pays 86 = .ok (.invokestatic 35, 3) := by decide +kernel
theorem dX10_pays_89 : decode cX10_pays 89 = .ok (.dup2, 1) := by decide +kernel
theorem dX10_pays_90 : decode cX10_pays 90 = .ok (.iaload, 1) := by decide +kernel
theorem dX10_pays_91 : decode cX10_pays 91 = .ok (.iload_n 3, 1) := by decide +kernel
theorem dX10_pays_92 : decode cX10_pays 92 = .ok (.iadd, 1) := by decide +kernel
theorem dX10_pays_93 : decode cX10_pays 93 = .ok (.iastore, 1) := by decide +kernel
theorem dX10_pays_94 : decode cX10_pays 94 = .ok (.aload_n 0, 1) := by decide +kernel
theorem dX10_pays_95 : decode cX10_pays 95 = .ok (.getfield 7, 3) := by decide +kernel
theorem dX10_pays_98 : decode cX10_pays 98 = .ok (.iconst 2, 1) := by decide +kernel
theorem dX10_pays_99 : decode cX10_pays 99 = .ok (.dup2, 1) := by decide +kernel
theorem dX10_pays_100 : decode cX10_pays 100 = .ok (.iaload, 1) := by decide +kernel
theorem dX10_pays_101 : decode cX10_pays 101 = .ok (.iload_n 3, 1) := by decide +kernel
theorem dX10_pays_102 : decode cX10_pays 102 = .ok (.isub, 1) := by decide +kernel
theorem dX10_pays_103 : decode cX10_pays 103 = .ok (.iastore, 1) := by decide +kernel
theorem dX10_pays_104 : decode cX10_pays 104 = .ok (.aload_n 0, 1) := by decide +kernel
theorem dX10_pays_105 : decode cX10_pays 105 = .ok (.getfield 7, 3) := by decide +kernel
theorem dX10_pays_108 : decode cX10_pays 108 = .ok (.iconst 4, 1) := by decide +kernel
theorem dX10_pays_109 : decode cX10_pays 109 = .ok (.dup2, 1) := by decide +kernel
theorem dX10_pays_110 : decode cX10_pays 110 = .ok (.iaload, 1) := by decide +kernel
theorem dX10_pays_111 : decode cX10_pays 111 = .ok (.aload_n 0, 1) := by decide +kernel
theorem dX10_pays_112 : decode cX10_pays 112 = .ok (.getfield 90, 3) := by decide +kernel
theorem dX10_pays_115 : decode cX10_pays 115 = .ok (.iadd, 1) := by decide +kernel
theorem dX10_pays_116 : decode cX10_pays 116 = .ok (.iastore, 1) := by decide +kernel
theorem dX10_pays_117 : decode cX10_pays 117 = .ok (.aload_n 0, 1) := by decide +kernel
theorem dX10_pays_118 : decode cX10_pays 118 = .ok (.getfield 7, 3) := by decide +kernel
theorem dX10_pays_121 : decode cX10_pays 121 = .ok (.iconst 5, 1) := by decide +kernel
theorem dX10_pays_122 : decode cX10_pays 122 = .ok (.dup2, 1) := by decide +kernel
theorem dX10_pays_123 : decode cX10_pays 123 = .ok (.iaload, 1) := by decide +kernel
theorem dX10_pays_124 : decode cX10_pays 124 = .ok (.aload_n 0, 1) := by decide +kernel
theorem dX10_pays_125 : decode cX10_pays 125 = .ok (.getfield 93, 3) := by decide +kernel
theorem dX10_pays_128 : decode cX10_pays 128 = .ok (.iadd, 1) := by decide +kernel
theorem dX10_pays_129 : decode cX10_pays 129 = .ok (.iastore, 1) := by decide +kernel
theorem dX10_pays_130 : decode cX10_pays 130 = .ok (.iload_n 3, 1) := by decide +kernel
theorem dX10_pays_131 : decode cX10_pays 131 = .ok (.ireturn, 1) := by decide +kernel
theorem dX10_pay_0 : decode cX10_pay 0 = .ok (.aload_n 0, 1) := by decide +kernel
theorem dX10_pay_1 : decode cX10_pay 1 = .ok (.iload_n 1, 1) := by decide +kernel
theorem dX10_pay_2 : decode cX10_pay 2 = .ok (.invokevirtual 76, 3) := by decide +kernel
theorem dX10_pay_5 : decode cX10_pay 5 = .ok (.ifCond .eq 14, 3) := by decide +kernel
theorem dX10_pay_8 : decode cX10_pay 8 = .ok (.iload_n 2, 1) := by decide +kernel
theorem dX10_pay_9 : decode cX10_pay 9 = .ok (.iconst 1, 1) := by decide +kernel
theorem dX10_pay_10 : decode cX10_pay 10 = .ok (.sipush 999, 3) := by decide +kernel
theorem dX10_pay_13 : decode cX10_pay 13 = .ok (.invokestatic 31, 3) := by decide +kernel
theorem dX10_pay_16 : decode cX10_pay 16 = .ok (.ifCond .ne 6, 3) := by decide +kernel
theorem dX10_pay_19 : decode cX10_pay 19 = .ok (.ldc 71, 2) := by decide +kernel
theorem dX10_pay_21 : decode cX10_pay 21 = .ok (.ireturn, 1) := by decide +kernel
theorem dX10_pay_22 : decode cX10_pay 22 = .ok (.aload_n 0, 1) := by decide +kernel
theorem dX10_pay_23 : decode cX10_pay 23 = .ok (.iload_n 1, 1) := by decide +kernel
theorem dX10_pay_24 : decode cX10_pay 24 = .ok (.invokevirtual 61, 3) := by decide +kernel
theorem dX10_pay_27 : decode cX10_pay 27 = .ok (.ifCond .ne 12, 3) := by decide +kernel
theorem dX10_pay_30 : decode cX10_pay 30 = .ok (.aload_n 0, 1) := by decide +kernel
theorem dX10_pay_31 : decode cX10_pay 31 = .ok (.getfield 7, 3) := by decide +kernel
theorem dX10_pay_34 : decode cX10_pay 34 = .ok (.iconst 2, 1) := by decide +kernel
theorem dX10_pay_35 : decode cX10_pay 35 = .ok (.iaload, 1) := by decide +kernel
theorem dX10_pay_36 : decode cX10_pay 36 = .ok (.ifCond .ne 6, 3) := by decide +kernel
theorem dX10_pay_39 : decode cX10_pay 39 = .ok (.ldc 82, 2) := by decide +kernel
theorem dX10_pay_41 : decode cX10_pay 41 = .ok (.ireturn, 1) := by decide +kernel
theorem dX10_pay_42 : decode cX10_pay 42 = .ok (.aload_n 0, 1) := by decide +kernel
theorem dX10_pay_43 : decode cX10_pay 43 = .ok (.invokevirtual 73, 3) := by decide +kernel
theorem dX10_pay_46 : decode cX10_pay 46 = .ok (.aload_n 0, 1) := by decide +kernel
theorem dX10_pay_47 : decode cX10_pay 47 = .ok (.iload_n 1, 1) := by decide +kernel
theorem dX10_pay_48 : decode cX10_pay 48 = .ok (.iload_n 2, 1) := by decide +kernel
theorem dX10_pay_49 : decode cX10_pay 49 = .ok (.invokevirtual 103, 3) := by decide +kernel
theorem dX10_pay_52 : decode cX10_pay 52 = .ok (.ireturn, 1) := by decide +kernel
theorem dX10_isBehind_0 : decode cX10_isBehind 0 = .ok (.iload_n 3, 1) := by decide +kernel
theorem dX10_isBehind_1 : decode cX10_isBehind 1 = .ok (.ifCond .ne 7, 3) := by decide +kernel
theorem dX10_isBehind_4 : decode cX10_isBehind 4 = .ok (.iconst 0, 1) := by decide +kernel
theorem dX10_isBehind_5 : decode cX10_isBehind 5 = .ok (.goto 45, 3) := by decide +kernel
theorem dX10_isBehind_8 : decode cX10_isBehind 8 = .ok (.iload_n 3, 1) := by decide +kernel
theorem dX10_isBehind_9 : decode cX10_isBehind 9 = .ok (.iconst 1, 1) := by decide +kernel
theorem dX10_isBehind_10 : decode cX10_isBehind 10 = .ok (.if_icmp .ne 29, 3) := by decide +kernel
theorem dX10_isBehind_13 : decode cX10_isBehind 13 = .ok (.aload_n 0, 1) := by decide +kernel
theorem dX10_isBehind_14 : decode cX10_isBehind 14 = .ok (.getfield 7, 3) := by decide +kernel
theorem dX10_isBehind_17 : decode cX10_isBehind 17 = .ok (.iload_n 2, 1) := by decide +kernel
theorem dX10_isBehind_18 : decode cX10_isBehind 18 = .ok (.bipush 7, 2) := by decide +kernel
theorem dX10_isBehind_20 : decode cX10_isBehind 20 = .ok (.invokestatic 35, 3) := by decide +kernel
theorem dX10_isBehind_23 : decode cX10_isBehind 23 = .ok (.iaload, 1) := by decide +kernel
theorem dX10_isBehind_24 : decode cX10_isBehind 24 = .ok (.aload_n 0, 1) := by decide +kernel
theorem dX10_isBehind_25 : decode cX10_isBehind 25 = .ok (.getfield 7, 3) := by decide +kernel
theorem dX10_isBehind_28 : decode cX10_isBehind 28 = .ok (.iload_n 1, 1) := by decide +kernel
theorem dX10_isBehind_29 : decode cX10_isBehind 29 = .ok (.bipush 7, 2) := by decide +kernel
theorem dX10_isBehind_31 : decode cX10_isBehind 31 = .ok (.invokestatic 35, 3) := by decide +kernel
theorem dX10_isBehind_34 : decode cX10_isBehind 34 = .ok (.iaload, 1) := by decide +kernel
theorem dX10_isBehind_35 : decode cX10_isBehind 35 = .ok (.isub, 1) := by decide +kernel
theorem dX10_isBehind_36 : decode cX10_isBehind 36 = .ok (.goto 14, 3) := by decide +kernel
theorem dX10_isBehind_39 : decode cX10_isBehind 39 = .ok (.aload_n 0, 1) := by decide +kernel
theorem dX10_isBehind_40 : decode cX10_isBehind 40 = .ok (.iload_n 1, 1) := by decide +kernel
theorem dX10_isBehind_41 : decode cX10_isBehind 41 = .ok (.invokevirtual 106, 3) := by decide +kernel
theorem dX10_isBehind_44 : decode cX10_isBehind 44 = .ok (.aload_n 0, 1) := by decide +kernel
theorem dX10_isBehind_45 : decode cX10_isBehind 45 = .ok (.iload_n 2, 1) := by decide +kernel
theorem dX10_isBehind_46 : decode cX10_isBehind 46 = .ok (.invokevirtual 106, 3) := by decide +kernel
theorem dX10_isBehind_49 : decode cX10_isBehind 49 = .ok (.isub, 1) := by decide +kernel
theorem dX10_isBehind_50 : decode cX10_isBehind 50 = .ok (.istore 4, 2) := by decide +kernel
theorem dX10_isBehind_52 : decode cX10_isBehind 52 = .ok (.iload 4, 2) := by decide +kernel
theorem dX10_isBehind_54 : decode cX10_isBehind 54 = .ok (.ifCond .gt 13, 3) := by decide +kernel
theorem dX10_isBehind_57 : decode cX10_isBehind 57 = .ok (.iload 4, 2) := by decide +kernel
theorem dX10_isBehind_59 : decode cX10_isBehind 59 = .ok (.ifCond .ne 12, 3) := by decide +kernel
theorem dX10_isBehind_62 : decode cX10_isBehind 62 = .ok (.iload_n 1, 1) := by decide +kernel
theorem dX10_isBehind_63 : decode cX10_isBehind 63 = .ok (.iload_n 2, 1) := by decide +kernel
theorem dX10_isBehind_64 : decode cX10_isBehind 64 = .ok (.if_icmp .le 7, 3) := by decide +kernel
theorem dX10_isBehind_67 : decode cX10_isBehind 67 = .ok (.iconst 1, 1) := by decide +kernel
theorem dX10_isBehind_68 : decode cX10_isBehind 68 = .ok (.goto 4, 3) := by decide +kernel
theorem dX10_isBehind_71 : decode cX10_isBehind 71 = .ok (.iconst 0, 1) := by decide +kernel
theorem dX10_isBehind_72 : decode cX10_isBehind 72 = .ok (.ireturn, 1) := by decide +kernel
theorem dX10_laysTurns_0 : decode cX10_laysTurns 0 = .ok (.iconst 0, 1) := by decide +kernel
theorem dX10_laysTurns_1 : decode cX10_laysTurns 1 = .ok (.istore_n 2, 1) := by decide +kernel
theorem dX10_laysTurns_2 : decode cX10_laysTurns 2 = .ok (.iconst 0, 1) := by decide +kernel
theorem dX10_laysTurns_3 : decode cX10_laysTurns 3 = .ok (.istore_n 3, 1) := by decide +kernel
theorem dX10_laysTurns_4 : decode cX10_laysTurns 4 = .ok (.iload_n 3, 1) := by decide +kernel
theorem dX10_laysTurns_5 : decode cX10_laysTurns 5 = .ok (.aload_n 0, 1) := by decide +kernel
theorem dX10_laysTurns_6 : decode cX10_laysTurns 6 = .ok (.getfield 7, 3) := by decide +kernel
theorem dX10_laysTurns_9 : decode cX10_laysTurns 9 = .ok (.iconst 1, 1) := by decide +kernel
theorem dX10_laysTurns_10 : decode cX10_laysTurns 10 = .ok (.iaload, 1) := by decide +kernel
theorem dX10_laysTurns_11 : decode cX10_laysTurns 11 = .ok (.if_icmp .ge 87, 3) := by decide +kernel
theorem dX10_laysTurns_14 : decode cX10_laysTurns 14 = .ok (.aload_n 0, 1) := by decide +kernel
theorem dX10_laysTurns_15 : decode cX10_laysTurns 15 = .ok (.iload_n 3, 1) := by decide +kernel
theorem dX10_laysTurns_16 : decode cX10_laysTurns 16 = .ok (.invokevirtual 76, 3) := by decide +kernel
theorem dX10_laysTurns_19 : decode cX10_laysTurns 19 = .ok (.ifCond .eq 73, 3) := by decide +kernel
theorem dX10_laysTurns_22 : decode cX10_laysTurns 22 = .ok (.aload_n 0, 1) := by decide +kernel
theorem dX10_laysTurns_23 : decode cX10_laysTurns 23 = .ok (.iload_n 3, 1) := by decide +kernel
theorem dX10_laysTurns_24 : decode cX10_laysTurns 24 = .ok (.invokevirtual 61, 3) := by decide +kernel
theorem dX10_laysTurns_27 : decode cX10_laysTurns 27 = .ok (.ifCond .eq 6, 3) := by decide +kernel
theorem dX10_laysTurns_30 : decode cX10_laysTurns 30 = .ok (.goto 62, 3) := by decide +kernel
theorem dX10_laysTurns_33 : decode cX10_laysTurns 33 = .ok (.iload_n 2, 1) := by decide +kernel
theorem dX10_laysTurns_34 : decode cX10_laysTurns 34 = .ok (.istore 4, 2) := by decide +kernel
theorem dX10_laysTurns_36 : decode cX10_laysTurns 36 = .ok (.iload 4, 2) := by decide +kernel
theorem dX10_laysTurns_38 : decode cX10_laysTurns 38 = .ok (.ifCond .le 43, 3) := by decide +kernel
theorem dX10_laysTurns_41 : decode cX10_laysTurns 41 = .ok (.aload_n 0, 1) := by decide +kernel
theorem dX10_laysTurns_42 : decode cX10_laysTurns 42 = .ok (.aload_n 0, 1) := by decide +kernel
theorem dX10_laysTurns_43 : decode cX10_laysTurns 43 = .ok (.getfield 28, 3) := by decide +kernel
theorem dX10_laysTurns_46 : decode cX10_laysTurns 46 = .ok (.iload 4, 2) := by decide +kernel
theorem dX10_laysTurns_48 : decode cX10_laysTurns 48 = .ok (.iconst 1, 1) := by decide +kernel
theorem dX10_laysTurns_49 : decode cX10_laysTurns 49 = .ok (.isub, 1) := by decide +kernel
theorem dX10_laysTurns_50 : decode cX10_laysTurns 50 = .ok (.iaload, 1) := by decide +kernel
theorem dX10_laysTurns_51 : decode cX10_laysTurns 51 = .ok (.iload_n 3, 1) := by decide +kernel
theorem dX10_laysTurns_52 : decode cX10_laysTurns 52 = .ok (.iload_n 1, 1) := by decide +kernel
theorem dX10_laysTurns_53 : decode cX10_laysTurns 53 = .ok (.invokevirtual 109, 3) := by decide +kernel
theorem dX10_laysTurns_56 : decode cX10_laysTurns 56 = .ok (.ifCond .eq 25, 3) := by decide +kernel
theorem dX10_laysTurns_59 : decode cX10_laysTurns 59 = .ok (.aload_n 0, 1) := by decide +kernel
theorem dX10_laysTurns_60 : decode cX10_laysTurns 60 = .ok (.getfield 28, 3) := by decide +kernel
theorem dX10_laysTurns_63 : decode cX10_laysTurns 63 = .ok (.iload 4, 2) := by decide +kernel
theorem dX10_laysTurns_65 : decode cX10_laysTurns 65 = .ok (.aload_n 0, 1) := by decide +kernel
theorem dX10_laysTurns_66 : decode cX10_laysTurns 66 = .ok (.getfield 28, 3) := by decide +kernel
theorem dX10_laysTurns_69 : decode cX10_laysTurns 69 = .ok (.iload 4, 2) := by decide +kernel
theorem dX10_laysTurns_71 : decode cX10_laysTurns 71 = .ok (.iconst 1, 1) := by decide +kernel
theorem dX10_laysTurns_72 : decode cX10_laysTurns 72 = .ok (.isub, 1) := by decide +kernel
theorem dX10_laysTurns_73 : decode cX10_laysTurns 73 = .ok (.iaload, 1) := by decide +kernel
theorem dX10_laysTurns_74 : decode cX10_laysTurns 74 = .ok (.iastore, 1) := by decide +kernel
theorem dX10_laysTurns_75 : decode cX10_laysTurns 75 = .ok (.iinc 4 (-1), 3) := by decide +kernel
theorem dX10_laysTurns_78 : decode cX10_laysTurns 78 = .ok (.goto (-42), 3) := by decide +kernel
theorem dX10_laysTurns_81 : decode cX10_laysTurns 81 = .ok (.aload_n 0, 1) := by decide +kernel
theorem dX10_laysTurns_82 : decode cX10_laysTurns 82 = .ok (.getfield 28, 3) := by decide +kernel
theorem dX10_laysTurns_85 : decode cX10_laysTurns 85 = .ok (.iload 4, 2) := by decide +kernel
theorem dX10_laysTurns_87 : decode cX10_laysTurns 87 = .ok (.iload_n 3, 1) := by decide +kernel
theorem dX10_laysTurns_88 : decode cX10_laysTurns 88 = .ok (.iastore, 1) := by decide +kernel
theorem dX10_laysTurns_89 : decode cX10_laysTurns 89 = .ok (.iinc 2 1, 3) := by decide +kernel
theorem dX10_laysTurns_92 : decode cX10_laysTurns 92 = .ok (.iinc 3 1, 3) := by decide +kernel
theorem dX10_laysTurns_95 : decode cX10_laysTurns 95 = .ok (.goto (-91), 3) := by decide +kernel
theorem dX10_laysTurns_98 : decode cX10_laysTurns 98 = .ok (.iload_n 2, 1) := by decide +kernel
theorem dX10_laysTurns_99 : decode cX10_laysTurns 99 = .ok (.ireturn, 1) := by decide +kernel
theorem dX10_payAll_0 : decode cX10_payAll 0 = .ok (.aload_n 0, 1) := by decide +kernel
theorem dX10_payAll_1 : decode cX10_payAll 1 = .ok (.getfield 7, 3) := by decide +kernel
theorem dX10_payAll_4 : decode cX10_payAll 4 = .ok (.iconst 2, 1) := by decide +kernel
theorem dX10_payAll_5 : decode cX10_payAll 5 = .ok (.iaload, 1) := by decide +kernel
theorem dX10_payAll_6 : decode cX10_payAll 6 = .ok (.ifCond .ne 6, 3) := by decide +kernel
theorem dX10_payAll_9 : decode cX10_payAll 9 = .ok (.ldc 82, 2) := by decide +kernel
theorem dX10_payAll_11 : decode cX10_payAll 11 = .ok (.ireturn, 1) := by decide +kernel
theorem dX10_payAll_12 : decode cX10_payAll 12 = .ok (.aload_n 0, 1) := by decide +kernel
theorem dX10_payAll_13 : decode cX10_payAll 13 = .ok (.invokevirtual 73, 3) := by decide +kernel
theorem dX10_payAll_16 : decode cX10_payAll 16 = .ok (.aload_n 0, 1) := by decide +kernel
theorem dX10_payAll_17 : decode cX10_payAll 17 = .ok (.aload_n 0, 1) := by decide +kernel
theorem dX10_payAll_18 : decode cX10_payAll 18 = .ok (.getfield 7, 3) := by decide +kernel
theorem dX10_payAll_21 : decode cX10_payAll 21 = .ok (.bipush 14, 2) := by decide +kernel
theorem dX10_payAll_23 : decode cX10_payAll 23 = .ok (.iaload, 1) := by decide +kernel
theorem dX10_payAll_24 : decode cX10_payAll 24 = .ok (.invokevirtual 112, 3) := by decide +kernel
theorem dX10_payAll_27 : decode cX10_payAll 27 = .ok (.istore_n 1, 1) := by decide +kernel
theorem dX10_payAll_28 : decode cX10_payAll 28 = .ok (.iconst 0, 1) := by decide +kernel
theorem dX10_payAll_29 : decode cX10_payAll 29 = .ok (.istore_n 2, 1) := by decide +kernel
theorem dX10_payAll_30 : decode cX10_payAll 30 = .ok (.iconst 0, 1) := by decide +kernel
theorem dX10_payAll_31 : decode cX10_payAll 31 = .ok (.istore_n 3, 1) := by decide +kernel
theorem dX10_payAll_32 : decode cX10_payAll 32 = .ok (.iload_n 3, 1) := by decide +kernel
theorem dX10_payAll_33 : decode cX10_payAll 33 = .ok (.iload_n 1, 1) := by decide +kernel
theorem dX10_payAll_34 : decode cX10_payAll 34 = .ok (.if_icmp .ge 28, 3) := by decide +kernel
theorem dX10_payAll_37 : decode cX10_payAll 37 = .ok (.iload_n 2, 1) := by decide +kernel
theorem dX10_payAll_38 : decode cX10_payAll 38 = .ok (.aload_n 0, 1) := by decide +kernel
theorem dX10_payAll_39 : decode cX10_payAll 39 = .ok (.aload_n 0, 1) := by decide +kernel
theorem dX10_payAll_40 : decode cX10_payAll 40 = .ok (.getfield 28, 3) := by decide +kernel
theorem dX10_payAll_43 : decode cX10_payAll 43 = .ok (.iload_n 3, 1) := by decide +kernel
theorem dX10_payAll_44 : decode cX10_payAll 44 = .ok (.iaload, 1) := by decide +kernel
theorem dX10_payAll_45 : decode cX10_payAll 45 = .ok (.aload_n 0, 1) := by decide +kernel
theorem dX10_payAll_46 : decode cX10_payAll 46 = .ok (.getfield 7, 3) := by decide +kernel
theorem dX10_payAll_49 : decode cX10_payAll 49 = .ok (.iconst 2, 1) := by decide +kernel
theorem dX10_payAll_50 : decode cX10_payAll 50 = .ok (.iaload, 1) := by decide +kernel
theorem dX10_payAll_51 : decode cX10_payAll 51 = .ok (.invokevirtual 103, 3) := by decide +kernel
theorem dX10_payAll_54 : decode cX10_payAll 54 = .ok (.iadd, 1) := by decide +kernel
theorem dX10_payAll_55 : decode cX10_payAll 55 = .ok (.istore_n 2, 1) := by decide +kernel
theorem dX10_payAll_56 : decode cX10_payAll 56 = .ok (.iinc 3 1, 3) := by decide +kernel
theorem dX10_payAll_59 : decode cX10_payAll 59 = .ok (.goto (-27), 3) := by decide +kernel
theorem dX10_payAll_62 : decode cX10_payAll 62 = .ok (.iload_n 2, 1) := by decide +kernel
theorem dX10_payAll_63 : decode cX10_payAll 63 = .ok (.ireturn, 1) := by decide +kernel
theorem dX10_found_0 : decode cX10_found 0 = .ok (.aload_n 0, 1) := by decide +kernel
theorem dX10_found_1 : decode cX10_found 1 = .ok (.iload_n 1, 1) := by decide +kernel
theorem dX10_found_2 : decode cX10_found 2 = .ok (.invokevirtual 76, 3) := by decide +kernel
theorem dX10_found_5 : decode cX10_found 5 = .ok (.ifCond .ne 6, 3) := by decide +kernel
theorem dX10_found_8 : decode cX10_found 8 = .ok (.ldc 71, 2) := by decide +kernel
theorem dX10_found_10 : decode cX10_found 10 = .ok (.ireturn, 1) := by decide +kernel
theorem dX10_found_11 : decode cX10_found 11 = .ok (.iconst 3, 1) := by decide +kernel
theorem dX10_found_12 : decode cX10_found 12 = .ok (.aload_n 0, 1) := by decide +kernel
theorem dX10_found_13 : decode cX10_found 13 = .ok (.getfield 7, 3) := by decide +kernel
theorem dX10_found_16 : decode cX10_found 16 = .ok (.bipush 10, 2) := by decide +kernel
theorem dX10_found_18 : decode cX10_found 18 = .ok (.iaload, 1) := by decide +kernel
theorem dX10_found_19 : decode cX10_found 19 = .ok (.imul, 1) := by decide +kernel
theorem dX10_found_20 : decode cX10_found 20 = .ok (.aload_n 0, 1) := by decide +kernel
theorem dX10_found_21 : decode cX10_found 21 = .ok (.iload_n 1, 1) := by decide +kernel
theorem dX10_found_22 : decode cX10_found 22 = .ok (.invokevirtual 115, 3) := by decide +kernel
theorem dX10_found_25 : decode cX10_found 25 = .ok (.imul, 1) := by decide +kernel
theorem dX10_found_26 : decode cX10_found 26 = .ok (.istore_n 2, 1) := by decide +kernel
theorem dX10_found_27 : decode cX10_found 27 = .ok (.aload_n 0, 1) := by decide +kernel
theorem dX10_found_28 : decode cX10_found 28 = .ok (.iload_n 1, 1) := by decide +kernel
theorem dX10_found_29 : decode cX10_found 29 = .ok (.invokevirtual 61, 3) := by decide +kernel
theorem dX10_found_32 : decode cX10_found 32 = .ok (.ifCond .eq 13, 3) := by decide +kernel
theorem dX10_found_35 : decode cX10_found 35 = .ok (.aload_n 0, 1) := by decide +kernel
theorem dX10_found_36 : decode cX10_found 36 = .ok (.getfield 7, 3) := by decide +kernel
theorem dX10_found_39 : decode cX10_found 39 = .ok (.iconst 2, 1) := by decide +kernel
theorem dX10_found_40 : decode cX10_found 40 = .ok (.iaload, 1) := by decide +kernel
theorem dX10_found_41 : decode cX10_found 41 = .ok (.iload_n 2, 1) := by decide +kernel
theorem dX10_found_42 : decode cX10_found 42 = .ok (.if_icmp .ge 6, 3) := by decide +kernel
theorem dX10_found_45 : decode cX10_found 45 = .ok (.ldc 82, 2) := by decide +kernel
theorem dX10_found_47 : decode cX10_found 47 = .ok (.ireturn, 1) := by decide +kernel
theorem dX10_found_48 : decode cX10_found 48 = .ok (.aload_n 0, 1) := by decide +kernel
theorem dX10_found_49 : decode cX10_found 49 = .ok (.invokevirtual 73, 3) := by decide +kernel
theorem dX10_found_52 : decode cX10_found 52 = .ok (.aload_n 0, 1) := by decide +kernel
theorem dX10_found_53 : decode cX10_found 53 = .ok (.getfield 7, 3) := by decide +kernel
theorem dX10_found_56 : decode cX10_found 56 = .ok (.iconst 2, 1) := by decide +kernel
theorem dX10_found_57 : decode cX10_found 57 = .ok (.dup2, 1) := by decide +kernel
theorem dX10_found_58 : decode cX10_found 58 = .ok (.iaload, 1) := by decide +kernel
theorem dX10_found_59 : decode cX10_found 59 = .ok (.iload_n 2, 1) := by decide +kernel
theorem dX10_found_60 : decode cX10_found 60 = .ok (.isub, 1) := by decide +kernel
theorem dX10_found_61 : decode cX10_found 61 = .ok (.iastore, 1) := by decide +kernel
theorem dX10_found_62 : decode cX10_found 62 = .ok (.aload_n 0, 1) := by decide +kernel
theorem dX10_found_63 : decode cX10_found 63 = .ok (.getfield 7, 3) := by decide +kernel
theorem dX10_found_66 : decode cX10_found 66 = .ok (.bipush 6, 2) := by decide +kernel
theorem dX10_found_68 : decode cX10_found 68 = .ok (.dup2, 1) := by decide +kernel
theorem dX10_found_69 : decode cX10_found 69 = .ok (.iaload, 1) := by decide +kernel
theorem dX10_found_70 : decode cX10_found 70 = .ok (.iload_n 2, 1) := by decide +kernel
theorem dX10_found_71 : decode cX10_found 71 = .ok (.iadd, 1) := by decide +kernel
theorem dX10_found_72 : decode cX10_found 72 = .ok (.iastore, 1) := by decide +kernel
theorem dX10_found_73 : decode cX10_found 73 = .ok (.aload_n 0, 1) := by decide +kernel
theorem dX10_found_74 : decode cX10_found 74 = .ok (.getfield 7, 3) := by decide +kernel
theorem dX10_found_77 : decode cX10_found 77 = .ok (.iload_n 1, 1) := by decide +kernel
theorem dX10_found_78 : decode cX10_found 78 = .ok (.bipush 8, 2) := by decide +kernel
theorem dX10_found_80 : decode cX10_found 80 = .ok (.invokestatic 35, 3) := by decide +kernel
theorem dX10_found_83 : decode cX10_found 83 = .ok (.dup2, 1) := by decide +kernel
theorem dX10_found_84 : decode cX10_found 84 = .ok (.iaload, 1) := by decide +kernel
theorem dX10_found_85 : decode cX10_found 85 = .ok (.iload_n 2, 1) := by decide +kernel
theorem dX10_found_86 : decode cX10_found 86 = .ok (.iadd, 1) := by decide +kernel
theorem dX10_found_87 : decode cX10_found 87 = .ok (.iastore, 1) := by decide +kernel
theorem dX10_found_88 : decode cX10_found 88 = .ok (.aload_n 0, 1) := by decide +kernel
theorem dX10_found_89 : decode cX10_found 89 = .ok (.getfield 7, 3) := by decide +kernel
theorem dX10_found_92 : decode cX10_found 92 = .ok (.iload_n 1, 1) := by decide +kernel
theorem dX10_found_93 : decode cX10_found 93 = .ok (.iconst 5, 1) := by decide +kernel
theorem dX10_found_94 : decode cX10_found 94 = .ok (.invokestatic 35, 3) := by decide +kernel
theorem dX10_found_97 : decode cX10_found 97 = .ok (.iconst 0, 1) := by decide +kernel
theorem dX10_found_98 : decode cX10_found 98 = .ok (.iastore, 1) := by decide +kernel
theorem dX10_found_99 : decode cX10_found 99 = .ok (.aload_n 0, 1) := by decide +kernel
theorem dX10_found_100 : decode cX10_found 100 = .ok (.getfield 7, 3) := by decide +kernel
theorem dX10_found_103 : decode cX10_found 103 = .ok (.iload_n 1, 1) := by decide +kernel
theorem dX10_found_104 : decode cX10_found 104 = .ok (.bipush 6, 2) := by decide +kernel
theorem dX10_found_106 : decode cX10_found 106 = .ok (.invokestatic 35, 3) := by decide +kernel
theorem dX10_found_109 : decode cX10_found 109 = .ok (.aload_n 0, 1) := by decide +kernel
theorem dX10_found_110 : decode cX10_found 110 = .ok (.getfield 7, 3) := by decide +kernel
theorem dX10_found_113 : decode cX10_found 113 = .ok (.iconst 0, 1) := by decide +kernel
theorem dX10_found_114 : decode cX10_found 114 = .ok (.iaload, 1) := by decide +kernel
theorem dX10_found_115 : decode cX10_found 115 = .ok (.iastore, 1) := by decide +kernel
theorem dX10_found_116 : decode cX10_found 116 = .ok (.iload_n 2, 1) := by decide +kernel
theorem dX10_found_117 : decode cX10_found 117 = .ok (.ireturn, 1) := by decide +kernel
theorem dX10_slotAt_0 : decode cX10_slotAt 0 = .ok (.sipush 687, 3) := by decide +kernel
theorem dX10_slotAt_3 : decode cX10_slotAt 3 = .ok (.sipush 688, 3) := by decide +kernel
theorem dX10_slotAt_6 : decode cX10_slotAt 6 = .ok (.iload_n 0, 1) := by decide +kernel
theorem dX10_slotAt_7 : decode cX10_slotAt 7 = .ok (.imul, 1) := by decide +kernel
theorem dX10_slotAt_8 : decode cX10_slotAt 8 = .ok (.iadd, 1) := by decide +kernel
theorem dX10_slotAt_9 : decode cX10_slotAt 9 = .ok (.ireturn, 1) := by decide +kernel
theorem dX10_take_0 : decode cX10_take 0 = .ok (.iload_n 1, 1) := by decide +kernel
theorem dX10_take_1 : decode cX10_take 1 = .ok (.iconst 0, 1) := by decide +kernel
theorem dX10_take_2 : decode cX10_take 2 = .ok (.iconst 1, 1) := by decide +kernel
theorem dX10_take_3 : decode cX10_take 3 = .ok (.invokestatic 31, 3) := by decide +kernel
theorem dX10_take_6 : decode cX10_take 6 = .ok (.ifCond .ne 6, 3) := by decide +kernel
theorem dX10_take_9 : decode cX10_take 9 = .ok (.ldc 71, 2) := by decide +kernel
theorem dX10_take_11 : decode cX10_take 11 = .ok (.ireturn, 1) := by decide +kernel
theorem dX10_take_12 : decode cX10_take 12 = .ok (.aload_n 0, 1) := by decide +kernel
theorem dX10_take_13 : decode cX10_take 13 = .ok (.invokevirtual 73, 3) := by decide +kernel
theorem dX10_take_16 : decode cX10_take 16 = .ok (.aload_n 0, 1) := by decide +kernel
theorem dX10_take_17 : decode cX10_take 17 = .ok (.getfield 7, 3) := by decide +kernel
theorem dX10_take_20 : decode cX10_take 20 = .ok (.iload_n 1, 1) := by decide +kernel
theorem dX10_take_21 : decode cX10_take 21 = .ok (.invokestatic 118, 3) := by decide +kernel
theorem dX10_take_24 : decode cX10_take 24 = .ok (.iconst 1, 1) := by decide +kernel
theorem dX10_take_25 : decode cX10_take 25 = .ok (.iastore, 1) := by decide +kernel
theorem dX10_take_26 : decode cX10_take 26 = .ok (.iconst 0, 1) := by decide +kernel
theorem dX10_take_27 : decode cX10_take 27 = .ok (.istore_n 2, 1) := by decide +kernel
theorem dX10_take_28 : decode cX10_take 28 = .ok (.iload_n 2, 1) := by decide +kernel
theorem dX10_take_29 : decode cX10_take 29 = .ok (.sipush 687, 3) := by decide +kernel
theorem dX10_take_32 : decode cX10_take 32 = .ok (.if_icmp .ge 28, 3) := by decide +kernel
theorem dX10_take_35 : decode cX10_take 35 = .ok (.aload_n 0, 1) := by decide +kernel
theorem dX10_take_36 : decode cX10_take 36 = .ok (.getfield 7, 3) := by decide +kernel
theorem dX10_take_39 : decode cX10_take 39 = .ok (.iload_n 1, 1) := by decide +kernel
theorem dX10_take_40 : decode cX10_take 40 = .ok (.invokestatic 118, 3) := by decide +kernel
theorem dX10_take_43 : decode cX10_take 43 = .ok (.iconst 1, 1) := by decide +kernel
theorem dX10_take_44 : decode cX10_take 44 = .ok (.iadd, 1) := by decide +kernel
theorem dX10_take_45 : decode cX10_take 45 = .ok (.iload_n 2, 1) := by decide +kernel
theorem dX10_take_46 : decode cX10_take 46 = .ok (.iadd, 1) := by decide +kernel
theorem dX10_take_47 : decode cX10_take 47 = .ok (.aload_n 0, 1) := by decide +kernel
theorem dX10_take_48 : decode cX10_take 48 = .ok (.getfield 7, 3) := by decide +kernel
theorem dX10_take_51 : decode cX10_take 51 = .ok (.iload_n 2, 1) := by decide +kernel
theorem dX10_take_52 : decode cX10_take 52 = .ok (.iaload, 1) := by decide +kernel
theorem dX10_take_53 : decode cX10_take 53 = .ok (.iastore, 1) := by decide +kernel
theorem dX10_take_54 : decode cX10_take 54 = .ok (.iinc 2 1, 3) := by decide +kernel
theorem dX10_take_57 : decode cX10_take 57 = .ok (.goto (-29), 3) := by decide +kernel
theorem dX10_take_60 : decode cX10_take 60 = .ok (.aload_n 0, 1) := by decide +kernel
theorem dX10_take_61 : decode cX10_take 61 = .ok (.getfield 7, 3) := by decide +kernel
theorem dX10_take_64 : decode cX10_take 64 = .ok (.iconst 0, 1) := by decide +kernel
theorem dX10_take_65 : decode cX10_take 65 = .ok (.iaload, 1) := by decide +kernel
theorem dX10_take_66 : decode cX10_take 66 = .ok (.ireturn, 1) := by decide +kernel
theorem dX10_restore_0 : decode cX10_restore 0 = .ok (.iload_n 1, 1) := by decide +kernel
theorem dX10_restore_1 : decode cX10_restore 1 = .ok (.iconst 0, 1) := by decide +kernel
theorem dX10_restore_2 : decode cX10_restore 2 = .ok (.iconst 1, 1) := by decide +kernel
theorem dX10_restore_3 : decode cX10_restore 3 = .ok (.invokestatic 31, 3) := by decide +kernel
theorem dX10_restore_6 : decode cX10_restore 6 = .ok (.ifCond .ne 6, 3) := by decide +kernel
theorem dX10_restore_9 : decode cX10_restore 9 = .ok (.ldc 71, 2) := by decide +kernel
theorem dX10_restore_11 : decode cX10_restore 11 = .ok (.ireturn, 1) := by decide +kernel
theorem dX10_restore_12 : decode cX10_restore 12 = .ok (.aload_n 0, 1) := by decide +kernel
theorem dX10_restore_13 : decode cX10_restore 13 = .ok (.getfield 7, 3) := by decide +kernel
theorem dX10_restore_16 : decode cX10_restore 16 = .ok (.iload_n 1, 1) := by decide +kernel
theorem dX10_restore_17 : decode cX10_restore 17 = .ok (.invokestatic 118, 3) := by decide +kernel
theorem dX10_restore_20 : decode cX10_restore 20 = .ok (.iaload, 1) := by decide +kernel
theorem dX10_restore_21 : decode cX10_restore 21 = .ok (.ifCond .ne 6, 3) := by decide +kernel
theorem dX10_restore_24 : decode cX10_restore 24 = .ok (.ldc 82, 2) := by decide +kernel
theorem dX10_restore_26 : decode cX10_restore 26 = .ok (.ireturn, 1) := by decide +kernel
theorem dX10_restore_27 : decode cX10_restore 27 = .ok (.aload_n 0, 1) := by decide +kernel
theorem dX10_restore_28 : decode cX10_restore 28 = .ok (.invokevirtual 73, 3) := by decide +kernel
theorem dX10_restore_31 : decode cX10_restore 31 = .ok (.iconst 0, 1) := by decide +kernel
theorem dX10_restore_32 : decode cX10_restore 32 = .ok (.istore_n 2, 1) := by decide +kernel
theorem dX10_restore_33 : decode cX10_restore 33 = .ok (.iload_n 2, 1) := by decide +kernel
theorem dX10_restore_34 : decode cX10_restore 34 = .ok (.sipush 687, 3) := by decide +kernel
theorem dX10_restore_37 : decode cX10_restore 37 = .ok (.if_icmp .ge 28, 3) := by decide +kernel
theorem dX10_restore_40 : decode cX10_restore 40 = .ok (.aload_n 0, 1) := by decide +kernel
theorem dX10_restore_41 : decode cX10_restore 41 = .ok (.getfield 7, 3) := by decide +kernel
theorem dX10_restore_44 : decode cX10_restore 44 = .ok (.iload_n 2, 1) := by decide +kernel
theorem dX10_restore_45 : decode cX10_restore 45 = .ok (.aload_n 0, 1) := by decide +kernel
theorem dX10_restore_46 : decode cX10_restore 46 = .ok (.getfield 7, 3) := by decide +kernel
theorem dX10_restore_49 : decode cX10_restore 49 = .ok (.iload_n 1, 1) := by decide +kernel
theorem dX10_restore_50 : decode cX10_restore 50 = .ok (.invokestatic 118, 3) := by decide +kernel
theorem dX10_restore_53 : decode cX10_restore 53 = .ok (.iconst 1, 1) := by decide +kernel
theorem dX10_restore_54 : decode cX10_restore 54 = .ok (.iadd, 1) := by decide +kernel
theorem dX10_restore_55 : decode cX10_restore 55 = .ok (.iload_n 2, 1) := by decide +kernel
theorem dX10_restore_56 : decode cX10_restore 56 = .ok (.iadd, 1) := by decide +kernel
theorem dX10_restore_57 : decode cX10_restore 57 = .ok (.iaload, 1) := by decide +kernel
theorem dX10_restore_58 : decode cX10_restore 58 = .ok (.iastore, 1) := by decide +kernel
theorem dX10_restore_59 : decode cX10_restore 59 = .ok (.iinc 2 1, 3) := by decide +kernel
theorem dX10_restore_62 : decode cX10_restore 62 = .ok (.goto (-29), 3) := by decide +kernel
theorem dX10_restore_65 : decode cX10_restore 65 = .ok (.aload_n 0, 1) := by decide +kernel
theorem dX10_restore_66 : decode cX10_restore 66 = .ok (.getfield 7, 3) := by decide +kernel
theorem dX10_restore_69 : decode cX10_restore 69 = .ok (.iconst 0, 1) := by decide +kernel
theorem dX10_restore_70 : decode cX10_restore 70 = .ok (.iaload, 1) := by decide +kernel
theorem dX10_restore_71 : decode cX10_restore 71 = .ok (.ireturn, 1) := by decide +kernel
theorem dX10_undo_0 : decode cX10_undo 0 = .ok (.aload_n 0, 1) := by decide +kernel
theorem dX10_undo_1 : decode cX10_undo 1 = .ok (.getfield 39, 3) := by decide +kernel
theorem dX10_undo_4 : decode cX10_undo 4 = .ok (.ifCond .ne 6, 3) := by decide +kernel
theorem dX10_undo_7 : decode cX10_undo 7 = .ok (.ldc 82, 2) := by decide +kernel
theorem dX10_undo_9 : decode cX10_undo 9 = .ok (.ireturn, 1) := by decide +kernel
theorem dX10_undo_10 : decode cX10_undo 10 = .ok (.aload_n 0, 1) := by decide +kernel
theorem dX10_undo_11 : decode cX10_undo 11 = .ok (.dup, 1) := by decide +kernel
theorem dX10_undo_12 : decode cX10_undo 12 = .ok (.getfield 39, 3) := by decide +kernel
theorem dX10_undo_15 : decode cX10_undo 15 = .ok (.iconst 1, 1) := by decide +kernel
theorem dX10_undo_16 : decode cX10_undo 16 = .ok (.isub, 1) := by decide +kernel
theorem dX10_undo_17 : decode cX10_undo 17 = .ok (.putfield 39, 3) := by decide +kernel
theorem dX10_undo_20 : decode cX10_undo 20 = .ok (.iconst 0, 1) := by decide +kernel
theorem dX10_undo_21 : decode cX10_undo 21 = .ok (.istore_n 1, 1) := by decide +kernel
theorem dX10_undo_22 : decode cX10_undo 22 = .ok (.iload_n 1, 1) := by decide +kernel
theorem dX10_undo_23 : decode cX10_undo 23 = .ok (.sipush 2063, 3) := by decide +kernel
theorem dX10_undo_26 : decode cX10_undo 26 = .ok (.if_icmp .ge 30, 3) := by decide +kernel
theorem dX10_undo_29 : decode cX10_undo 29 = .ok (.aload_n 0, 1) := by decide +kernel
theorem dX10_undo_30 : decode cX10_undo 30 = .ok (.getfield 7, 3) := by decide +kernel
theorem dX10_undo_33 : decode cX10_undo 33 = .ok (.iload_n 1, 1) := by decide +kernel
theorem dX10_undo_34 : decode cX10_undo 34 = .ok (.aload_n 0, 1) := by decide +kernel
theorem dX10_undo_35 : decode cX10_undo 35 = .ok (.getfield 13, 3) := by decide +kernel
theorem dX10_undo_38 : decode cX10_undo 38 = .ok (.sipush 2063, 3) := by decide +kernel
theorem dX10_undo_41 : decode cX10_undo 41 = .ok (.aload_n 0, 1) := by decide +kernel
theorem dX10_undo_42 : decode cX10_undo 42 = .ok (.getfield 39, 3) := by decide +kernel
theorem dX10_undo_45 : decode cX10_undo 45 = .ok (.imul, 1) := by decide +kernel
theorem dX10_undo_46 : decode cX10_undo 46 = .ok (.iload_n 1, 1) := by decide +kernel
theorem dX10_undo_47 : decode cX10_undo 47 = .ok (.iadd, 1) := by decide +kernel
theorem dX10_undo_48 : decode cX10_undo 48 = .ok (.iaload, 1) := by decide +kernel
theorem dX10_undo_49 : decode cX10_undo 49 = .ok (.iastore, 1) := by decide +kernel
theorem dX10_undo_50 : decode cX10_undo 50 = .ok (.iinc 1 1, 3) := by decide +kernel
theorem dX10_undo_53 : decode cX10_undo 53 = .ok (.goto (-31), 3) := by decide +kernel
theorem dX10_undo_56 : decode cX10_undo 56 = .ok (.aload_n 0, 1) := by decide +kernel
theorem dX10_undo_57 : decode cX10_undo 57 = .ok (.getfield 39, 3) := by decide +kernel
theorem dX10_undo_60 : decode cX10_undo 60 = .ok (.ireturn, 1) := by decide +kernel
theorem dX10_append_0 : decode cX10_append 0 = .ok (.iload_n 1, 1) := by decide +kernel
theorem dX10_append_1 : decode cX10_append 1 = .ok (.iconst 1, 1) := by decide +kernel
theorem dX10_append_2 : decode cX10_append 2 = .ok (.sipush 255, 3) := by decide +kernel
theorem dX10_append_5 : decode cX10_append 5 = .ok (.invokestatic 31, 3) := by decide +kernel
theorem dX10_append_8 : decode cX10_append 8 = .ok (.ifCond .ne 6, 3) := by decide +kernel
theorem dX10_append_11 : decode cX10_append 11 = .ok (.ldc 71, 2) := by decide +kernel
theorem dX10_append_13 : decode cX10_append 13 = .ok (.ireturn, 1) := by decide +kernel
theorem dX10_append_14 : decode cX10_append 14 = .ok (.aload_n 0, 1) := by decide +kernel
theorem dX10_append_15 : decode cX10_append 15 = .ok (.getfield 121, 3) := by decide +kernel
theorem dX10_append_18 : decode cX10_append 18 = .ok (.bipush 40, 2) := by decide +kernel
theorem dX10_append_20 : decode cX10_append 20 = .ok (.if_icmp .ne 6, 3) := by decide +kernel
theorem dX10_append_23 : decode cX10_append 23 = .ok (.ldc 72, 2) := by decide +kernel
theorem dX10_append_25 : decode cX10_append 25 = .ok (.ireturn, 1) := by decide +kernel
theorem dX10_append_26 : decode cX10_append 26 = .ok (.aload_n 0, 1) := by decide +kernel
theorem dX10_append_27 : decode cX10_append 27 = .ok (.getfield 16, 3) := by decide +kernel
theorem dX10_append_30 : decode cX10_append 30 = .ok (.aload_n 0, 1) := by decide +kernel
theorem dX10_append_31 : decode cX10_append 31 = .ok (.getfield 121, 3) := by decide +kernel
theorem dX10_append_34 : decode cX10_append 34 = .ok (.iload_n 1, 1) := by decide +kernel
theorem dX10_append_35 : decode cX10_append 35 = .ok (.iastore, 1) := by decide +kernel
theorem dX10_append_36 : decode cX10_append 36 = .ok (.aload_n 0, 1) := by decide +kernel
theorem dX10_append_37 : decode cX10_append 37 = .ok (.dup, 1) := by decide +kernel
theorem dX10_append_38 : decode cX10_append 38 = .ok (.getfield 121, 3) := by decide +kernel
theorem dX10_append_41 : decode cX10_append 41 = .ok (.iconst 1, 1) := by decide +kernel
theorem dX10_append_42 : decode cX10_append 42 = .ok (.iadd, 1) := by decide +kernel
theorem dX10_append_43 : decode cX10_append 43 = .ok (.putfield 121, 3) := by decide +kernel
theorem dX10_append_46 : decode cX10_append 46 = .ok (.aload_n 0, 1) := by decide +kernel
theorem dX10_append_47 : decode cX10_append 47 = .ok (.getfield 121, 3) := by decide +kernel
theorem dX10_append_50 : decode cX10_append 50 = .ok (.ireturn, 1) := by decide +kernel
theorem dX10_clearText_0 : decode cX10_clearText 0 = .ok (.aload_n 0, 1) := by decide +kernel
theorem dX10_clearText_1 : decode cX10_clearText 1 = .ok (.getfield 121, 3) := by decide +kernel
theorem dX10_clearText_4 : decode cX10_clearText 4 = .ok (.istore_n 1, 1) := by decide +kernel
theorem dX10_clearText_5 : decode cX10_clearText 5 = .ok (.aload_n 0, 1) := by decide +kernel
theorem dX10_clearText_6 : decode cX10_clearText 6 = .ok (.iconst 0, 1) := by decide +kernel
theorem dX10_clearText_7 : decode cX10_clearText 7 = .ok (.putfield 121, 3) := by decide +kernel
theorem dX10_clearText_10 : decode cX10_clearText 10 = .ok (.iload_n 1, 1) := by decide +kernel
theorem dX10_clearText_11 : decode cX10_clearText 11 = .ok (.ireturn, 1) := by decide +kernel
theorem dX10_next_0 : decode cX10_next 0 = .ok (.aload_n 0, 1) := by decide +kernel
theorem dX10_next_1 : decode cX10_next 1 = .ok (.getfield 124, 3) := by decide +kernel
theorem dX10_next_4 : decode cX10_next 4 = .ok (.aload_n 0, 1) := by decide +kernel
theorem dX10_next_5 : decode cX10_next 5 = .ok (.getfield 121, 3) := by decide +kernel
theorem dX10_next_8 : decode cX10_next 8 = .ok (.if_icmp .ge 15, 3) := by decide +kernel
theorem dX10_next_11 : decode cX10_next 11 = .ok (.aload_n 0, 1) := by decide +kernel
theorem dX10_next_12 : decode cX10_next 12 = .ok (.getfield 16, 3) := by decide +kernel
theorem dX10_next_15 : decode cX10_next 15 = .ok (.aload_n 0, 1) := by decide +kernel
theorem dX10_next_16 : decode cX10_next 16 = .ok (.getfield 124, 3) := by decide +kernel
theorem dX10_next_19 : decode cX10_next 19 = .ok (.iaload, 1) := by decide +kernel
theorem dX10_next_20 : decode cX10_next 20 = .ok (.goto 4, 3) := by decide +kernel
theorem dX10_next_23 : decode cX10_next 23 = .ok (.iconst (-1), 1) := by decide +kernel
theorem dX10_next_24 : decode cX10_next 24 = .ok (.ireturn, 1) := by decide +kernel
theorem dX10_begins_0 : decode cX10_begins 0 = .ok (.aload_n 0, 1) := by decide +kernel
theorem dX10_begins_1 : decode cX10_begins 1 = .ok (.invokevirtual 127, 3) := by decide +kernel
theorem dX10_begins_4 : decode cX10_begins 4 = .ok (.bipush 32, 2) := by decide +kernel
theorem dX10_begins_6 : decode cX10_begins 6 = .ok (.if_icmp .ne 16, 3) := by decide +kernel
theorem dX10_begins_9 : decode cX10_begins 9 = .ok (.aload_n 0, 1) := by decide +kernel
theorem dX10_begins_10 : decode cX10_begins 10 = .ok (.dup, 1) := by decide +kernel
theorem dX10_begins_11 : decode cX10_begins 11 = .ok (.getfield 124, 3) := by decide +kernel
theorem dX10_begins_14 : decode cX10_begins 14 = .ok (.iconst 1, 1) := by decide +kernel
theorem dX10_begins_15 : decode cX10_begins 15 = .ok (.iadd, 1) := by decide +kernel
theorem dX10_begins_16 : decode cX10_begins 16 = .ok (.putfield 124, 3) := by decide +kernel
theorem dX10_begins_19 : decode cX10_begins 19 = .ok (.goto (-19), 3) := by decide +kernel
theorem dX10_begins_22 : decode cX10_begins 22 = .ok (.aload_n 0, 1) := by decide +kernel
theorem dX10_begins_23 : decode cX10_begins 23 = .ok (.aload_n 0, 1) := by decide +kernel
theorem dX10_begins_24 : decode cX10_begins 24 = .ok (.getfield 124, 3) := by decide +kernel
theorem dX10_begins_27 : decode cX10_begins 27 = .ok (.putfield 130, 3) := by decide +kernel
theorem dX10_begins_30 : decode cX10_begins 30 = .ok (.return_, 1) := by decide +kernel
theorem dX10_allows_0 : decode cX10_allows 0 = .ok (.aload_n 0, 1) := by decide +kernel
theorem dX10_allows_1 : decode cX10_allows 1 = .ok (.getfield 133, 3) := by decide +kernel
theorem dX10_allows_4 : decode cX10_allows 4 = .ok (.ifCond .ge 15, 3) := by decide +kernel
theorem dX10_allows_7 : decode cX10_allows 7 = .ok (.iload_n 1, 1) := by decide +kernel
theorem dX10_allows_8 : decode cX10_allows 8 = .ok (.ifCond .ne 11, 3) := by decide +kernel
theorem dX10_allows_11 : decode cX10_allows 11 = .ok (.aload_n 0, 1) := by decide +kernel
theorem dX10_allows_12 : decode cX10_allows 12 = .ok (.aload_n 0, 1) := by decide +kernel
theorem dX10_allows_13 : decode cX10_allows 13 = .ok (.getfield 130, 3) := by decide +kernel
theorem dX10_allows_16 : decode cX10_allows 16 = .ok (.putfield 133, 3) := by decide +kernel
theorem dX10_allows_19 : decode cX10_allows 19 = .ok (.return_, 1) := by decide +kernel
theorem dX10_word_0 : decode cX10_word 0 = .ok (.aload_n 0, 1) := by decide +kernel
theorem dX10_word_1 : decode cX10_word 1 = .ok (.invokevirtual 136, 3) := by decide +kernel
theorem dX10_word_4 : decode cX10_word 4 = .ok (.iconst 0, 1) := by decide +kernel
theorem dX10_word_5 : decode cX10_word 5 = .ok (.istore_n 1, 1) := by decide +kernel
theorem dX10_word_6 : decode cX10_word 6 = .ok (.aload_n 0, 1) := by decide +kernel
theorem dX10_word_7 : decode cX10_word 7 = .ok (.invokevirtual 127, 3) := by decide +kernel
theorem dX10_word_10 : decode cX10_word 10 = .ok (.bipush 97, 2) := by decide +kernel
theorem dX10_word_12 : decode cX10_word 12 = .ok (.bipush 122, 2) := by decide +kernel
theorem dX10_word_14 : decode cX10_word 14 = .ok (.invokestatic 31, 3) := by decide +kernel
theorem dX10_word_17 : decode cX10_word 17 = .ok (.ifCond .eq 46, 3) := by decide +kernel
theorem dX10_word_20 : decode cX10_word 20 = .ok (.aload_n 0, 1) := by decide +kernel
theorem dX10_word_21 : decode cX10_word 21 = .ok (.getfield 124, 3) := by decide +kernel
theorem dX10_word_24 : decode cX10_word 24 = .ok (.aload_n 0, 1) := by decide +kernel
theorem dX10_word_25 : decode cX10_word 25 = .ok (.getfield 130, 3) := by decide +kernel
theorem dX10_word_28 : decode cX10_word 28 = .ok (.isub, 1) := by decide +kernel
theorem dX10_word_29 : decode cX10_word 29 = .ok (.iconst 5, 1) := by decide +kernel
theorem dX10_word_30 : decode cX10_word 30 = .ok (.if_icmp .ge 18, 3) := by decide +kernel
theorem dX10_word_33 : decode cX10_word 33 = .ok (.bipush 32, 2) := by decide +kernel
theorem dX10_word_35 : decode cX10_word 35 = .ok (.iload_n 1, 1) := by decide +kernel
theorem dX10_word_36 : decode cX10_word 36 = .ok (.imul, 1) := by decide +kernel
theorem dX10_word_37 : decode cX10_word 37 = .ok (.aload_n 0, 1) := by decide +kernel
theorem dX10_word_38 : decode cX10_word 38 = .ok (.invokevirtual 127, 3) := by decide +kernel
theorem dX10_word_41 : decode cX10_word 41 = .ok (.iadd, 1) := by decide +kernel
theorem dX10_word_42 : decode cX10_word 42 = .ok (.bipush 96, 2) := by decide +kernel
theorem dX10_word_44 : decode cX10_word 44 = .ok (.isub, 1) := by decide +kernel
theorem dX10_word_45 : decode cX10_word 45 = .ok (.goto 4, 3) := by decide +kernel
theorem dX10_word_48 : decode cX10_word 48 = .ok (.iconst 0, 1) := by decide +kernel
theorem dX10_word_49 : decode cX10_word 49 = .ok (.istore_n 1, 1) := by decide +kernel
theorem dX10_word_50 : decode cX10_word 50 = .ok (.aload_n 0, 1) := by decide +kernel
theorem dX10_word_51 : decode cX10_word 51 = .ok (.dup, 1) := by decide +kernel
theorem dX10_word_52 : decode cX10_word 52 = .ok (.getfield 124, 3) := by decide +kernel
theorem dX10_word_55 : decode cX10_word 55 = .ok (.iconst 1, 1) := by decide +kernel
theorem dX10_word_56 : decode cX10_word 56 = .ok (.iadd, 1) := by decide +kernel
theorem dX10_word_57 : decode cX10_word 57 = .ok (.putfield 124, 3) := by decide +kernel
theorem dX10_word_60 : decode cX10_word 60 = .ok (.goto (-54), 3) := by decide +kernel
theorem dX10_word_63 : decode cX10_word 63 = .ok (.aload_n 0, 1) := by decide +kernel
theorem dX10_word_64 : decode cX10_word 64 = .ok (.getfield 124, 3) := by decide +kernel
theorem dX10_word_67 : decode cX10_word 67 = .ok (.aload_n 0, 1) := by decide +kernel
theorem dX10_word_68 : decode cX10_word 68 = .ok (.getfield 130, 3) := by decide +kernel
theorem dX10_word_71 : decode cX10_word 71 = .ok (.isub, 1) := by decide +kernel
theorem dX10_word_72 : decode cX10_word 72 = .ok (.bipush 6, 2) := by decide +kernel
theorem dX10_word_74 : decode cX10_word 74 = .ok (.if_icmp .ge 7, 3) := by decide +kernel
theorem dX10_word_77 : decode cX10_word 77 = .ok (.iload_n 1, 1) := by decide +kernel
theorem dX10_word_78 : decode cX10_word 78 = .ok (.goto 4, 3) := by decide +kernel
theorem dX10_word_81 : decode cX10_word 81 = .ok (.iconst 0, 1) := by decide +kernel
theorem dX10_word_82 : decode cX10_word 82 = .ok (.ireturn, 1) := by decide +kernel
theorem dX10_number_0 : decode cX10_number 0 = .ok (.aload_n 0, 1) := by decide +kernel
theorem dX10_number_1 : decode cX10_number 1 = .ok (.invokevirtual 136, 3) := by decide +kernel
theorem dX10_number_4 : decode cX10_number 4 = .ok (.iconst 0, 1) := by decide +kernel
theorem dX10_number_5 : decode cX10_number 5 = .ok (.istore_n 1, 1) := by decide +kernel
theorem dX10_number_6 : decode cX10_number 6 = .ok (.aload_n 0, 1) := by decide +kernel
theorem dX10_number_7 : decode cX10_number 7 = .ok (.invokevirtual 127, 3) := by decide +kernel
theorem dX10_number_10 : decode cX10_number 10 = .ok (.bipush 48, 2) := by decide +kernel
theorem dX10_number_12 : decode cX10_number 12 = .ok (.bipush 57, 2) := by decide +kernel
theorem dX10_number_14 : decode cX10_number 14 = .ok (.invokestatic 31, 3) := by decide +kernel
theorem dX10_number_17 : decode cX10_number 17 = .ok (.ifCond .eq 46, 3) := by decide +kernel
theorem dX10_number_20 : decode cX10_number 20 = .ok (.aload_n 0, 1) := by decide +kernel
theorem dX10_number_21 : decode cX10_number 21 = .ok (.getfield 124, 3) := by decide +kernel
theorem dX10_number_24 : decode cX10_number 24 = .ok (.aload_n 0, 1) := by decide +kernel
theorem dX10_number_25 : decode cX10_number 25 = .ok (.getfield 130, 3) := by decide +kernel
theorem dX10_number_28 : decode cX10_number 28 = .ok (.isub, 1) := by decide +kernel
theorem dX10_number_29 : decode cX10_number 29 = .ok (.iconst 2, 1) := by decide +kernel
theorem dX10_number_30 : decode cX10_number 30 = .ok (.if_icmp .ge 18, 3) := by decide +kernel
theorem dX10_number_33 : decode cX10_number 33 = .ok (.bipush 10, 2) := by decide +kernel
theorem dX10_number_35 : decode cX10_number 35 = .ok (.iload_n 1, 1) := by decide +kernel
theorem dX10_number_36 : decode cX10_number 36 = .ok (.imul, 1) := by decide +kernel
theorem dX10_number_37 : decode cX10_number 37 = .ok (.aload_n 0, 1) := by decide +kernel
theorem dX10_number_38 : decode cX10_number 38 = .ok (.invokevirtual 127, 3) := by decide +kernel
theorem dX10_number_41 : decode cX10_number 41 = .ok (.iadd, 1) := by decide +kernel
theorem dX10_number_42 : decode cX10_number 42 = .ok (.bipush 48, 2) := by decide +kernel
theorem dX10_number_44 : decode cX10_number 44 = .ok (.isub, 1) := by decide +kernel
theorem dX10_number_45 : decode cX10_number 45 = .ok (.goto 4, 3) := by decide +kernel
theorem dX10_number_48 : decode cX10_number 48 = .ok (.iload_n 1, 1) := by decide +kernel
theorem dX10_number_49 : decode cX10_number 49 = .ok (.istore_n 1, 1) := by decide +kernel
theorem dX10_number_50 : decode cX10_number 50 = .ok (.aload_n 0, 1) := by decide +kernel
theorem dX10_number_51 : decode cX10_number 51 = .ok (.dup, 1) := by decide +kernel
theorem dX10_number_52 : decode cX10_number 52 = .ok (.getfield 124, 3) := by decide +kernel
theorem dX10_number_55 : decode cX10_number 55 = .ok (.iconst 1, 1) := by decide +kernel
theorem dX10_number_56 : decode cX10_number 56 = .ok (.iadd, 1) := by decide +kernel
theorem dX10_number_57 : decode cX10_number 57 = .ok (.putfield 124, 3) := by decide +kernel
theorem dX10_number_60 : decode cX10_number 60 = .ok (.goto (-54), 3) := by decide +kernel
theorem dX10_number_63 : decode cX10_number 63 = .ok (.aload_n 0, 1) := by decide +kernel
theorem dX10_number_64 : decode cX10_number 64 = .ok (.getfield 124, 3) := by decide +kernel
theorem dX10_number_67 : decode cX10_number 67 = .ok (.aload_n 0, 1) := by decide +kernel
theorem dX10_number_68 : decode cX10_number 68 = .ok (.getfield 130, 3) := by decide +kernel
theorem dX10_number_71 : decode cX10_number 71 = .ok (.isub, 1) := by decide +kernel
theorem dX10_number_72 : decode cX10_number 72 = .ok (.istore_n 2, 1) := by decide +kernel
theorem dX10_number_73 : decode cX10_number 73 = .ok (.aload_n 0, 1) := by decide +kernel
theorem dX10_number_74 : decode cX10_number 74 = .ok (.iload_n 2, 1) := by decide +kernel
theorem dX10_number_75 : decode cX10_number 75 = .ok (.iconst 1, 1) := by decide +kernel
theorem dX10_number_76 : decode cX10_number 76 = .ok (.if_icmp .eq 22, 3) := by decide +kernel
theorem dX10_number_79 : decode cX10_number 79 = .ok (.iload_n 2, 1) := by decide +kernel
theorem dX10_number_80 : decode cX10_number 80 = .ok (.iconst 2, 1) := by decide +kernel
theorem dX10_number_81 : decode cX10_number 81 = .ok (.if_icmp .ne 21, 3) := by decide +kernel
theorem dX10_number_84 : decode cX10_number 84 = .ok (.aload_n 0, 1) := by decide +kernel
theorem dX10_number_85 : decode cX10_number 85 = .ok (.getfield 16, 3) := by decide +kernel
theorem dX10_number_88 : decode cX10_number 88 = .ok (.aload_n 0, 1) := by decide +kernel
theorem dX10_number_89 : decode cX10_number 89 = .ok (.getfield 130, 3) := by decide +kernel
theorem dX10_number_92 : decode cX10_number 92 = .ok (.iaload, 1) := by decide +kernel
theorem dX10_number_93 : decode cX10_number 93 = .ok (.bipush 48, 2) := by decide +kernel
theorem dX10_number_95 : decode cX10_number 95 = .ok (.if_icmp .eq 7, 3) := by decide +kernel
theorem dX10_number_98 : decode cX10_number 98 = .ok (.iconst 1, 1) := by decide +kernel
theorem dX10_number_99 : decode cX10_number 99 = .ok (.goto 4, 3) := by decide +kernel
theorem dX10_number_102 : decode cX10_number 102 = .ok (.iconst 0, 1) := by decide +kernel
theorem dX10_number_103 : decode cX10_number 103 = .ok (.invokevirtual 139, 3) := by decide +kernel
theorem dX10_number_106 : decode cX10_number 106 = .ok (.iload_n 1, 1) := by decide +kernel
theorem dX10_number_107 : decode cX10_number 107 = .ok (.ireturn, 1) := by decide +kernel
theorem dX10_sign_0 : decode cX10_sign 0 = .ok (.aload_n 0, 1) := by decide +kernel
theorem dX10_sign_1 : decode cX10_sign 1 = .ok (.invokevirtual 136, 3) := by decide +kernel
theorem dX10_sign_4 : decode cX10_sign 4 = .ok (.aload_n 0, 1) := by decide +kernel
theorem dX10_sign_5 : decode cX10_sign 5 = .ok (.aload_n 0, 1) := by decide +kernel
theorem dX10_sign_6 : decode cX10_sign 6 = .ok (.invokevirtual 127, 3) := by decide +kernel
theorem dX10_sign_9 : decode cX10_sign 9 = .ok (.iload_n 1, 1) := by decide +kernel
theorem dX10_sign_10 : decode cX10_sign 10 = .ok (.if_icmp .ne 7, 3) := by decide +kernel
theorem dX10_sign_13 : decode cX10_sign 13 = .ok (.iconst 1, 1) := by decide +kernel
theorem dX10_sign_14 : decode cX10_sign 14 = .ok (.goto 4, 3) := by decide +kernel
theorem dX10_sign_17 : decode cX10_sign 17 = .ok (.iconst 0, 1) := by decide +kernel
theorem dX10_sign_18 : decode cX10_sign 18 = .ok (.invokevirtual 139, 3) := by decide +kernel
theorem dX10_sign_21 : decode cX10_sign 21 = .ok (.aload_n 0, 1) := by decide +kernel
theorem dX10_sign_22 : decode cX10_sign 22 = .ok (.dup, 1) := by decide +kernel
theorem dX10_sign_23 : decode cX10_sign 23 = .ok (.getfield 124, 3) := by decide +kernel
theorem dX10_sign_26 : decode cX10_sign 26 = .ok (.iconst 1, 1) := by decide +kernel
theorem dX10_sign_27 : decode cX10_sign 27 = .ok (.iadd, 1) := by decide +kernel
theorem dX10_sign_28 : decode cX10_sign 28 = .ok (.putfield 124, 3) := by decide +kernel
theorem dX10_sign_31 : decode cX10_sign 31 = .ok (.return_, 1) := by decide +kernel
theorem dX10_readsTable_0 : decode cX10_readsTable 0 = .ok (.aload_n 0, 1) := by decide +kernel
theorem dX10_readsTable_1 : decode cX10_readsTable 1 = .ok (.invokevirtual 143, 3) := by decide +kernel
theorem dX10_readsTable_4 : decode cX10_readsTable 4 = .ok (.istore_n 1, 1) := by decide +kernel
theorem dX10_readsTable_5 : decode cX10_readsTable 5 = .ok (.aload_n 0, 1) := by decide +kernel
theorem dX10_readsTable_6 : decode cX10_readsTable 6 = .ok (.iload_n 1, 1) := by decide +kernel
theorem dX10_readsTable_7 : decode cX10_readsTable 7 = .ok (.iconst 1, 1) := by decide +kernel
theorem dX10_readsTable_8 : decode cX10_readsTable 8 = .ok (.if_icmp .eq 8, 3) := by decide +kernel
theorem dX10_readsTable_11 : decode cX10_readsTable 11 = .ok (.iload_n 1, 1) := by decide +kernel
theorem dX10_readsTable_12 : decode cX10_readsTable 12 = .ok (.iconst 2, 1) := by decide +kernel
theorem dX10_readsTable_13 : decode cX10_readsTable 13 = .ok (.if_icmp .ne 7, 3) := by decide +kernel
theorem dX10_readsTable_16 : decode cX10_readsTable 16 = .ok (.iconst 1, 1) := by decide +kernel
theorem dX10_readsTable_17 : decode cX10_readsTable 17 = .ok (.goto 4, 3) := by decide +kernel
theorem dX10_readsTable_20 : decode cX10_readsTable 20 = .ok (.iconst 0, 1) := by decide +kernel
theorem dX10_readsTable_21 : decode cX10_readsTable 21 = .ok (.invokevirtual 139, 3) := by decide +kernel
theorem dX10_readsTable_24 : decode cX10_readsTable 24 = .ok (.aload_n 0, 1) := by decide +kernel
theorem dX10_readsTable_25 : decode cX10_readsTable 25 = .ok (.iload_n 1, 1) := by decide +kernel
theorem dX10_readsTable_26 : decode cX10_readsTable 26 = .ok (.iconst 1, 1) := by decide +kernel
theorem dX10_readsTable_27 : decode cX10_readsTable 27 = .ok (.isub, 1) := by decide +kernel
theorem dX10_readsTable_28 : decode cX10_readsTable 28 = .ok (.putfield 146, 3) := by decide +kernel
theorem dX10_readsTable_31 : decode cX10_readsTable 31 = .ok (.return_, 1) := by decide +kernel
theorem dX10_kindOf_0 : decode cX10_kindOf 0 = .ok (.iload_n 1, 1) := by decide +kernel
theorem dX10_kindOf_1 : decode cX10_kindOf 1 = .ok (.lookupswitch 61 #[(20141, 51), (343342, 57), (398963, 59), (441972, 55), (3659220, 53)], 51) := by decide +kernel
theorem dX10_kindOf_52 : decode cX10_kindOf 52 = .ok (.iconst 0, 1) := by decide +kernel
theorem dX10_kindOf_53 : decode cX10_kindOf 53 = .ok (.ireturn, 1) := by decide +kernel
theorem dX10_kindOf_54 : decode cX10_kindOf 54 = .ok (.iconst 1, 1) := by decide +kernel
theorem dX10_kindOf_55 : decode cX10_kindOf 55 = .ok (.ireturn, 1) := by decide +kernel
theorem dX10_kindOf_56 : decode cX10_kindOf 56 = .ok (.iconst 2, 1) := by decide +kernel
theorem dX10_kindOf_57 : decode cX10_kindOf 57 = .ok (.ireturn, 1) := by decide +kernel
theorem dX10_kindOf_58 : decode cX10_kindOf 58 = .ok (.iconst 3, 1) := by decide +kernel
theorem dX10_kindOf_59 : decode cX10_kindOf 59 = .ok (.ireturn, 1) := by decide +kernel
theorem dX10_kindOf_60 : decode cX10_kindOf 60 = .ok (.iconst 4, 1) := by decide +kernel
theorem dX10_kindOf_61 : decode cX10_kindOf 61 = .ok (.ireturn, 1) := by decide +kernel
theorem dX10_kindOf_62 : decode cX10_kindOf 62 = .ok (.iconst (-1), 1) := by decide +kernel
theorem dX10_kindOf_63 : decode cX10_kindOf 63 = .ok (.ireturn, 1) := by decide +kernel
theorem dX10_reads_0 : decode cX10_reads 0 = .ok (.aload_n 0, 1) := by decide +kernel
theorem dX10_reads_1 : decode cX10_reads 1 = .ok (.iconst 0, 1) := by decide +kernel
theorem dX10_reads_2 : decode cX10_reads 2 = .ok (.putfield 124, 3) := by decide +kernel
theorem dX10_reads_5 : decode cX10_reads 5 = .ok (.aload_n 0, 1) := by decide +kernel
theorem dX10_reads_6 : decode cX10_reads 6 = .ok (.iconst (-1), 1) := by decide +kernel
theorem dX10_reads_7 : decode cX10_reads 7 = .ok (.putfield 133, 3) := by decide +kernel
theorem dX10_reads_10 : decode cX10_reads 10 = .ok (.aload_n 0, 1) := by decide +kernel
theorem dX10_reads_11 : decode cX10_reads 11 = .ok (.iconst 0, 1) := by decide +kernel
theorem dX10_reads_12 : decode cX10_reads 12 = .ok (.putfield 146, 3) := by decide +kernel
theorem dX10_reads_15 : decode cX10_reads 15 = .ok (.aload_n 0, 1) := by decide +kernel
theorem dX10_reads_16 : decode cX10_reads 16 = .ok (.aload_n 0, 1) := by decide +kernel
theorem dX10_reads_17 : decode cX10_reads 17 = .ok (.aload_n 0, 1) := by decide +kernel
theorem dX10_reads_18 : decode cX10_reads 18 = .ok (.invokevirtual 143, 3) := by decide +kernel
theorem dX10_reads_21 : decode cX10_reads 21 = .ok (.invokevirtual 149, 3) := by decide +kernel
theorem dX10_reads_24 : decode cX10_reads 24 = .ok (.putfield 152, 3) := by decide +kernel
theorem dX10_reads_27 : decode cX10_reads 27 = .ok (.aload_n 0, 1) := by decide +kernel
theorem dX10_reads_28 : decode cX10_reads 28 = .ok (.aload_n 0, 1) := by decide +kernel
theorem dX10_reads_29 : decode cX10_reads 29 = .ok (.getfield 152, 3) := by decide +kernel
theorem dX10_reads_32 : decode cX10_reads 32 = .ok (.ifCond .lt 7, 3) := by decide +kernel
theorem dX10_reads_35 : decode cX10_reads 35 = .ok (.iconst 1, 1) := by decide +kernel
theorem dX10_reads_36 : decode cX10_reads 36 = .ok (.goto 4, 3) := by decide +kernel
theorem dX10_reads_39 : decode cX10_reads 39 = .ok (.iconst 0, 1) := by decide +kernel
theorem dX10_reads_40 : decode cX10_reads 40 = .ok (.invokevirtual 139, 3) := by decide +kernel
theorem dX10_reads_43 : decode cX10_reads 43 = .ok (.aload_n 0, 1) := by decide +kernel
theorem dX10_reads_44 : decode cX10_reads 44 = .ok (.getfield 133, 3) := by decide +kernel
theorem dX10_reads_47 : decode cX10_reads 47 = .ok (.ifCond .ge 15, 3) := by decide +kernel
theorem dX10_reads_50 : decode cX10_reads 50 = .ok (.aload_n 0, 1) := by decide +kernel
theorem dX10_reads_51 : decode cX10_reads 51 = .ok (.getfield 152, 3) := by decide +kernel
theorem dX10_reads_54 : decode cX10_reads 54 = .ok (.iconst 3, 1) := by decide +kernel
theorem dX10_reads_55 : decode cX10_reads 55 = .ok (.if_icmp .ge 7, 3) := by decide +kernel
theorem dX10_reads_58 : decode cX10_reads 58 = .ok (.aload_n 0, 1) := by decide +kernel
theorem dX10_reads_59 : decode cX10_reads 59 = .ok (.invokevirtual 155, 3) := by decide +kernel
theorem dX10_reads_62 : decode cX10_reads 62 = .ok (.aload_n 0, 1) := by decide +kernel
theorem dX10_reads_63 : decode cX10_reads 63 = .ok (.aload_n 0, 1) := by decide +kernel
theorem dX10_reads_64 : decode cX10_reads 64 = .ok (.getfield 133, 3) := by decide +kernel
theorem dX10_reads_67 : decode cX10_reads 67 = .ok (.ifCond .ge 10, 3) := by decide +kernel
theorem dX10_reads_70 : decode cX10_reads 70 = .ok (.aload_n 0, 1) := by decide +kernel
theorem dX10_reads_71 : decode cX10_reads 71 = .ok (.invokevirtual 158, 3) := by decide +kernel
theorem dX10_reads_74 : decode cX10_reads 74 = .ok (.goto 4, 3) := by decide +kernel
theorem dX10_reads_77 : decode cX10_reads 77 = .ok (.iconst 0, 1) := by decide +kernel
theorem dX10_reads_78 : decode cX10_reads 78 = .ok (.putfield 161, 3) := by decide +kernel
theorem dX10_reads_81 : decode cX10_reads 81 = .ok (.aload_n 0, 1) := by decide +kernel
theorem dX10_reads_82 : decode cX10_reads 82 = .ok (.getfield 133, 3) := by decide +kernel
theorem dX10_reads_85 : decode cX10_reads 85 = .ok (.ifCond .ge 17, 3) := by decide +kernel
theorem dX10_reads_88 : decode cX10_reads 88 = .ok (.aload_n 0, 1) := by decide +kernel
theorem dX10_reads_89 : decode cX10_reads 89 = .ok (.getfield 152, 3) := by decide +kernel
theorem dX10_reads_92 : decode cX10_reads 92 = .ok (.iconst 4, 1) := by decide +kernel
theorem dX10_reads_93 : decode cX10_reads 93 = .ok (.if_icmp .eq 9, 3) := by decide +kernel
theorem dX10_reads_96 : decode cX10_reads 96 = .ok (.aload_n 0, 1) := by decide +kernel
theorem dX10_reads_97 : decode cX10_reads 97 = .ok (.bipush 45, 2) := by decide +kernel
theorem dX10_reads_99 : decode cX10_reads 99 = .ok (.invokevirtual 164, 3) := by decide +kernel
theorem dX10_reads_102 : decode cX10_reads 102 = .ok (.aload_n 0, 1) := by decide +kernel
theorem dX10_reads_103 : decode cX10_reads 103 = .ok (.aload_n 0, 1) := by decide +kernel
theorem dX10_reads_104 : decode cX10_reads 104 = .ok (.getfield 133, 3) := by decide +kernel
theorem dX10_reads_107 : decode cX10_reads 107 = .ok (.ifCond .ge 10, 3) := by decide +kernel
theorem dX10_reads_110 : decode cX10_reads 110 = .ok (.aload_n 0, 1) := by decide +kernel
theorem dX10_reads_111 : decode cX10_reads 111 = .ok (.invokevirtual 158, 3) := by decide +kernel
theorem dX10_reads_114 : decode cX10_reads 114 = .ok (.goto 4, 3) := by decide +kernel
theorem dX10_reads_117 : decode cX10_reads 117 = .ok (.iconst 0, 1) := by decide +kernel
theorem dX10_reads_118 : decode cX10_reads 118 = .ok (.putfield 167, 3) := by decide +kernel
theorem dX10_reads_121 : decode cX10_reads 121 = .ok (.aload_n 0, 1) := by decide +kernel
theorem dX10_reads_122 : decode cX10_reads 122 = .ok (.getfield 133, 3) := by decide +kernel
theorem dX10_reads_125 : decode cX10_reads 125 = .ok (.ifCond .ge 27, 3) := by decide +kernel
theorem dX10_reads_128 : decode cX10_reads 128 = .ok (.aload_n 0, 1) := by decide +kernel
theorem dX10_reads_129 : decode cX10_reads 129 = .ok (.invokevirtual 136, 3) := by decide +kernel
theorem dX10_reads_132 : decode cX10_reads 132 = .ok (.aload_n 0, 1) := by decide +kernel
theorem dX10_reads_133 : decode cX10_reads 133 = .ok (.aload_n 0, 1) := by decide +kernel
theorem dX10_reads_134 : decode cX10_reads 134 = .ok (.getfield 124, 3) := by decide +kernel
theorem dX10_reads_137 : decode cX10_reads 137 = .ok (.aload_n 0, 1) := by decide +kernel
theorem dX10_reads_138 : decode cX10_reads 138 = .ok (.getfield 121, 3) := by decide +kernel
theorem dX10_reads_141 : decode cX10_reads 141 = .ok (.if_icmp .ne 7, 3) := by decide +kernel
theorem dX10_reads_144 : decode cX10_reads 144 = .ok (.iconst 1, 1) := by decide +kernel
theorem dX10_reads_145 : decode cX10_reads 145 = .ok (.goto 4, 3) := by decide +kernel
theorem dX10_reads_148 : decode cX10_reads 148 = .ok (.iconst 0, 1) := by decide +kernel
theorem dX10_reads_149 : decode cX10_reads 149 = .ok (.invokevirtual 139, 3) := by decide +kernel
theorem dX10_reads_152 : decode cX10_reads 152 = .ok (.return_, 1) := by decide +kernel
theorem dX10_define_0 : decode cX10_define 0 = .ok (.aload_n 0, 1) := by decide +kernel
theorem dX10_define_1 : decode cX10_define 1 = .ok (.invokevirtual 170, 3) := by decide +kernel
theorem dX10_define_4 : decode cX10_define 4 = .ok (.aload_n 0, 1) := by decide +kernel
theorem dX10_define_5 : decode cX10_define 5 = .ok (.getfield 133, 3) := by decide +kernel
theorem dX10_define_8 : decode cX10_define 8 = .ok (.ifCond .lt 12, 3) := by decide +kernel
theorem dX10_define_11 : decode cX10_define 11 = .ok (.sipush (-1000), 3) := by decide +kernel
theorem dX10_define_14 : decode cX10_define 14 = .ok (.aload_n 0, 1) := by decide +kernel
theorem dX10_define_15 : decode cX10_define 15 = .ok (.getfield 133, 3) := by decide +kernel
theorem dX10_define_18 : decode cX10_define 18 = .ok (.isub, 1) := by decide +kernel
theorem dX10_define_19 : decode cX10_define 19 = .ok (.ireturn, 1) := by decide +kernel
theorem dX10_define_20 : decode cX10_define 20 = .ok (.aload_n 0, 1) := by decide +kernel
theorem dX10_define_21 : decode cX10_define 21 = .ok (.getfield 152, 3) := by decide +kernel
theorem dX10_define_24 : decode cX10_define 24 = .ok (.iconst 4, 1) := by decide +kernel
theorem dX10_define_25 : decode cX10_define 25 = .ok (.if_icmp .ne 44, 3) := by decide +kernel
theorem dX10_define_28 : decode cX10_define 28 = .ok (.aload_n 0, 1) := by decide +kernel
theorem dX10_define_29 : decode cX10_define 29 = .ok (.aload_n 0, 1) := by decide +kernel
theorem dX10_define_30 : decode cX10_define 30 = .ok (.getfield 161, 3) := by decide +kernel
theorem dX10_define_33 : decode cX10_define 33 = .ok (.invokevirtual 76, 3) := by decide +kernel
theorem dX10_define_36 : decode cX10_define 36 = .ok (.ifCond .eq 29, 3) := by decide +kernel
theorem dX10_define_39 : decode cX10_define 39 = .ok (.aload_n 0, 1) := by decide +kernel
theorem dX10_define_40 : decode cX10_define 40 = .ok (.aload_n 0, 1) := by decide +kernel
theorem dX10_define_41 : decode cX10_define 41 = .ok (.getfield 167, 3) := by decide +kernel
theorem dX10_define_44 : decode cX10_define 44 = .ok (.invokevirtual 76, 3) := by decide +kernel
theorem dX10_define_47 : decode cX10_define 47 = .ok (.ifCond .eq 18, 3) := by decide +kernel
theorem dX10_define_50 : decode cX10_define 50 = .ok (.aload_n 0, 1) := by decide +kernel
theorem dX10_define_51 : decode cX10_define 51 = .ok (.getfield 161, 3) := by decide +kernel
theorem dX10_define_54 : decode cX10_define 54 = .ok (.aload_n 0, 1) := by decide +kernel
theorem dX10_define_55 : decode cX10_define 55 = .ok (.getfield 167, 3) := by decide +kernel
theorem dX10_define_58 : decode cX10_define 58 = .ok (.if_icmp .eq 7, 3) := by decide +kernel
theorem dX10_define_61 : decode cX10_define 61 = .ok (.iconst 1, 1) := by decide +kernel
theorem dX10_define_62 : decode cX10_define 62 = .ok (.goto 32, 3) := by decide +kernel
theorem dX10_define_65 : decode cX10_define 65 = .ok (.iconst 0, 1) := by decide +kernel
theorem dX10_define_66 : decode cX10_define 66 = .ok (.goto 28, 3) := by decide +kernel
theorem dX10_define_69 : decode cX10_define 69 = .ok (.aload_n 0, 1) := by decide +kernel
theorem dX10_define_70 : decode cX10_define 70 = .ok (.getfield 167, 3) := by decide +kernel
theorem dX10_define_73 : decode cX10_define 73 = .ok (.bipush 12, 2) := by decide +kernel
theorem dX10_define_75 : decode cX10_define 75 = .ok (.if_icmp .ge 18, 3) := by decide +kernel
theorem dX10_define_78 : decode cX10_define 78 = .ok (.aload_n 0, 1) := by decide +kernel
theorem dX10_define_79 : decode cX10_define 79 = .ok (.getfield 161, 3) := by decide +kernel
theorem dX10_define_82 : decode cX10_define 82 = .ok (.aload_n 0, 1) := by decide +kernel
theorem dX10_define_83 : decode cX10_define 83 = .ok (.getfield 167, 3) := by decide +kernel
theorem dX10_define_86 : decode cX10_define 86 = .ok (.if_icmp .gt 7, 3) := by decide +kernel
theorem dX10_define_89 : decode cX10_define 89 = .ok (.iconst 1, 1) := by decide +kernel
theorem dX10_define_90 : decode cX10_define 90 = .ok (.goto 4, 3) := by decide +kernel
theorem dX10_define_93 : decode cX10_define 93 = .ok (.iconst 0, 1) := by decide +kernel
theorem dX10_define_94 : decode cX10_define 94 = .ok (.istore_n 1, 1) := by decide +kernel
theorem dX10_define_95 : decode cX10_define 95 = .ok (.iload_n 1, 1) := by decide +kernel
theorem dX10_define_96 : decode cX10_define 96 = .ok (.ifCond .ne 6, 3) := by decide +kernel
theorem dX10_define_99 : decode cX10_define 99 = .ok (.ldc 71, 2) := by decide +kernel
theorem dX10_define_101 : decode cX10_define 101 = .ok (.ireturn, 1) := by decide +kernel
theorem dX10_define_102 : decode cX10_define 102 = .ok (.aload_n 0, 1) := by decide +kernel
theorem dX10_define_103 : decode cX10_define 103 = .ok (.getfield 7, 3) := by decide +kernel
theorem dX10_define_106 : decode cX10_define 106 = .ok (.iconst 1, 1) := by decide +kernel
theorem dX10_define_107 : decode cX10_define 107 = .ok (.iaload, 1) := by decide +kernel
theorem dX10_define_108 : decode cX10_define 108 = .ok (.bipush 8, 2) := by decide +kernel
theorem dX10_define_110 : decode cX10_define 110 = .ok (.if_icmp .ne 6, 3) := by decide +kernel
theorem dX10_define_113 : decode cX10_define 113 = .ok (.ldc 72, 2) := by decide +kernel
theorem dX10_define_115 : decode cX10_define 115 = .ok (.ireturn, 1) := by decide +kernel
theorem dX10_define_116 : decode cX10_define 116 = .ok (.aload_n 0, 1) := by decide +kernel
theorem dX10_define_117 : decode cX10_define 117 = .ok (.invokevirtual 73, 3) := by decide +kernel
theorem dX10_define_120 : decode cX10_define 120 = .ok (.aload_n 0, 1) := by decide +kernel
theorem dX10_define_121 : decode cX10_define 121 = .ok (.iconst 0, 1) := by decide +kernel
theorem dX10_define_122 : decode cX10_define 122 = .ok (.putfield 121, 3) := by decide +kernel
theorem dX10_define_125 : decode cX10_define 125 = .ok (.aload_n 0, 1) := by decide +kernel
theorem dX10_define_126 : decode cX10_define 126 = .ok (.getfield 7, 3) := by decide +kernel
theorem dX10_define_129 : decode cX10_define 129 = .ok (.iconst 1, 1) := by decide +kernel
theorem dX10_define_130 : decode cX10_define 130 = .ok (.iaload, 1) := by decide +kernel
theorem dX10_define_131 : decode cX10_define 131 = .ok (.istore_n 2, 1) := by decide +kernel
theorem dX10_define_132 : decode cX10_define 132 = .ok (.aload_n 0, 1) := by decide +kernel
theorem dX10_define_133 : decode cX10_define 133 = .ok (.getfield 7, 3) := by decide +kernel
theorem dX10_define_136 : decode cX10_define 136 = .ok (.iload_n 2, 1) := by decide +kernel
theorem dX10_define_137 : decode cX10_define 137 = .ok (.iconst 0, 1) := by decide +kernel
theorem dX10_define_138 : decode cX10_define 138 = .ok (.invokestatic 35, 3) := by decide +kernel
theorem dX10_define_141 : decode cX10_define 141 = .ok (.aload_n 0, 1) := by decide +kernel
theorem dX10_define_142 : decode cX10_define 142 = .ok (.getfield 152, 3) := by decide +kernel
theorem dX10_define_145 : decode cX10_define 145 = .ok (.iastore, 1) := by decide +kernel
theorem dX10_define_146 : decode cX10_define 146 = .ok (.aload_n 0, 1) := by decide +kernel
theorem dX10_define_147 : decode cX10_define 147 = .ok (.getfield 7, 3) := by decide +kernel
theorem dX10_define_150 : decode cX10_define 150 = .ok (.iload_n 2, 1) := by decide +kernel
theorem dX10_define_151 : decode cX10_define 151 = .ok (.iconst 1, 1) := by decide +kernel
theorem dX10_define_152 : decode cX10_define 152 = .ok (.invokestatic 35, 3) := by decide +kernel
theorem dX10_define_155 : decode cX10_define 155 = .ok (.aload_n 0, 1) := by decide +kernel
theorem dX10_define_156 : decode cX10_define 156 = .ok (.getfield 146, 3) := by decide +kernel
theorem dX10_define_159 : decode cX10_define 159 = .ok (.iastore, 1) := by decide +kernel
theorem dX10_define_160 : decode cX10_define 160 = .ok (.aload_n 0, 1) := by decide +kernel
theorem dX10_define_161 : decode cX10_define 161 = .ok (.getfield 7, 3) := by decide +kernel
theorem dX10_define_164 : decode cX10_define 164 = .ok (.iload_n 2, 1) := by decide +kernel
theorem dX10_define_165 : decode cX10_define 165 = .ok (.iconst 2, 1) := by decide +kernel
theorem dX10_define_166 : decode cX10_define 166 = .ok (.invokestatic 35, 3) := by decide +kernel
theorem dX10_define_169 : decode cX10_define 169 = .ok (.aload_n 0, 1) := by decide +kernel
theorem dX10_define_170 : decode cX10_define 170 = .ok (.getfield 161, 3) := by decide +kernel
theorem dX10_define_173 : decode cX10_define 173 = .ok (.iastore, 1) := by decide +kernel
theorem dX10_define_174 : decode cX10_define 174 = .ok (.aload_n 0, 1) := by decide +kernel
theorem dX10_define_175 : decode cX10_define 175 = .ok (.getfield 7, 3) := by decide +kernel
theorem dX10_define_178 : decode cX10_define 178 = .ok (.iload_n 2, 1) := by decide +kernel
theorem dX10_define_179 : decode cX10_define 179 = .ok (.iconst 3, 1) := by decide +kernel
theorem dX10_define_180 : decode cX10_define 180 = .ok (.invokestatic 35, 3) := by decide +kernel
theorem dX10_define_183 : decode cX10_define 183 = .ok (.aload_n 0, 1) := by decide +kernel
theorem dX10_define_184 : decode cX10_define 184 = .ok (.getfield 167, 3) := by decide +kernel
theorem dX10_define_187 : decode cX10_define 187 = .ok (.iastore, 1) := by decide +kernel
theorem dX10_define_188 : decode cX10_define 188 = .ok (.aload_n 0, 1) := by decide +kernel
theorem dX10_define_189 : decode cX10_define 189 = .ok (.getfield 7, 3) := by decide +kernel
theorem dX10_define_192 : decode cX10_define 192 = .ok (.iload_n 2, 1) := by decide +kernel
theorem dX10_define_193 : decode cX10_define 193 = .ok (.iconst 4, 1) := by decide +kernel
theorem dX10_define_194 : decode cX10_define 194 = .ok (.invokestatic 35, 3) := by decide +kernel
theorem dX10_define_197 : decode cX10_define 197 = .ok (.iconst 1, 1) := by decide +kernel
theorem dX10_define_198 : decode cX10_define 198 = .ok (.iastore, 1) := by decide +kernel
theorem dX10_define_199 : decode cX10_define 199 = .ok (.aload_n 0, 1) := by decide +kernel
theorem dX10_define_200 : decode cX10_define 200 = .ok (.getfield 7, 3) := by decide +kernel
theorem dX10_define_203 : decode cX10_define 203 = .ok (.iload_n 2, 1) := by decide +kernel
theorem dX10_define_204 : decode cX10_define 204 = .ok (.iconst 5, 1) := by decide +kernel
theorem dX10_define_205 : decode cX10_define 205 = .ok (.invokestatic 35, 3) := by decide +kernel
theorem dX10_define_208 : decode cX10_define 208 = .ok (.iconst 0, 1) := by decide +kernel
theorem dX10_define_209 : decode cX10_define 209 = .ok (.iastore, 1) := by decide +kernel
theorem dX10_define_210 : decode cX10_define 210 = .ok (.aload_n 0, 1) := by decide +kernel
theorem dX10_define_211 : decode cX10_define 211 = .ok (.getfield 7, 3) := by decide +kernel
theorem dX10_define_214 : decode cX10_define 214 = .ok (.iload_n 2, 1) := by decide +kernel
theorem dX10_define_215 : decode cX10_define 215 = .ok (.bipush 6, 2) := by decide +kernel
theorem dX10_define_217 : decode cX10_define 217 = .ok (.invokestatic 35, 3) := by decide +kernel
theorem dX10_define_220 : decode cX10_define 220 = .ok (.aload_n 0, 1) := by decide +kernel
theorem dX10_define_221 : decode cX10_define 221 = .ok (.getfield 7, 3) := by decide +kernel
theorem dX10_define_224 : decode cX10_define 224 = .ok (.iconst 0, 1) := by decide +kernel
theorem dX10_define_225 : decode cX10_define 225 = .ok (.iaload, 1) := by decide +kernel
theorem dX10_define_226 : decode cX10_define 226 = .ok (.iastore, 1) := by decide +kernel
theorem dX10_define_227 : decode cX10_define 227 = .ok (.aload_n 0, 1) := by decide +kernel
theorem dX10_define_228 : decode cX10_define 228 = .ok (.getfield 7, 3) := by decide +kernel
theorem dX10_define_231 : decode cX10_define 231 = .ok (.iload_n 2, 1) := by decide +kernel
theorem dX10_define_232 : decode cX10_define 232 = .ok (.bipush 7, 2) := by decide +kernel
theorem dX10_define_234 : decode cX10_define 234 = .ok (.invokestatic 35, 3) := by decide +kernel
theorem dX10_define_237 : decode cX10_define 237 = .ok (.iconst 0, 1) := by decide +kernel
theorem dX10_define_238 : decode cX10_define 238 = .ok (.iastore, 1) := by decide +kernel
theorem dX10_define_239 : decode cX10_define 239 = .ok (.aload_n 0, 1) := by decide +kernel
theorem dX10_define_240 : decode cX10_define 240 = .ok (.getfield 7, 3) := by decide +kernel
theorem dX10_define_243 : decode cX10_define 243 = .ok (.iload_n 2, 1) := by decide +kernel
theorem dX10_define_244 : decode cX10_define 244 = .ok (.bipush 8, 2) := by decide +kernel
theorem dX10_define_246 : decode cX10_define 246 = .ok (.invokestatic 35, 3) := by decide +kernel
theorem dX10_define_249 : decode cX10_define 249 = .ok (.iconst 0, 1) := by decide +kernel
theorem dX10_define_250 : decode cX10_define 250 = .ok (.iastore, 1) := by decide +kernel
theorem dX10_define_251 : decode cX10_define 251 = .ok (.aload_n 0, 1) := by decide +kernel
theorem dX10_define_252 : decode cX10_define 252 = .ok (.getfield 7, 3) := by decide +kernel
theorem dX10_define_255 : decode cX10_define 255 = .ok (.iconst 1, 1) := by decide +kernel
theorem dX10_define_256 : decode cX10_define 256 = .ok (.dup2, 1) := by decide +kernel
theorem dX10_define_257 : decode cX10_define 257 = .ok (.iaload, 1) := by decide +kernel
theorem dX10_define_258 : decode cX10_define 258 = .ok (.iconst 1, 1) := by decide +kernel
theorem dX10_define_259 : decode cX10_define 259 = .ok (.iadd, 1) := by decide +kernel
theorem dX10_define_260 : decode cX10_define 260 = .ok (.iastore, 1) := by decide +kernel
theorem dX10_define_261 : decode cX10_define 261 = .ok (.iload_n 2, 1) := by decide +kernel
theorem dX10_define_262 : decode cX10_define 262 = .ok (.ireturn, 1) := by decide +kernel
theorem dX10_setOf_0 : decode cX10_setOf 0 = .ok (.iconst 0, 1) := by decide +kernel
theorem dX10_setOf_1 : decode cX10_setOf 1 = .ok (.istore_n 2, 1) := by decide +kernel
theorem dX10_setOf_2 : decode cX10_setOf 2 = .ok (.iconst 0, 1) := by decide +kernel
theorem dX10_setOf_3 : decode cX10_setOf 3 = .ok (.istore_n 3, 1) := by decide +kernel
theorem dX10_setOf_4 : decode cX10_setOf 4 = .ok (.iload_n 3, 1) := by decide +kernel
theorem dX10_setOf_5 : decode cX10_setOf 5 = .ok (.aload_n 0, 1) := by decide +kernel
theorem dX10_setOf_6 : decode cX10_setOf 6 = .ok (.getfield 7, 3) := by decide +kernel
theorem dX10_setOf_9 : decode cX10_setOf 9 = .ok (.iconst 1, 1) := by decide +kernel
theorem dX10_setOf_10 : decode cX10_setOf 10 = .ok (.iaload, 1) := by decide +kernel
theorem dX10_setOf_11 : decode cX10_setOf 11 = .ok (.if_icmp .ge 68, 3) := by decide +kernel
theorem dX10_setOf_14 : decode cX10_setOf 14 = .ok (.iload_n 1, 1) := by decide +kernel
theorem dX10_setOf_15 : decode cX10_setOf 15 = .ok (.iconst 3, 1) := by decide +kernel
theorem dX10_setOf_16 : decode cX10_setOf 16 = .ok (.if_icmp .eq 27, 3) := by decide +kernel
theorem dX10_setOf_19 : decode cX10_setOf 19 = .ok (.iload_n 1, 1) := by decide +kernel
theorem dX10_setOf_20 : decode cX10_setOf 20 = .ok (.iconst 4, 1) := by decide +kernel
theorem dX10_setOf_21 : decode cX10_setOf 21 = .ok (.if_icmp .ne 14, 3) := by decide +kernel
theorem dX10_setOf_24 : decode cX10_setOf 24 = .ok (.aload_n 0, 1) := by decide +kernel
theorem dX10_setOf_25 : decode cX10_setOf 25 = .ok (.iload_n 3, 1) := by decide +kernel
theorem dX10_setOf_26 : decode cX10_setOf 26 = .ok (.invokevirtual 61, 3) := by decide +kernel
theorem dX10_setOf_29 : decode cX10_setOf 29 = .ok (.ifCond .eq 18, 3) := by decide +kernel
theorem dX10_setOf_32 : decode cX10_setOf 32 = .ok (.goto 11, 3) := by decide +kernel
theorem dX10_setOf_35 : decode cX10_setOf 35 = .ok (.aload_n 0, 1) := by decide +kernel
theorem dX10_setOf_36 : decode cX10_setOf 36 = .ok (.iload_n 3, 1) := by decide +kernel
theorem dX10_setOf_37 : decode cX10_setOf 37 = .ok (.invokevirtual 68, 3) := by decide +kernel
theorem dX10_setOf_40 : decode cX10_setOf 40 = .ok (.ifCond .le 7, 3) := by decide +kernel
theorem dX10_setOf_43 : decode cX10_setOf 43 = .ok (.iconst 1, 1) := by decide +kernel
theorem dX10_setOf_44 : decode cX10_setOf 44 = .ok (.goto 4, 3) := by decide +kernel
theorem dX10_setOf_47 : decode cX10_setOf 47 = .ok (.iconst 0, 1) := by decide +kernel
theorem dX10_setOf_48 : decode cX10_setOf 48 = .ok (.istore 4, 2) := by decide +kernel
theorem dX10_setOf_50 : decode cX10_setOf 50 = .ok (.iload_n 2, 1) := by decide +kernel
theorem dX10_setOf_51 : decode cX10_setOf 51 = .ok (.aload_n 0, 1) := by decide +kernel
theorem dX10_setOf_52 : decode cX10_setOf 52 = .ok (.iload_n 3, 1) := by decide +kernel
theorem dX10_setOf_53 : decode cX10_setOf 53 = .ok (.invokevirtual 76, 3) := by decide +kernel
theorem dX10_setOf_56 : decode cX10_setOf 56 = .ok (.ifCond .eq 14, 3) := by decide +kernel
theorem dX10_setOf_59 : decode cX10_setOf 59 = .ok (.iload 4, 2) := by decide +kernel
theorem dX10_setOf_61 : decode cX10_setOf 61 = .ok (.ifCond .eq 9, 3) := by decide +kernel
theorem dX10_setOf_64 : decode cX10_setOf 64 = .ok (.iconst 1, 1) := by decide +kernel
theorem dX10_setOf_65 : decode cX10_setOf 65 = .ok (.iload_n 3, 1) := by decide +kernel
theorem dX10_setOf_66 : decode cX10_setOf 66 = .ok (.ishl, 1) := by decide +kernel
theorem dX10_setOf_67 : decode cX10_setOf 67 = .ok (.goto 4, 3) := by decide +kernel
theorem dX10_setOf_70 : decode cX10_setOf 70 = .ok (.iconst 0, 1) := by decide +kernel
theorem dX10_setOf_71 : decode cX10_setOf 71 = .ok (.ior, 1) := by decide +kernel
theorem dX10_setOf_72 : decode cX10_setOf 72 = .ok (.istore_n 2, 1) := by decide +kernel
theorem dX10_setOf_73 : decode cX10_setOf 73 = .ok (.iinc 3 1, 3) := by decide +kernel
theorem dX10_setOf_76 : decode cX10_setOf 76 = .ok (.goto (-72), 3) := by decide +kernel
theorem dX10_setOf_79 : decode cX10_setOf 79 = .ok (.iload_n 2, 1) := by decide +kernel
theorem dX10_setOf_80 : decode cX10_setOf 80 = .ok (.ireturn, 1) := by decide +kernel
theorem dX10_debts_0 : decode cX10_debts 0 = .ok (.iconst 0, 1) := by decide +kernel
theorem dX10_debts_1 : decode cX10_debts 1 = .ok (.istore_n 1, 1) := by decide +kernel
theorem dX10_debts_2 : decode cX10_debts 2 = .ok (.iconst 0, 1) := by decide +kernel
theorem dX10_debts_3 : decode cX10_debts 3 = .ok (.istore_n 2, 1) := by decide +kernel
theorem dX10_debts_4 : decode cX10_debts 4 = .ok (.iload_n 2, 1) := by decide +kernel
theorem dX10_debts_5 : decode cX10_debts 5 = .ok (.aload_n 0, 1) := by decide +kernel
theorem dX10_debts_6 : decode cX10_debts 6 = .ok (.getfield 7, 3) := by decide +kernel
theorem dX10_debts_9 : decode cX10_debts 9 = .ok (.iconst 1, 1) := by decide +kernel
theorem dX10_debts_10 : decode cX10_debts 10 = .ok (.iaload, 1) := by decide +kernel
theorem dX10_debts_11 : decode cX10_debts 11 = .ok (.if_icmp .ge 23, 3) := by decide +kernel
theorem dX10_debts_14 : decode cX10_debts 14 = .ok (.iload_n 1, 1) := by decide +kernel
theorem dX10_debts_15 : decode cX10_debts 15 = .ok (.aload_n 0, 1) := by decide +kernel
theorem dX10_debts_16 : decode cX10_debts 16 = .ok (.getfield 7, 3) := by decide +kernel
theorem dX10_debts_19 : decode cX10_debts 19 = .ok (.iload_n 2, 1) := by decide +kernel
theorem dX10_debts_20 : decode cX10_debts 20 = .ok (.bipush 7, 2) := by decide +kernel
theorem dX10_debts_22 : decode cX10_debts 22 = .ok (.invokestatic 35, 3) := by decide +kernel
theorem dX10_debts_25 : decode cX10_debts 25 = .ok (.iaload, 1) := by decide +kernel
theorem dX10_debts_26 : decode cX10_debts 26 = .ok (.iadd, 1) := by decide +kernel
theorem dX10_debts_27 : decode cX10_debts 27 = .ok (.istore_n 1, 1) := by decide +kernel
theorem dX10_debts_28 : decode cX10_debts 28 = .ok (.iinc 2 1, 3) := by decide +kernel
theorem dX10_debts_31 : decode cX10_debts 31 = .ok (.goto (-27), 3) := by decide +kernel
theorem dX10_debts_34 : decode cX10_debts 34 = .ok (.iload_n 1, 1) := by decide +kernel
theorem dX10_debts_35 : decode cX10_debts 35 = .ok (.ireturn, 1) := by decide +kernel
theorem dX10_count_0 : decode cX10_count 0 = .ok (.iload_n 1, 1) := by decide +kernel
theorem dX10_count_1 : decode cX10_count 1 = .ok (.tableswitch 163 0 16 #[83, 90, 95, 102, 108, 114, 163, 163, 163, 163, 163, 163, 120, 125, 133, 153, 158], 83) := by decide +kernel
theorem dX10_count_84 : decode cX10_count 84 = .ok (.aload_n 0, 1) := by decide +kernel
theorem dX10_count_85 : decode cX10_count 85 = .ok (.getfield 7, 3) := by decide +kernel
theorem dX10_count_88 : decode cX10_count 88 = .ok (.iconst 0, 1) := by decide +kernel
theorem dX10_count_89 : decode cX10_count 89 = .ok (.iaload, 1) := by decide +kernel
theorem dX10_count_90 : decode cX10_count 90 = .ok (.ireturn, 1) := by decide +kernel
theorem dX10_count_91 : decode cX10_count 91 = .ok (.aload_n 0, 1) := by decide +kernel
theorem dX10_count_92 : decode cX10_count 92 = .ok (.invokevirtual 83, 3) := by decide +kernel
theorem dX10_count_95 : decode cX10_count 95 = .ok (.ireturn, 1) := by decide +kernel
theorem dX10_count_96 : decode cX10_count 96 = .ok (.aload_n 0, 1) := by decide +kernel
theorem dX10_count_97 : decode cX10_count 97 = .ok (.getfield 7, 3) := by decide +kernel
theorem dX10_count_100 : decode cX10_count 100 = .ok (.iconst 1, 1) := by decide +kernel
theorem dX10_count_101 : decode cX10_count 101 = .ok (.iaload, 1) := by decide +kernel
theorem dX10_count_102 : decode cX10_count 102 = .ok (.ireturn, 1) := by decide +kernel
theorem dX10_count_103 : decode cX10_count 103 = .ok (.aload_n 0, 1) := by decide +kernel
theorem dX10_count_104 : decode cX10_count 104 = .ok (.iconst 3, 1) := by decide +kernel
theorem dX10_count_105 : decode cX10_count 105 = .ok (.invokevirtual 173, 3) := by decide +kernel
theorem dX10_count_108 : decode cX10_count 108 = .ok (.ireturn, 1) := by decide +kernel
theorem dX10_count_109 : decode cX10_count 109 = .ok (.aload_n 0, 1) := by decide +kernel
theorem dX10_count_110 : decode cX10_count 110 = .ok (.iconst 4, 1) := by decide +kernel
theorem dX10_count_111 : decode cX10_count 111 = .ok (.invokevirtual 173, 3) := by decide +kernel
theorem dX10_count_114 : decode cX10_count 114 = .ok (.ireturn, 1) := by decide +kernel
theorem dX10_count_115 : decode cX10_count 115 = .ok (.aload_n 0, 1) := by decide +kernel
theorem dX10_count_116 : decode cX10_count 116 = .ok (.iconst 5, 1) := by decide +kernel
theorem dX10_count_117 : decode cX10_count 117 = .ok (.invokevirtual 173, 3) := by decide +kernel
theorem dX10_count_120 : decode cX10_count 120 = .ok (.ireturn, 1) := by decide +kernel
theorem dX10_count_121 : decode cX10_count 121 = .ok (.aload_n 0, 1) := by decide +kernel
theorem dX10_count_122 : decode cX10_count 122 = .ok (.invokevirtual 176, 3) := by decide +kernel
theorem dX10_count_125 : decode cX10_count 125 = .ok (.ireturn, 1) := by decide +kernel
theorem dX10_count_126 : decode cX10_count 126 = .ok (.aload_n 0, 1) := by decide +kernel
theorem dX10_count_127 : decode cX10_count 127 = .ok (.getfield 7, 3) := by decide +kernel
theorem dX10_count_130 : decode cX10_count 130 = .ok (.bipush 8, 2) := by decide +kernel
theorem dX10_count_132 : decode cX10_count 132 = .ok (.iaload, 1) := by decide +kernel
theorem dX10_count_133 : decode cX10_count 133 = .ok (.ireturn, 1) := by decide +kernel
theorem dX10_count_134 : decode cX10_count 134 = .ok (.aload_n 0, 1) := by decide +kernel
theorem dX10_count_135 : decode cX10_count 135 = .ok (.getfield 7, 3) := by decide +kernel
theorem dX10_count_138 : decode cX10_count 138 = .ok (.iconst 0, 1) := by decide +kernel
theorem dX10_count_139 : decode cX10_count 139 = .ok (.invokestatic 118, 3) := by decide +kernel
theorem dX10_count_142 : decode cX10_count 142 = .ok (.iaload, 1) := by decide +kernel
theorem dX10_count_143 : decode cX10_count 143 = .ok (.aload_n 0, 1) := by decide +kernel
theorem dX10_count_144 : decode cX10_count 144 = .ok (.getfield 7, 3) := by decide +kernel
theorem dX10_count_147 : decode cX10_count 147 = .ok (.iconst 1, 1) := by decide +kernel
theorem dX10_count_148 : decode cX10_count 148 = .ok (.invokestatic 118, 3) := by decide +kernel
theorem dX10_count_151 : decode cX10_count 151 = .ok (.iaload, 1) := by decide +kernel
theorem dX10_count_152 : decode cX10_count 152 = .ok (.iadd, 1) := by decide +kernel
theorem dX10_count_153 : decode cX10_count 153 = .ok (.ireturn, 1) := by decide +kernel
theorem dX10_count_154 : decode cX10_count 154 = .ok (.aload_n 0, 1) := by decide +kernel
theorem dX10_count_155 : decode cX10_count 155 = .ok (.getfield 39, 3) := by decide +kernel
theorem dX10_count_158 : decode cX10_count 158 = .ok (.ireturn, 1) := by decide +kernel
theorem dX10_count_159 : decode cX10_count 159 = .ok (.aload_n 0, 1) := by decide +kernel
theorem dX10_count_160 : decode cX10_count 160 = .ok (.getfield 121, 3) := by decide +kernel
theorem dX10_count_163 : decode cX10_count 163 = .ok (.ireturn, 1) := by decide +kernel
theorem dX10_count_164 : decode cX10_count 164 = .ok (.iload_n 1, 1) := by decide +kernel
theorem dX10_count_165 : decode cX10_count 165 = .ok (.bipush 6, 2) := by decide +kernel
theorem dX10_count_167 : decode cX10_count 167 = .ok (.bipush 11, 2) := by decide +kernel
theorem dX10_count_169 : decode cX10_count 169 = .ok (.invokestatic 31, 3) := by decide +kernel
theorem dX10_count_172 : decode cX10_count 172 = .ok (.ifCond .eq 17, 3) := by decide +kernel
theorem dX10_count_175 : decode cX10_count 175 = .ok (.aload_n 0, 1) := by decide +kernel
theorem dX10_count_176 : decode cX10_count 176 = .ok (.getfield 7, 3) := by decide +kernel
theorem dX10_count_179 : decode cX10_count 179 = .ok (.iconst 2, 1) := by decide +kernel
theorem dX10_count_180 : decode cX10_count 180 = .ok (.iload_n 1, 1) := by decide +kernel
theorem dX10_count_181 : decode cX10_count 181 = .ok (.iadd, 1) := by decide +kernel
theorem dX10_count_182 : decode cX10_count 182 = .ok (.bipush 6, 2) := by decide +kernel
theorem dX10_count_184 : decode cX10_count 184 = .ok (.isub, 1) := by decide +kernel
theorem dX10_count_185 : decode cX10_count 185 = .ok (.iaload, 1) := by decide +kernel
theorem dX10_count_186 : decode cX10_count 186 = .ok (.goto 31, 3) := by decide +kernel
theorem dX10_count_189 : decode cX10_count 189 = .ok (.iload_n 1, 1) := by decide +kernel
theorem dX10_count_190 : decode cX10_count 190 = .ok (.bipush 17, 2) := by decide +kernel
theorem dX10_count_192 : decode cX10_count 192 = .ok (.bipush 22, 2) := by decide +kernel
theorem dX10_count_194 : decode cX10_count 194 = .ok (.invokestatic 31, 3) := by decide +kernel
theorem dX10_count_197 : decode cX10_count 197 = .ok (.ifCond .eq 18, 3) := by decide +kernel
