theorem dX9_append_22 : decode cX9_append 22 = .ok (.invokevirtual 198, 3) := by decide +kernel
theorem dX9_append_25 : decode cX9_append 25 = .ok (.ifCond .eq 6, 3) := by decide +kernel
theorem dX9_append_28 : decode cX9_append 28 = .ok (.ldc 62, 2) := by decide +kernel
theorem dX9_append_30 : decode cX9_append 30 = .ok (.ireturn, 1) := by decide +kernel
theorem dX9_append_31 : decode cX9_append 31 = .ok (.aload_n 0, 1) := by decide +kernel
theorem dX9_append_32 : decode cX9_append 32 = .ok (.getfield 12, 3) := by decide +kernel
theorem dX9_append_35 : decode cX9_append 35 = .ok (.getfield 100, 3) := by decide +kernel
theorem dX9_append_38 : decode cX9_append 38 = .ok (.iload_n 1, 1) := by decide +kernel
theorem dX9_append_39 : decode cX9_append 39 = .ok (.invokevirtual 199, 3) := by decide +kernel
theorem dX9_append_42 : decode cX9_append 42 = .ok (.aload_n 0, 1) := by decide +kernel
theorem dX9_append_43 : decode cX9_append 43 = .ok (.getfield 12, 3) := by decide +kernel
theorem dX9_append_46 : decode cX9_append 46 = .ok (.getfield 100, 3) := by decide +kernel
theorem dX9_append_49 : decode cX9_append 49 = .ok (.getfield 201, 3) := by decide +kernel
theorem dX9_append_52 : decode cX9_append 52 = .ok (.ireturn, 1) := by decide +kernel
theorem dX9_clearText_0 : decode cX9_clearText 0 = .ok (.aload_n 0, 1) := by decide +kernel
theorem dX9_clearText_1 : decode cX9_clearText 1 = .ok (.getfield 12, 3) := by decide +kernel
theorem dX9_clearText_4 : decode cX9_clearText 4 = .ok (.getfield 100, 3) := by decide +kernel
theorem dX9_clearText_7 : decode cX9_clearText 7 = .ok (.getfield 201, 3) := by decide +kernel
theorem dX9_clearText_10 : decode cX9_clearText 10 = .ok (.istore_n 1, 1) := by decide +kernel
theorem dX9_clearText_11 : decode cX9_clearText 11 = .ok (.aload_n 0, 1) := by decide +kernel
theorem dX9_clearText_12 : decode cX9_clearText 12 = .ok (.getfield 12, 3) := by decide +kernel
theorem dX9_clearText_15 : decode cX9_clearText 15 = .ok (.getfield 100, 3) := by decide +kernel
theorem dX9_clearText_18 : decode cX9_clearText 18 = .ok (.invokevirtual 104, 3) := by decide +kernel
theorem dX9_clearText_21 : decode cX9_clearText 21 = .ok (.iload_n 1, 1) := by decide +kernel
theorem dX9_clearText_22 : decode cX9_clearText 22 = .ok (.ireturn, 1) := by decide +kernel
theorem dX9_count_0 : decode cX9_count 0 = .ok (.iload_n 1, 1) := by decide +kernel
theorem dX9_count_1 : decode cX9_count 1 = .ok (.ifCond .lt 9, 3) := by decide +kernel
theorem dX9_count_4 : decode cX9_count 4 = .ok (.iload_n 1, 1) := by decide +kernel
theorem dX9_count_5 : decode cX9_count 5 = .ok (.bipush 22, 2) := by decide +kernel
theorem dX9_count_7 : decode cX9_count 7 = .ok (.if_icmp .le 6, 3) := by decide +kernel
theorem dX9_count_10 : decode cX9_count 10 = .ok (.ldc 48, 2) := by decide +kernel
theorem dX9_count_12 : decode cX9_count 12 = .ok (.ireturn, 1) := by decide +kernel
theorem dX9_count_13 : decode cX9_count 13 = .ok (.aload_n 0, 1) := by decide +kernel
theorem dX9_count_14 : decode cX9_count 14 = .ok (.getfield 19, 3) := by decide +kernel
theorem dX9_count_17 : decode cX9_count 17 = .ok (.getfield 49, 3) := by decide +kernel
theorem dX9_count_20 : decode cX9_count 20 = .ok (.astore_n 2, 1) := by decide +kernel
theorem dX9_count_21 : decode cX9_count 21 = .ok (.iload_n 1, 1) := by decide +kernel
theorem dX9_count_22 : decode cX9_count 22 = .ok (.tableswitch 189 0 16 #[82, 90, 99, 104, 110, 116, 122, 127, 132, 137, 142, 147, 152, 157, 162, 170, 178], 82) := by decide +kernel
theorem dX9_count_104 : decode cX9_count 104 = .ok (.aload_n 2, 1) := by decide +kernel
theorem dX9_count_105 : decode cX9_count 105 = .ok (.getfield 52, 3) := by decide +kernel
theorem dX9_count_108 : decode cX9_count 108 = .ok (.getfield 183, 3) := by decide +kernel
theorem dX9_count_111 : decode cX9_count 111 = .ok (.ireturn, 1) := by decide +kernel
theorem dX9_count_112 : decode cX9_count 112 = .ok (.aload_n 2, 1) := by decide +kernel
theorem dX9_count_113 : decode cX9_count 113 = .ok (.iconst 0, 1) := by decide +kernel
theorem dX9_count_114 : decode cX9_count 114 = .ok (.invokevirtual 131, 3) := by decide +kernel
theorem dX9_count_117 : decode cX9_count 117 = .ok (.invokestatic 135, 3) := by decide +kernel
theorem dX9_count_120 : decode cX9_count 120 = .ok (.ireturn, 1) := by decide +kernel
theorem dX9_count_121 : decode cX9_count 121 = .ok (.aload_n 2, 1) := by decide +kernel
theorem dX9_count_122 : decode cX9_count 122 = .ok (.getfield 97, 3) := by decide +kernel
theorem dX9_count_125 : decode cX9_count 125 = .ok (.ireturn, 1) := by decide +kernel
theorem dX9_count_126 : decode cX9_count 126 = .ok (.aload_n 2, 1) := by decide +kernel
theorem dX9_count_127 : decode cX9_count 127 = .ok (.iconst 0, 1) := by decide +kernel
theorem dX9_count_128 : decode cX9_count 128 = .ok (.invokevirtual 131, 3) := by decide +kernel
theorem dX9_count_131 : decode cX9_count 131 = .ok (.ireturn, 1) := by decide +kernel
theorem dX9_count_132 : decode cX9_count 132 = .ok (.aload_n 2, 1) := by decide +kernel
theorem dX9_count_133 : decode cX9_count 133 = .ok (.iconst 1, 1) := by decide +kernel
theorem dX9_count_134 : decode cX9_count 134 = .ok (.invokevirtual 131, 3) := by decide +kernel
theorem dX9_count_137 : decode cX9_count 137 = .ok (.ireturn, 1) := by decide +kernel
theorem dX9_count_138 : decode cX9_count 138 = .ok (.aload_n 2, 1) := by decide +kernel
theorem dX9_count_139 : decode cX9_count 139 = .ok (.iconst 3, 1) := by decide +kernel
theorem dX9_count_140 : decode cX9_count 140 = .ok (.invokevirtual 131, 3) := by decide +kernel
theorem dX9_count_143 : decode cX9_count 143 = .ok (.ireturn, 1) := by decide +kernel
theorem dX9_count_144 : decode cX9_count 144 = .ok (.aload_n 2, 1) := by decide +kernel
theorem dX9_count_145 : decode cX9_count 145 = .ok (.getfield 150, 3) := by decide +kernel
theorem dX9_count_148 : decode cX9_count 148 = .ok (.ireturn, 1) := by decide +kernel
theorem dX9_count_149 : decode cX9_count 149 = .ok (.aload_n 2, 1) := by decide +kernel
theorem dX9_count_150 : decode cX9_count 150 = .ok (.getfield 204, 3) := by decide +kernel
theorem dX9_count_153 : decode cX9_count 153 = .ok (.ireturn, 1) := by decide +kernel
theorem dX9_count_154 : decode cX9_count 154 = .ok (.aload_n 2, 1) := by decide +kernel
theorem dX9_count_155 : decode cX9_count 155 = .ok (.getfield 207, 3) := by decide +kernel
theorem dX9_count_158 : decode cX9_count 158 = .ok (.ireturn, 1) := by decide +kernel
theorem dX9_count_159 : decode cX9_count 159 = .ok (.aload_n 2, 1) := by decide +kernel
theorem dX9_count_160 : decode cX9_count 160 = .ok (.getfield 210, 3) := by decide +kernel
theorem dX9_count_163 : decode cX9_count 163 = .ok (.ireturn, 1) := by decide +kernel
theorem dX9_count_164 : decode cX9_count 164 = .ok (.aload_n 2, 1) := by decide +kernel
theorem dX9_count_165 : decode cX9_count 165 = .ok (.getfield 213, 3) := by decide +kernel
theorem dX9_count_168 : decode cX9_count 168 = .ok (.ireturn, 1) := by decide +kernel
theorem dX9_count_169 : decode cX9_count 169 = .ok (.aload_n 2, 1) := by decide +kernel
theorem dX9_count_170 : decode cX9_count 170 = .ok (.getfield 216, 3) := by decide +kernel
theorem dX9_count_173 : decode cX9_count 173 = .ok (.ireturn, 1) := by decide +kernel
theorem dX9_count_174 : decode cX9_count 174 = .ok (.aload_n 2, 1) := by decide +kernel
theorem dX9_count_175 : decode cX9_count 175 = .ok (.invokevirtual 219, 3) := by decide +kernel
theorem dX9_count_178 : decode cX9_count 178 = .ok (.ireturn, 1) := by decide +kernel
theorem dX9_count_179 : decode cX9_count 179 = .ok (.aload_n 2, 1) := by decide +kernel
theorem dX9_count_180 : decode cX9_count 180 = .ok (.getfield 222, 3) := by decide +kernel
theorem dX9_count_183 : decode cX9_count 183 = .ok (.ireturn, 1) := by decide +kernel
theorem dX9_count_184 : decode cX9_count 184 = .ok (.aload_n 0, 1) := by decide +kernel
theorem dX9_count_185 : decode cX9_count 185 = .ok (.getfield 19, 3) := by decide +kernel
theorem dX9_count_188 : decode cX9_count 188 = .ok (.invokevirtual 225, 3) := by decide +kernel
theorem dX9_count_191 : decode cX9_count 191 = .ok (.ireturn, 1) := by decide +kernel
theorem dX9_count_192 : decode cX9_count 192 = .ok (.aload_n 0, 1) := by decide +kernel
theorem dX9_count_193 : decode cX9_count 193 = .ok (.getfield 26, 3) := by decide +kernel
theorem dX9_count_196 : decode cX9_count 196 = .ok (.getfield 192, 3) := by decide +kernel
theorem dX9_count_199 : decode cX9_count 199 = .ok (.ireturn, 1) := by decide +kernel
theorem dX9_count_200 : decode cX9_count 200 = .ok (.aload_n 0, 1) := by decide +kernel
theorem dX9_count_201 : decode cX9_count 201 = .ok (.getfield 12, 3) := by decide +kernel
theorem dX9_count_204 : decode cX9_count 204 = .ok (.getfield 100, 3) := by decide +kernel
theorem dX9_count_207 : decode cX9_count 207 = .ok (.getfield 201, 3) := by decide +kernel
theorem dX9_count_210 : decode cX9_count 210 = .ok (.ireturn, 1) := by decide +kernel
theorem dX9_count_211 : decode cX9_count 211 = .ok (.aload_n 2, 1) := by decide +kernel
theorem dX9_count_212 : decode cX9_count 212 = .ok (.iload_n 1, 1) := by decide +kernel
theorem dX9_count_213 : decode cX9_count 213 = .ok (.bipush 17, 2) := by decide +kernel
theorem dX9_count_215 : decode cX9_count 215 = .ok (.isub, 1) := by decide +kernel
theorem dX9_count_216 : decode cX9_count 216 = .ok (.invokevirtual 143, 3) := by decide +kernel
theorem dX9_count_219 : decode cX9_count 219 = .ok (.ireturn, 1) := by decide +kernel
theorem dX9_value_0 : decode cX9_value 0 = .ok (.aload_n 0, 1) := by decide +kernel
theorem dX9_value_1 : decode cX9_value 1 = .ok (.getfield 19, 3) := by decide +kernel
theorem dX9_value_4 : decode cX9_value 4 = .ok (.getfield 49, 3) := by decide +kernel
theorem dX9_value_7 : decode cX9_value 7 = .ok (.getfield 52, 3) := by decide +kernel
theorem dX9_value_10 : decode cX9_value 10 = .ok (.astore 4, 2) := by decide +kernel
theorem dX9_value_12 : decode cX9_value 12 = .ok (.iload_n 1, 1) := by decide +kernel
theorem dX9_value_13 : decode cX9_value 13 = .ok (.iload_n 2, 1) := by decide +kernel
theorem dX9_value_14 : decode cX9_value 14 = .ok (.invokestatic 44, 3) := by decide +kernel
theorem dX9_value_17 : decode cX9_value 17 = .ok (.ifCond .eq 16, 3) := by decide +kernel
theorem dX9_value_20 : decode cX9_value 20 = .ok (.iload_n 3, 1) := by decide +kernel
theorem dX9_value_21 : decode cX9_value 21 = .ok (.ifCond .lt 12, 3) := by decide +kernel
theorem dX9_value_24 : decode cX9_value 24 = .ok (.iload_n 3, 1) := by decide +kernel
theorem dX9_value_25 : decode cX9_value 25 = .ok (.aload 4, 2) := by decide +kernel
theorem dX9_value_27 : decode cX9_value 27 = .ok (.getfield 183, 3) := by decide +kernel
theorem dX9_value_30 : decode cX9_value 30 = .ok (.if_icmp .le 6, 3) := by decide +kernel
theorem dX9_value_33 : decode cX9_value 33 = .ok (.ldc 48, 2) := by decide +kernel
theorem dX9_value_35 : decode cX9_value 35 = .ok (.ireturn, 1) := by decide +kernel
theorem dX9_value_36 : decode cX9_value 36 = .ok (.aload 4, 2) := by decide +kernel
theorem dX9_value_38 : decode cX9_value 38 = .ok (.iload_n 1, 1) := by decide +kernel
theorem dX9_value_39 : decode cX9_value 39 = .ok (.iload_n 2, 1) := by decide +kernel
theorem dX9_value_40 : decode cX9_value 40 = .ok (.invokestatic 67, 3) := by decide +kernel
theorem dX9_value_43 : decode cX9_value 43 = .ok (.iload_n 3, 1) := by decide +kernel
theorem dX9_value_44 : decode cX9_value 44 = .ok (.invokevirtual 228, 3) := by decide +kernel
theorem dX9_value_47 : decode cX9_value 47 = .ok (.istore 5, 2) := by decide +kernel
theorem dX9_value_49 : decode cX9_value 49 = .ok (.iload 5, 2) := by decide +kernel
theorem dX9_value_51 : decode cX9_value 51 = .ok (.iconst (-1), 1) := by decide +kernel
theorem dX9_value_52 : decode cX9_value 52 = .ok (.if_icmp .ne 8, 3) := by decide +kernel
theorem dX9_value_55 : decode cX9_value 55 = .ok (.ldc 231, 2) := by decide +kernel
theorem dX9_value_57 : decode cX9_value 57 = .ok (.goto 5, 3) := by decide +kernel
theorem dX9_value_60 : decode cX9_value 60 = .ok (.iload 5, 2) := by decide +kernel
theorem dX9_value_62 : decode cX9_value 62 = .ok (.ireturn, 1) := by decide +kernel
theorem dX9_change_0 : decode cX9_change 0 = .ok (.aload_n 0, 1) := by decide +kernel
theorem dX9_change_1 : decode cX9_change 1 = .ok (.getfield 19, 3) := by decide +kernel
theorem dX9_change_4 : decode cX9_change 4 = .ok (.getfield 49, 3) := by decide +kernel
theorem dX9_change_7 : decode cX9_change 7 = .ok (.getfield 52, 3) := by decide +kernel
theorem dX9_change_10 : decode cX9_change 10 = .ok (.astore_n 3, 1) := by decide +kernel
theorem dX9_change_11 : decode cX9_change 11 = .ok (.iload_n 1, 1) := by decide +kernel
theorem dX9_change_12 : decode cX9_change 12 = .ok (.ifCond .lt 20, 3) := by decide +kernel
theorem dX9_change_15 : decode cX9_change 15 = .ok (.iload_n 1, 1) := by decide +kernel
theorem dX9_change_16 : decode cX9_change 16 = .ok (.aload_n 3, 1) := by decide +kernel
theorem dX9_change_17 : decode cX9_change 17 = .ok (.getfield 183, 3) := by decide +kernel
theorem dX9_change_20 : decode cX9_change 20 = .ok (.if_icmp .ge 12, 3) := by decide +kernel
theorem dX9_change_23 : decode cX9_change 23 = .ok (.iload_n 2, 1) := by decide +kernel
theorem dX9_change_24 : decode cX9_change 24 = .ok (.ifCond .lt 8, 3) := by decide +kernel
theorem dX9_change_27 : decode cX9_change 27 = .ok (.iload_n 2, 1) := by decide +kernel
theorem dX9_change_28 : decode cX9_change 28 = .ok (.iconst 3, 1) := by decide +kernel
theorem dX9_change_29 : decode cX9_change 29 = .ok (.if_icmp .le 6, 3) := by decide +kernel
theorem dX9_change_32 : decode cX9_change 32 = .ok (.ldc 48, 2) := by decide +kernel
theorem dX9_change_34 : decode cX9_change 34 = .ok (.ireturn, 1) := by decide +kernel
theorem dX9_change_35 : decode cX9_change 35 = .ok (.aload_n 3, 1) := by decide +kernel
theorem dX9_change_36 : decode cX9_change 36 = .ok (.iload_n 1, 1) := by decide +kernel
theorem dX9_change_37 : decode cX9_change 37 = .ok (.invokevirtual 232, 3) := by decide +kernel
theorem dX9_change_40 : decode cX9_change 40 = .ok (.istore 4, 2) := by decide +kernel
theorem dX9_change_42 : decode cX9_change 42 = .ok (.iload_n 2, 1) := by decide +kernel
theorem dX9_change_43 : decode cX9_change 43 = .ok (.tableswitch 43 0 2 #[25, 31, 37], 25) := by decide +kernel
theorem dX9_change_68 : decode cX9_change 68 = .ok (.iload 4, 2) := by decide +kernel
theorem dX9_change_70 : decode cX9_change 70 = .ok (.bipush 12, 2) := by decide +kernel
theorem dX9_change_72 : decode cX9_change 72 = .ok (.idiv, 1) := by decide +kernel
theorem dX9_change_73 : decode cX9_change 73 = .ok (.ireturn, 1) := by decide +kernel
theorem dX9_change_74 : decode cX9_change 74 = .ok (.iload 4, 2) := by decide +kernel
theorem dX9_change_76 : decode cX9_change 76 = .ok (.bipush 12, 2) := by decide +kernel
theorem dX9_change_78 : decode cX9_change 78 = .ok (.irem, 1) := by decide +kernel
theorem dX9_change_79 : decode cX9_change 79 = .ok (.ireturn, 1) := by decide +kernel
theorem dX9_change_80 : decode cX9_change 80 = .ok (.aload_n 3, 1) := by decide +kernel
theorem dX9_change_81 : decode cX9_change 81 = .ok (.iload_n 1, 1) := by decide +kernel
theorem dX9_change_82 : decode cX9_change 82 = .ok (.invokevirtual 235, 3) := by decide +kernel
theorem dX9_change_85 : decode cX9_change 85 = .ok (.ireturn, 1) := by decide +kernel
theorem dX9_change_86 : decode cX9_change 86 = .ok (.aload_n 0, 1) := by decide +kernel
theorem dX9_change_87 : decode cX9_change 87 = .ok (.getfield 19, 3) := by decide +kernel
theorem dX9_change_90 : decode cX9_change 90 = .ok (.getfield 49, 3) := by decide +kernel
theorem dX9_change_93 : decode cX9_change 93 = .ok (.iload 4, 2) := by decide +kernel
theorem dX9_change_95 : decode cX9_change 95 = .ok (.invokevirtual 238, 3) := by decide +kernel
theorem dX9_change_98 : decode cX9_change 98 = .ok (.ireturn, 1) := by decide +kernel
theorem dX9_view_0 : decode cX9_view 0 = .ok (.aload_n 0, 1) := by decide +kernel
theorem dX9_view_1 : decode cX9_view 1 = .ok (.getfield 19, 3) := by decide +kernel
theorem dX9_view_4 : decode cX9_view 4 = .ok (.getfield 49, 3) := by decide +kernel
theorem dX9_view_7 : decode cX9_view 7 = .ok (.astore_n 3, 1) := by decide +kernel
theorem dX9_view_8 : decode cX9_view 8 = .ok (.aload_n 3, 1) := by decide +kernel
theorem dX9_view_9 : decode cX9_view 9 = .ok (.iload_n 1, 1) := by decide +kernel
theorem dX9_view_10 : decode cX9_view 10 = .ok (.invokevirtual 116, 3) := by decide +kernel
theorem dX9_view_13 : decode cX9_view 13 = .ok (.astore 4, 2) := by decide +kernel
theorem dX9_view_15 : decode cX9_view 15 = .ok (.aload 4, 2) := by decide +kernel
theorem dX9_view_17 : decode cX9_view 17 = .ok (.ifnull 13, 3) := by decide +kernel
theorem dX9_view_20 : decode cX9_view 20 = .ok (.iload_n 2, 1) := by decide +kernel
theorem dX9_view_21 : decode cX9_view 21 = .ok (.ifCond .lt 9, 3) := by decide +kernel
theorem dX9_view_24 : decode cX9_view 24 = .ok (.iload_n 2, 1) := by decide +kernel
theorem dX9_view_25 : decode cX9_view 25 = .ok (.bipush 9, 2) := by decide +kernel
theorem dX9_view_27 : decode cX9_view 27 = .ok (.if_icmp .le 6, 3) := by decide +kernel
theorem dX9_view_30 : decode cX9_view 30 = .ok (.ldc 48, 2) := by decide +kernel
theorem dX9_view_32 : decode cX9_view 32 = .ok (.ireturn, 1) := by decide +kernel
theorem dX9_view_33 : decode cX9_view 33 = .ok (.iload_n 2, 1) := by decide +kernel
theorem dX9_view_34 : decode cX9_view 34 = .ok (.tableswitch 140 0 8 #[50, 56, 75, 81, 87, 101, 120, 127, 133], 50) := by decide +kernel
theorem dX9_view_84 : decode cX9_view 84 = .ok (.aload 4, 2) := by decide +kernel
theorem dX9_view_86 : decode cX9_view 86 = .ok (.getfield 241, 3) := by decide +kernel
theorem dX9_view_89 : decode cX9_view 89 = .ok (.ireturn, 1) := by decide +kernel
theorem dX9_view_90 : decode cX9_view 90 = .ok (.aload 4, 2) := by decide +kernel
theorem dX9_view_92 : decode cX9_view 92 = .ok (.invokevirtual 242, 3) := by decide +kernel
theorem dX9_view_95 : decode cX9_view 95 = .ok (.ifCond .eq 11, 3) := by decide +kernel
theorem dX9_view_98 : decode cX9_view 98 = .ok (.aload 4, 2) := by decide +kernel
theorem dX9_view_100 : decode cX9_view 100 = .ok (.getfield 245, 3) := by decide +kernel
theorem dX9_view_103 : decode cX9_view 103 = .ok (.goto 5, 3) := by decide +kernel
theorem dX9_view_106 : decode cX9_view 106 = .ok (.ldc 231, 2) := by decide +kernel
theorem dX9_view_108 : decode cX9_view 108 = .ok (.ireturn, 1) := by decide +kernel
theorem dX9_view_109 : decode cX9_view 109 = .ok (.aload 4, 2) := by decide +kernel
theorem dX9_view_111 : decode cX9_view 111 = .ok (.getfield 246, 3) := by decide +kernel
theorem dX9_view_114 : decode cX9_view 114 = .ok (.ireturn, 1) := by decide +kernel
theorem dX9_view_115 : decode cX9_view 115 = .ok (.aload 4, 2) := by decide +kernel
theorem dX9_view_117 : decode cX9_view 117 = .ok (.getfield 247, 3) := by decide +kernel
theorem dX9_view_120 : decode cX9_view 120 = .ok (.ireturn, 1) := by decide +kernel
theorem dX9_view_121 : decode cX9_view 121 = .ok (.aload 4, 2) := by decide +kernel
theorem dX9_view_123 : decode cX9_view 123 = .ok (.getfield 161, 3) := by decide +kernel
theorem dX9_view_126 : decode cX9_view 126 = .ok (.ifCond .eq 7, 3) := by decide +kernel
theorem dX9_view_129 : decode cX9_view 129 = .ok (.iconst 1, 1) := by decide +kernel
theorem dX9_view_130 : decode cX9_view 130 = .ok (.goto 4, 3) := by decide +kernel
theorem dX9_view_133 : decode cX9_view 133 = .ok (.iconst 0, 1) := by decide +kernel
theorem dX9_view_134 : decode cX9_view 134 = .ok (.ireturn, 1) := by decide +kernel
theorem dX9_view_135 : decode cX9_view 135 = .ok (.aload 4, 2) := by decide +kernel
theorem dX9_view_137 : decode cX9_view 137 = .ok (.getfield 161, 3) := by decide +kernel
theorem dX9_view_140 : decode cX9_view 140 = .ok (.ifCond .eq 8, 3) := by decide +kernel
theorem dX9_view_143 : decode cX9_view 143 = .ok (.ldc 231, 2) := by decide +kernel
theorem dX9_view_145 : decode cX9_view 145 = .ok (.goto 8, 3) := by decide +kernel
theorem dX9_view_148 : decode cX9_view 148 = .ok (.aload 4, 2) := by decide +kernel
theorem dX9_view_150 : decode cX9_view 150 = .ok (.getfield 248, 3) := by decide +kernel
theorem dX9_view_153 : decode cX9_view 153 = .ok (.ireturn, 1) := by decide +kernel
theorem dX9_view_154 : decode cX9_view 154 = .ok (.aload_n 3, 1) := by decide +kernel
theorem dX9_view_155 : decode cX9_view 155 = .ok (.aload 4, 2) := by decide +kernel
theorem dX9_view_157 : decode cX9_view 157 = .ok (.invokevirtual 251, 3) := by decide +kernel
theorem dX9_view_160 : decode cX9_view 160 = .ok (.ireturn, 1) := by decide +kernel
theorem dX9_view_161 : decode cX9_view 161 = .ok (.aload 4, 2) := by decide +kernel
theorem dX9_view_163 : decode cX9_view 163 = .ok (.getfield 254, 3) := by decide +kernel
theorem dX9_view_166 : decode cX9_view 166 = .ok (.ireturn, 1) := by decide +kernel
theorem dX9_view_167 : decode cX9_view 167 = .ok (.aload_n 3, 1) := by decide +kernel
theorem dX9_view_168 : decode cX9_view 168 = .ok (.aload 4, 2) := by decide +kernel
theorem dX9_view_170 : decode cX9_view 170 = .ok (.invokevirtual 257, 3) := by decide +kernel
theorem dX9_view_173 : decode cX9_view 173 = .ok (.ireturn, 1) := by decide +kernel
theorem dX9_view_174 : decode cX9_view 174 = .ok (.aload 4, 2) := by decide +kernel
theorem dX9_view_176 : decode cX9_view 176 = .ok (.getfield 260, 3) := by decide +kernel
theorem dX9_view_179 : decode cX9_view 179 = .ok (.ireturn, 1) := by decide +kernel
theorem dX9_kept_0 : decode cX9_kept 0 = .ok (.aload_n 0, 1) := by decide +kernel
theorem dX9_kept_1 : decode cX9_kept 1 = .ok (.getfield 19, 3) := by decide +kernel
theorem dX9_kept_4 : decode cX9_kept 4 = .ok (.getfield 49, 3) := by decide +kernel
theorem dX9_kept_7 : decode cX9_kept 7 = .ok (.iload_n 1, 1) := by decide +kernel
theorem dX9_kept_8 : decode cX9_kept 8 = .ok (.invokevirtual 116, 3) := by decide +kernel
theorem dX9_kept_11 : decode cX9_kept 11 = .ok (.astore_n 2, 1) := by decide +kernel
theorem dX9_kept_12 : decode cX9_kept 12 = .ok (.aload_n 2, 1) := by decide +kernel
theorem dX9_kept_13 : decode cX9_kept 13 = .ok (.ifnonnull 6, 3) := by decide +kernel
theorem dX9_kept_16 : decode cX9_kept 16 = .ok (.ldc 48, 2) := by decide +kernel
theorem dX9_kept_18 : decode cX9_kept 18 = .ok (.ireturn, 1) := by decide +kernel
theorem dX9_kept_19 : decode cX9_kept 19 = .ok (.aload_n 2, 1) := by decide +kernel
theorem dX9_kept_20 : decode cX9_kept 20 = .ok (.getfield 161, 3) := by decide +kernel
theorem dX9_kept_23 : decode cX9_kept 23 = .ok (.ifCond .eq 6, 3) := by decide +kernel
theorem dX9_kept_26 : decode cX9_kept 26 = .ok (.ldc 124, 2) := by decide +kernel
theorem dX9_kept_28 : decode cX9_kept 28 = .ok (.ireturn, 1) := by decide +kernel
theorem dX9_kept_29 : decode cX9_kept 29 = .ok (.aload_n 0, 1) := by decide +kernel
theorem dX9_kept_30 : decode cX9_kept 30 = .ok (.getfield 33, 3) := by decide +kernel
theorem dX9_kept_33 : decode cX9_kept 33 = .ok (.aload_n 0, 1) := by decide +kernel
theorem dX9_kept_34 : decode cX9_kept 34 = .ok (.getfield 19, 3) := by decide +kernel
theorem dX9_kept_37 : decode cX9_kept 37 = .ok (.getfield 49, 3) := by decide +kernel
theorem dX9_kept_40 : decode cX9_kept 40 = .ok (.iload_n 1, 1) := by decide +kernel
theorem dX9_kept_41 : decode cX9_kept 41 = .ok (.aload_n 2, 1) := by decide +kernel
theorem dX9_kept_42 : decode cX9_kept 42 = .ok (.getfield 248, 3) := by decide +kernel
theorem dX9_kept_45 : decode cX9_kept 45 = .ok (.invokevirtual 263, 3) := by decide +kernel
theorem dX9_kept_48 : decode cX9_kept 48 = .ok (.ireturn, 1) := by decide +kernel
theorem dX9_ask_0 : decode cX9_ask 0 = .ok (.aload_n 0, 1) := by decide +kernel
theorem dX9_ask_1 : decode cX9_ask 1 = .ok (.getfield 19, 3) := by decide +kernel
theorem dX9_ask_4 : decode cX9_ask 4 = .ok (.getfield 49, 3) := by decide +kernel
theorem dX9_ask_7 : decode cX9_ask 7 = .ok (.astore 4, 2) := by decide +kernel
theorem dX9_ask_9 : decode cX9_ask 9 = .ok (.aload 4, 2) := by decide +kernel
theorem dX9_ask_11 : decode cX9_ask 11 = .ok (.iload_n 1, 1) := by decide +kernel
theorem dX9_ask_12 : decode cX9_ask 12 = .ok (.invokevirtual 116, 3) := by decide +kernel
theorem dX9_ask_15 : decode cX9_ask 15 = .ok (.ifnull 28, 3) := by decide +kernel
theorem dX9_ask_18 : decode cX9_ask 18 = .ok (.iload_n 2, 1) := by decide +kernel
theorem dX9_ask_19 : decode cX9_ask 19 = .ok (.ifCond .lt 24, 3) := by decide +kernel
theorem dX9_ask_22 : decode cX9_ask 22 = .ok (.iload_n 2, 1) := by decide +kernel
theorem dX9_ask_23 : decode cX9_ask 23 = .ok (.aload 4, 2) := by decide +kernel
theorem dX9_ask_25 : decode cX9_ask 25 = .ok (.getfield 52, 3) := by decide +kernel
theorem dX9_ask_28 : decode cX9_ask 28 = .ok (.getfield 183, 3) := by decide +kernel
theorem dX9_ask_31 : decode cX9_ask 31 = .ok (.if_icmp .gt 12, 3) := by decide +kernel
theorem dX9_ask_34 : decode cX9_ask 34 = .ok (.iload_n 3, 1) := by decide +kernel
theorem dX9_ask_35 : decode cX9_ask 35 = .ok (.ifCond .eq 11, 3) := by decide +kernel
theorem dX9_ask_38 : decode cX9_ask 38 = .ok (.iload_n 3, 1) := by decide +kernel
theorem dX9_ask_39 : decode cX9_ask 39 = .ok (.iconst 1, 1) := by decide +kernel
theorem dX9_ask_40 : decode cX9_ask 40 = .ok (.if_icmp .eq 6, 3) := by decide +kernel
theorem dX9_ask_43 : decode cX9_ask 43 = .ok (.ldc 48, 2) := by decide +kernel
theorem dX9_ask_45 : decode cX9_ask 45 = .ok (.ireturn, 1) := by decide +kernel
theorem dX9_ask_46 : decode cX9_ask 46 = .ok (.iload_n 3, 1) := by decide +kernel
theorem dX9_ask_47 : decode cX9_ask 47 = .ok (.ifCond .ne 17, 3) := by decide +kernel
theorem dX9_ask_50 : decode cX9_ask 50 = .ok (.aload_n 0, 1) := by decide +kernel
theorem dX9_ask_51 : decode cX9_ask 51 = .ok (.getfield 33, 3) := by decide +kernel
theorem dX9_ask_54 : decode cX9_ask 54 = .ok (.aload 4, 2) := by decide +kernel
theorem dX9_ask_56 : decode cX9_ask 56 = .ok (.iload_n 1, 1) := by decide +kernel
theorem dX9_ask_57 : decode cX9_ask 57 = .ok (.iload_n 2, 1) := by decide +kernel
theorem dX9_ask_58 : decode cX9_ask 58 = .ok (.invokevirtual 263, 3) := by decide +kernel
theorem dX9_ask_61 : decode cX9_ask 61 = .ok (.goto 14, 3) := by decide +kernel
theorem dX9_ask_64 : decode cX9_ask 64 = .ok (.aload_n 0, 1) := by decide +kernel
theorem dX9_ask_65 : decode cX9_ask 65 = .ok (.getfield 33, 3) := by decide +kernel
theorem dX9_ask_68 : decode cX9_ask 68 = .ok (.aload 4, 2) := by decide +kernel
theorem dX9_ask_70 : decode cX9_ask 70 = .ok (.iload_n 1, 1) := by decide +kernel
theorem dX9_ask_71 : decode cX9_ask 71 = .ok (.iload_n 2, 1) := by decide +kernel
theorem dX9_ask_72 : decode cX9_ask 72 = .ok (.invokevirtual 267, 3) := by decide +kernel
theorem dX9_ask_75 : decode cX9_ask 75 = .ok (.ireturn, 1) := by decide +kernel
theorem dX9_ruin_0 : decode cX9_ruin 0 = .ok (.aload_n 0, 1) := by decide +kernel
theorem dX9_ruin_1 : decode cX9_ruin 1 = .ok (.getfield 19, 3) := by decide +kernel
theorem dX9_ruin_4 : decode cX9_ruin 4 = .ok (.getfield 49, 3) := by decide +kernel
theorem dX9_ruin_7 : decode cX9_ruin 7 = .ok (.astore_n 2, 1) := by decide +kernel
theorem dX9_ruin_8 : decode cX9_ruin 8 = .ok (.aload_n 2, 1) := by decide +kernel
theorem dX9_ruin_9 : decode cX9_ruin 9 = .ok (.iload_n 1, 1) := by decide +kernel
theorem dX9_ruin_10 : decode cX9_ruin 10 = .ok (.invokevirtual 116, 3) := by decide +kernel
theorem dX9_ruin_13 : decode cX9_ruin 13 = .ok (.astore_n 3, 1) := by decide +kernel
theorem dX9_ruin_14 : decode cX9_ruin 14 = .ok (.aload_n 3, 1) := by decide +kernel
theorem dX9_ruin_15 : decode cX9_ruin 15 = .ok (.ifnonnull 6, 3) := by decide +kernel
theorem dX9_ruin_18 : decode cX9_ruin 18 = .ok (.ldc 48, 2) := by decide +kernel
theorem dX9_ruin_20 : decode cX9_ruin 20 = .ok (.ireturn, 1) := by decide +kernel
theorem dX9_ruin_21 : decode cX9_ruin 21 = .ok (.aload_n 3, 1) := by decide +kernel
theorem dX9_ruin_22 : decode cX9_ruin 22 = .ok (.getfield 161, 3) := by decide +kernel
theorem dX9_ruin_25 : decode cX9_ruin 25 = .ok (.ifCond .eq 6, 3) := by decide +kernel
theorem dX9_ruin_28 : decode cX9_ruin 28 = .ok (.ldc 124, 2) := by decide +kernel
theorem dX9_ruin_30 : decode cX9_ruin 30 = .ok (.ireturn, 1) := by decide +kernel
theorem dX9_ruin_31 : decode cX9_ruin 31 = .ok (.aload_n 2, 1) := by decide +kernel
theorem dX9_ruin_32 : decode cX9_ruin 32 = .ok (.aload_n 3, 1) := by decide +kernel
theorem dX9_ruin_33 : decode cX9_ruin 33 = .ok (.invokevirtual 270, 3) := by decide +kernel
theorem dX9_ruin_36 : decode cX9_ruin 36 = .ok (.istore 4, 2) := by decide +kernel
theorem dX9_ruin_38 : decode cX9_ruin 38 = .ok (.aload_n 2, 1) := by decide +kernel
theorem dX9_ruin_39 : decode cX9_ruin 39 = .ok (.iconst 2, 1) := by decide +kernel
theorem dX9_ruin_40 : decode cX9_ruin 40 = .ok (.invokevirtual 143, 3) := by decide +kernel
theorem dX9_ruin_43 : decode cX9_ruin 43 = .ok (.istore 5, 2) := by decide +kernel
theorem dX9_ruin_45 : decode cX9_ruin 45 = .ok (.aload_n 3, 1) := by decide +kernel
theorem dX9_ruin_46 : decode cX9_ruin 46 = .ok (.getfield 254, 3) := by decide +kernel
theorem dX9_ruin_49 : decode cX9_ruin 49 = .ok (.istore 6, 2) := by decide +kernel
theorem dX9_ruin_51 : decode cX9_ruin 51 = .ok (.iconst 1, 1) := by decide +kernel
theorem dX9_ruin_52 : decode cX9_ruin 52 = .ok (.istore 7, 2) := by decide +kernel
theorem dX9_ruin_54 : decode cX9_ruin 54 = .ok (.iload 7, 2) := by decide +kernel
theorem dX9_ruin_56 : decode cX9_ruin 56 = .ok (.sipush 1000, 3) := by decide +kernel
theorem dX9_ruin_59 : decode cX9_ruin 59 = .ok (.if_icmp .gt 26, 3) := by decide +kernel
theorem dX9_ruin_62 : decode cX9_ruin 62 = .ok (.iload 6, 2) := by decide +kernel
theorem dX9_ruin_64 : decode cX9_ruin 64 = .ok (.iload 4, 2) := by decide +kernel
theorem dX9_ruin_66 : decode cX9_ruin 66 = .ok (.iadd, 1) := by decide +kernel
theorem dX9_ruin_67 : decode cX9_ruin 67 = .ok (.istore 6, 2) := by decide +kernel
theorem dX9_ruin_69 : decode cX9_ruin 69 = .ok (.iload 6, 2) := by decide +kernel
theorem dX9_ruin_71 : decode cX9_ruin 71 = .ok (.iload 5, 2) := by decide +kernel
theorem dX9_ruin_73 : decode cX9_ruin 73 = .ok (.if_icmp .le 6, 3) := by decide +kernel
theorem dX9_ruin_76 : decode cX9_ruin 76 = .ok (.iload 7, 2) := by decide +kernel
theorem dX9_ruin_78 : decode cX9_ruin 78 = .ok (.ireturn, 1) := by decide +kernel
theorem dX9_ruin_79 : decode cX9_ruin 79 = .ok (.iinc 7 1, 3) := by decide +kernel
theorem dX9_ruin_82 : decode cX9_ruin 82 = .ok (.goto (-28), 3) := by decide +kernel
theorem dX9_ruin_85 : decode cX9_ruin 85 = .ok (.ldc 231, 2) := by decide +kernel
theorem dX9_ruin_87 : decode cX9_ruin 87 = .ok (.ireturn, 1) := by decide +kernel
theorem dX9_settled_0 : decode cX9_settled 0 = .ok (.iconst 5, 1) := by decide +kernel
theorem dX9_settled_1 : decode cX9_settled 1 = .ok (.iload_n 1, 1) := by decide +kernel
theorem dX9_settled_2 : decode cX9_settled 2 = .ok (.invokestatic 140, 3) := by decide +kernel
theorem dX9_settled_5 : decode cX9_settled 5 = .ok (.ifCond .eq 15, 3) := by decide +kernel
theorem dX9_settled_8 : decode cX9_settled 8 = .ok (.iload_n 2, 1) := by decide +kernel
theorem dX9_settled_9 : decode cX9_settled 9 = .ok (.iconst 1, 1) := by decide +kernel
theorem dX9_settled_10 : decode cX9_settled 10 = .ok (.if_icmp .lt 10, 3) := by decide +kernel
theorem dX9_settled_13 : decode cX9_settled 13 = .ok (.iload_n 2, 1) := by decide +kernel
theorem dX9_settled_14 : decode cX9_settled 14 = .ok (.sipush 9999, 3) := by decide +kernel
theorem dX9_settled_17 : decode cX9_settled 17 = .ok (.if_icmp .le 6, 3) := by decide +kernel
theorem dX9_settled_20 : decode cX9_settled 20 = .ok (.ldc 48, 2) := by decide +kernel
theorem dX9_settled_22 : decode cX9_settled 22 = .ok (.ireturn, 1) := by decide +kernel
theorem dX9_settled_23 : decode cX9_settled 23 = .ok (.aload_n 0, 1) := by decide +kernel
theorem dX9_settled_24 : decode cX9_settled 24 = .ok (.getfield 40, 3) := by decide +kernel
theorem dX9_settled_27 : decode cX9_settled 27 = .ok (.aload_n 0, 1) := by decide +kernel
theorem dX9_settled_28 : decode cX9_settled 28 = .ok (.getfield 19, 3) := by decide +kernel
theorem dX9_settled_31 : decode cX9_settled 31 = .ok (.getfield 49, 3) := by decide +kernel
theorem dX9_settled_34 : decode cX9_settled 34 = .ok (.invokevirtual 273, 3) := by decide +kernel
theorem dX9_settled_37 : decode cX9_settled 37 = .ok (.aload_n 0, 1) := by decide +kernel
theorem dX9_settled_38 : decode cX9_settled 38 = .ok (.getfield 40, 3) := by decide +kernel
theorem dX9_settled_41 : decode cX9_settled 41 = .ok (.iload_n 2, 1) := by decide +kernel
theorem dX9_settled_42 : decode cX9_settled 42 = .ok (.putfield 150, 3) := by decide +kernel
theorem dX9_settled_45 : decode cX9_settled 45 = .ok (.aload_n 0, 1) := by decide +kernel
theorem dX9_settled_46 : decode cX9_settled 46 = .ok (.getfield 40, 3) := by decide +kernel
theorem dX9_settled_49 : decode cX9_settled 49 = .ok (.iconst 5, 1) := by decide +kernel
theorem dX9_settled_50 : decode cX9_settled 50 = .ok (.iload_n 1, 1) := by decide +kernel
theorem dX9_settled_51 : decode cX9_settled 51 = .ok (.invokevirtual 146, 3) := by decide +kernel
theorem dX9_settled_54 : decode cX9_settled 54 = .ok (.aload_n 0, 1) := by decide +kernel
theorem dX9_settled_55 : decode cX9_settled 55 = .ok (.getfield 40, 3) := by decide +kernel
theorem dX9_settled_58 : decode cX9_settled 58 = .ok (.invokevirtual 168, 3) := by decide +kernel
theorem dX9_settled_61 : decode cX9_settled 61 = .ok (.pop, 1) := by decide +kernel
theorem dX9_settled_62 : decode cX9_settled 62 = .ok (.aload_n 0, 1) := by decide +kernel
theorem dX9_settled_63 : decode cX9_settled 63 = .ok (.getfield 40, 3) := by decide +kernel
theorem dX9_settled_66 : decode cX9_settled 66 = .ok (.iconst 4, 1) := by decide +kernel
theorem dX9_settled_67 : decode cX9_settled 67 = .ok (.invokevirtual 131, 3) := by decide +kernel
theorem dX9_settled_70 : decode cX9_settled 70 = .ok (.ireturn, 1) := by decide +kernel
theorem dX9_needed_0 : decode cX9_needed 0 = .ok (.aload_n 0, 1) := by decide +kernel
theorem dX9_needed_1 : decode cX9_needed 1 = .ok (.getfield 19, 3) := by decide +kernel
theorem dX9_needed_4 : decode cX9_needed 4 = .ok (.getfield 49, 3) := by decide +kernel
theorem dX9_needed_7 : decode cX9_needed 7 = .ok (.invokevirtual 277, 3) := by decide +kernel
theorem dX9_needed_10 : decode cX9_needed 10 = .ok (.ireturn, 1) := by decide +kernel
theorem dX9_since_0 : decode cX9_since 0 = .ok (.aload_n 0, 1) := by decide +kernel
theorem dX9_since_1 : decode cX9_since 1 = .ok (.getfield 19, 3) := by decide +kernel
theorem dX9_since_4 : decode cX9_since 4 = .ok (.getfield 49, 3) := by decide +kernel
theorem dX9_since_7 : decode cX9_since 7 = .ok (.iload_n 1, 1) := by decide +kernel
theorem dX9_since_8 : decode cX9_since 8 = .ok (.invokevirtual 116, 3) := by decide +kernel
theorem dX9_since_11 : decode cX9_since 11 = .ok (.ifnonnull 6, 3) := by decide +kernel
theorem dX9_since_14 : decode cX9_since 14 = .ok (.ldc 48, 2) := by decide +kernel
theorem dX9_since_16 : decode cX9_since 16 = .ok (.ireturn, 1) := by decide +kernel
theorem dX9_since_17 : decode cX9_since 17 = .ok (.aload_n 0, 1) := by decide +kernel
theorem dX9_since_18 : decode cX9_since 18 = .ok (.getfield 33, 3) := by decide +kernel
theorem dX9_since_21 : decode cX9_since 21 = .ok (.aload_n 0, 1) := by decide +kernel
theorem dX9_since_22 : decode cX9_since 22 = .ok (.getfield 19, 3) := by decide +kernel
theorem dX9_since_25 : decode cX9_since 25 = .ok (.getfield 49, 3) := by decide +kernel
theorem dX9_since_28 : decode cX9_since 28 = .ok (.iload_n 1, 1) := by decide +kernel
theorem dX9_since_29 : decode cX9_since 29 = .ok (.invokevirtual 280, 3) := by decide +kernel
theorem dX9_since_32 : decode cX9_since 32 = .ok (.ireturn, 1) := by decide +kernel
theorem dX9_isCell_0 : decode cX9_isCell 0 = .ok (.iload_n 0, 1) := by decide +kernel
theorem dX9_isCell_1 : decode cX9_isCell 1 = .ok (.ifCond .lt 22, 3) := by decide +kernel
theorem dX9_isCell_4 : decode cX9_isCell 4 = .ok (.iload_n 0, 1) := by decide +kernel
theorem dX9_isCell_5 : decode cX9_isCell 5 = .ok (.iconst 2, 1) := by decide +kernel
theorem dX9_isCell_6 : decode cX9_isCell 6 = .ok (.if_icmp .ge 17, 3) := by decide +kernel
theorem dX9_isCell_9 : decode cX9_isCell 9 = .ok (.iload_n 1, 1) := by decide +kernel
theorem dX9_isCell_10 : decode cX9_isCell 10 = .ok (.ifCond .lt 13, 3) := by decide +kernel
theorem dX9_isCell_13 : decode cX9_isCell 13 = .ok (.iload_n 1, 1) := by decide +kernel
theorem dX9_isCell_14 : decode cX9_isCell 14 = .ok (.bipush 12, 2) := by decide +kernel
theorem dX9_isCell_16 : decode cX9_isCell 16 = .ok (.if_icmp .ge 7, 3) := by decide +kernel
theorem dX9_isCell_19 : decode cX9_isCell 19 = .ok (.iconst 1, 1) := by decide +kernel
theorem dX9_isCell_20 : decode cX9_isCell 20 = .ok (.goto 4, 3) := by decide +kernel
theorem dX9_isCell_23 : decode cX9_isCell 23 = .ok (.iconst 0, 1) := by decide +kernel
theorem dX9_isCell_24 : decode cX9_isCell 24 = .ok (.ireturn, 1) := by decide +kernel
theorem dX9_cellOf_0 : decode cX9_cellOf 0 = .ok (.iload_n 0, 1) := by decide +kernel
theorem dX9_cellOf_1 : decode cX9_cellOf 1 = .ok (.bipush 12, 2) := by decide +kernel
theorem dX9_cellOf_3 : decode cX9_cellOf 3 = .ok (.imul, 1) := by decide +kernel
theorem dX9_cellOf_4 : decode cX9_cellOf 4 = .ok (.iload_n 1, 1) := by decide +kernel
theorem dX9_cellOf_5 : decode cX9_cellOf 5 = .ok (.iadd, 1) := by decide +kernel
theorem dX9_cellOf_6 : decode cX9_cellOf 6 = .ok (.ireturn, 1) := by decide +kernel
theorem dX9_isSetting_0 : decode cX9_isSetting 0 = .ok (.iload_n 0, 1) := by decide +kernel
theorem dX9_isSetting_1 : decode cX9_isSetting 1 = .ok (.ifCond .lt 41, 3) := by decide +kernel
theorem dX9_isSetting_4 : decode cX9_isSetting 4 = .ok (.iload_n 0, 1) := by decide +kernel
theorem dX9_isSetting_5 : decode cX9_isSetting 5 = .ok (.getstatic 284, 3) := by decide +kernel
theorem dX9_isSetting_8 : decode cX9_isSetting 8 = .ok (.arraylength, 1) := by decide +kernel
theorem dX9_isSetting_9 : decode cX9_isSetting 9 = .ok (.if_icmp .ge 33, 3) := by decide +kernel
theorem dX9_isSetting_12 : decode cX9_isSetting 12 = .ok (.iload_n 0, 1) := by decide +kernel
theorem dX9_isSetting_13 : decode cX9_isSetting 13 = .ok (.getstatic 288, 3) := by decide +kernel
theorem dX9_isSetting_16 : decode cX9_isSetting 16 = .ok (.arraylength, 1) := by decide +kernel
theorem dX9_isSetting_17 : decode cX9_isSetting 17 = .ok (.if_icmp .ge 25, 3) := by decide +kernel
theorem dX9_isSetting_20 : decode cX9_isSetting 20 = .ok (.iload_n 1, 1) := by decide +kernel
theorem dX9_isSetting_21 : decode cX9_isSetting 21 = .ok (.getstatic 284, 3) := by decide +kernel
theorem dX9_isSetting_24 : decode cX9_isSetting 24 = .ok (.iload_n 0, 1) := by decide +kernel
theorem dX9_isSetting_25 : decode cX9_isSetting 25 = .ok (.iaload, 1) := by decide +kernel
theorem dX9_isSetting_26 : decode cX9_isSetting 26 = .ok (.if_icmp .lt 16, 3) := by decide +kernel
theorem dX9_isSetting_29 : decode cX9_isSetting 29 = .ok (.iload_n 1, 1) := by decide +kernel
theorem dX9_isSetting_30 : decode cX9_isSetting 30 = .ok (.getstatic 288, 3) := by decide +kernel
theorem dX9_isSetting_33 : decode cX9_isSetting 33 = .ok (.iload_n 0, 1) := by decide +kernel
theorem dX9_isSetting_34 : decode cX9_isSetting 34 = .ok (.iaload, 1) := by decide +kernel
theorem dX9_isSetting_35 : decode cX9_isSetting 35 = .ok (.if_icmp .gt 7, 3) := by decide +kernel
theorem dX9_isSetting_38 : decode cX9_isSetting 38 = .ok (.iconst 1, 1) := by decide +kernel
theorem dX9_isSetting_39 : decode cX9_isSetting 39 = .ok (.goto 4, 3) := by decide +kernel
theorem dX9_isSetting_42 : decode cX9_isSetting 42 = .ok (.iconst 0, 1) := by decide +kernel
theorem dX9_isSetting_43 : decode cX9_isSetting 43 = .ok (.ireturn, 1) := by decide +kernel
theorem dX9_amount_0 : decode cX9_amount 0 = .ok (.iload_n 0, 1) := by decide +kernel
theorem dX9_amount_1 : decode cX9_amount 1 = .ok (.iconst (-1), 1) := by decide +kernel
theorem dX9_amount_2 : decode cX9_amount 2 = .ok (.if_icmp .ne 7, 3) := by decide +kernel
theorem dX9_amount_5 : decode cX9_amount 5 = .ok (.iconst 0, 1) := by decide +kernel
theorem dX9_amount_6 : decode cX9_amount 6 = .ok (.goto 4, 3) := by decide +kernel
theorem dX9_amount_9 : decode cX9_amount 9 = .ok (.iload_n 0, 1) := by decide +kernel
theorem dX9_amount_10 : decode cX9_amount 10 = .ok (.ireturn, 1) := by decide +kernel
theorem dX9_presence_0 : decode cX9_presence 0 = .ok (.iload_n 0, 1) := by decide +kernel
theorem dX9_presence_1 : decode cX9_presence 1 = .ok (.iconst (-1), 1) := by decide +kernel
theorem dX9_presence_2 : decode cX9_presence 2 = .ok (.if_icmp .ne 7, 3) := by decide +kernel
theorem dX9_presence_5 : decode cX9_presence 5 = .ok (.iconst 0, 1) := by decide +kernel
theorem dX9_presence_6 : decode cX9_presence 6 = .ok (.goto 4, 3) := by decide +kernel
theorem dX9_presence_9 : decode cX9_presence 9 = .ok (.iconst 1, 1) := by decide +kernel
theorem dX9_presence_10 : decode cX9_presence 10 = .ok (.ireturn, 1) := by decide +kernel
theorem dX10_init_0 : decode cX10_init 0 = .ok (.aload_n 0, 1) := by decide +kernel
theorem dX10_init_1 : decode cX10_init 1 = .ok (.invokespecial 1, 3) := by decide +kernel
theorem dX10_init_4 : decode cX10_init 4 = .ok (.aload_n 0, 1) := by decide +kernel
theorem dX10_init_5 : decode cX10_init 5 = .ok (.sipush 2063, 3) := by decide +kernel
theorem dX10_init_8 : decode cX10_init 8 = .ok (.newarray .int, 2) := by decide +kernel
theorem dX10_init_10 : decode cX10_init 10 = .ok (.putfield 7, 3) := by decide +kernel
theorem dX10_init_13 : decode cX10_init 13 = .ok (.aload_n 0, 1) := by decide +kernel
theorem dX10_init_14 : decode cX10_init 14 = .ok (.sipush 10315, 3) := by decide +kernel
theorem dX10_init_17 : decode cX10_init 17 = .ok (.newarray .int, 2) := by decide +kernel
theorem dX10_init_19 : decode cX10_init 19 = .ok (.putfield 13, 3) := by decide +kernel
theorem dX10_init_22 : decode cX10_init 22 = .ok (.aload_n 0, 1) := by decide +kernel
theorem dX10_init_23 : decode cX10_init 23 = .ok (.bipush 40, 2) := by decide +kernel
theorem dX10_init_25 : decode cX10_init 25 = .ok (.newarray .int, 2) := by decide +kernel
theorem dX10_init_27 : decode cX10_init 27 = .ok (.putfield 16, 3) := by decide +kernel
theorem dX10_init_30 : decode cX10_init 30 = .ok (.aload_n 0, 1) := by decide +kernel
theorem dX10_init_31 : decode cX10_init 31 = .ok (.bipush 24, 2) := by decide +kernel
theorem dX10_init_33 : decode cX10_init 33 = .ok (.newarray .int, 2) := by decide +kernel
theorem dX10_init_35 : decode cX10_init 35 = .ok (.putfield 19, 3) := by decide +kernel
theorem dX10_init_38 : decode cX10_init 38 = .ok (.aload_n 0, 1) := by decide +kernel
theorem dX10_init_39 : decode cX10_init 39 = .ok (.bipush 8, 2) := by decide +kernel
theorem dX10_init_41 : decode cX10_init 41 = .ok (.newarray .int, 2) := by decide +kernel
theorem dX10_init_43 : decode cX10_init 43 = .ok (.putfield 22, 3) := by decide +kernel
theorem dX10_init_46 : decode cX10_init 46 = .ok (.aload_n 0, 1) := by decide +kernel
theorem dX10_init_47 : decode cX10_init 47 = .ok (.bipush 8, 2) := by decide +kernel
theorem dX10_init_49 : decode cX10_init 49 = .ok (.newarray .int, 2) := by decide +kernel
theorem dX10_init_51 : decode cX10_init 51 = .ok (.putfield 25, 3) := by decide +kernel
theorem dX10_init_54 : decode cX10_init 54 = .ok (.aload_n 0, 1) := by decide +kernel
theorem dX10_init_55 : decode cX10_init 55 = .ok (.bipush 8, 2) := by decide +kernel
theorem dX10_init_57 : decode cX10_init 57 = .ok (.newarray .int, 2) := by decide +kernel
theorem dX10_init_59 : decode cX10_init 59 = .ok (.putfield 28, 3) := by decide +kernel
theorem dX10_init_62 : decode cX10_init 62 = .ok (.aload_n 0, 1) := by decide +kernel
theorem dX10_init_63 : decode cX10_init 63 = .ok (.getfield 7, 3) := by decide +kernel
theorem dX10_init_66 : decode cX10_init 66 = .ok (.bipush 9, 2) := by decide +kernel
theorem dX10_init_68 : decode cX10_init 68 = .ok (.iconst 1, 1) := by decide +kernel
theorem dX10_init_69 : decode cX10_init 69 = .ok (.iastore, 1) := by decide +kernel
theorem dX10_init_70 : decode cX10_init 70 = .ok (.aload_n 0, 1) := by decide +kernel
theorem dX10_init_71 : decode cX10_init 71 = .ok (.getfield 7, 3) := by decide +kernel
theorem dX10_init_74 : decode cX10_init 74 = .ok (.bipush 10, 2) := by decide +kernel
theorem dX10_init_76 : decode cX10_init 76 = .ok (.iconst 2, 1) := by decide +kernel
theorem dX10_init_77 : decode cX10_init 77 = .ok (.iastore, 1) := by decide +kernel
theorem dX10_init_78 : decode cX10_init 78 = .ok (.aload_n 0, 1) := by decide +kernel
theorem dX10_init_79 : decode cX10_init 79 = .ok (.getfield 7, 3) := by decide +kernel
theorem dX10_init_82 : decode cX10_init 82 = .ok (.bipush 11, 2) := by decide +kernel
theorem dX10_init_84 : decode cX10_init 84 = .ok (.bipush 30, 2) := by decide +kernel
theorem dX10_init_86 : decode cX10_init 86 = .ok (.iastore, 1) := by decide +kernel
theorem dX10_init_87 : decode cX10_init 87 = .ok (.aload_n 0, 1) := by decide +kernel
theorem dX10_init_88 : decode cX10_init 88 = .ok (.getfield 7, 3) := by decide +kernel
theorem dX10_init_91 : decode cX10_init 91 = .ok (.bipush 12, 2) := by decide +kernel
theorem dX10_init_93 : decode cX10_init 93 = .ok (.iconst 5, 1) := by decide +kernel
theorem dX10_init_94 : decode cX10_init 94 = .ok (.iastore, 1) := by decide +kernel
theorem dX10_init_95 : decode cX10_init 95 = .ok (.return_, 1) := by decide +kernel
theorem dX10_in_0 : decode cX10_in 0 = .ok (.iload_n 0, 1) := by decide +kernel
theorem dX10_in_1 : decode cX10_in 1 = .ok (.iload_n 1, 1) := by decide +kernel
theorem dX10_in_2 : decode cX10_in 2 = .ok (.if_icmp .lt 12, 3) := by decide +kernel
theorem dX10_in_5 : decode cX10_in 5 = .ok (.iload_n 0, 1) := by decide +kernel
theorem dX10_in_6 : decode cX10_in 6 = .ok (.iload_n 2, 1) := by decide +kernel
theorem dX10_in_7 : decode cX10_in 7 = .ok (.if_icmp .gt 7, 3) := by decide +kernel
theorem dX10_in_10 : decode cX10_in 10 = .ok (.iconst 1, 1) := by decide +kernel
theorem dX10_in_11 : decode cX10_in 11 = .ok (.goto 4, 3) := by decide +kernel
theorem dX10_in_14 : decode cX10_in 14 = .ok (.iconst 0, 1) := by decide +kernel
theorem dX10_in_15 : decode cX10_in 15 = .ok (.ireturn, 1) := by decide +kernel
theorem dX10_has_0 : decode cX10_has 0 = .ok (.iload_n 0, 1) := by decide +kernel
theorem dX10_has_1 : decode cX10_has 1 = .ok (.iload_n 1, 1) := by decide +kernel
theorem dX10_has_2 : decode cX10_has 2 = .ok (.ishr, 1) := by decide +kernel
theorem dX10_has_3 : decode cX10_has 3 = .ok (.iconst 1, 1) := by decide +kernel
theorem dX10_has_4 : decode cX10_has 4 = .ok (.iand, 1) := by decide +kernel
theorem dX10_has_5 : decode cX10_has 5 = .ok (.iconst 1, 1) := by decide +kernel
theorem dX10_has_6 : decode cX10_has 6 = .ok (.if_icmp .ne 7, 3) := by decide +kernel
theorem dX10_has_9 : decode cX10_has 9 = .ok (.iconst 1, 1) := by decide +kernel
theorem dX10_has_10 : decode cX10_has 10 = .ok (.goto 4, 3) := by decide +kernel
theorem dX10_has_13 : decode cX10_has 13 = .ok (.iconst 0, 1) := by decide +kernel
theorem dX10_has_14 : decode cX10_has 14 = .ok (.ireturn, 1) := by decide +kernel
theorem dX10_v_0 : decode cX10_v 0 = .ok (.sipush 615, 3) := by decide +kernel
theorem dX10_v_3 : decode cX10_v 3 = .ok (.bipush 9, 2) := by decide +kernel
theorem dX10_v_5 : decode cX10_v 5 = .ok (.iload_n 0, 1) := by decide +kernel
theorem dX10_v_6 : decode cX10_v 6 = .ok (.imul, 1) := by decide +kernel
theorem dX10_v_7 : decode cX10_v 7 = .ok (.iadd, 1) := by decide +kernel
theorem dX10_v_8 : decode cX10_v 8 = .ok (.iload_n 1, 1) := by decide +kernel
theorem dX10_v_9 : decode cX10_v 9 = .ok (.iadd, 1) := by decide +kernel
theorem dX10_v_10 : decode cX10_v 10 = .ok (.ireturn, 1) := by decide +kernel
theorem dX10_isView_0 : decode cX10_isView 0 = .ok (.iload_n 1, 1) := by decide +kernel
theorem dX10_isView_1 : decode cX10_isView 1 = .ok (.iconst 0, 1) := by decide +kernel
theorem dX10_isView_2 : decode cX10_isView 2 = .ok (.aload_n 0, 1) := by decide +kernel
theorem dX10_isView_3 : decode cX10_isView 3 = .ok (.getfield 7, 3) := by decide +kernel
theorem dX10_isView_6 : decode cX10_isView 6 = .ok (.iconst 1, 1) := by decide +kernel
theorem dX10_isView_7 : decode cX10_isView 7 = .ok (.iaload, 1) := by decide +kernel
theorem dX10_isView_8 : decode cX10_isView 8 = .ok (.iconst 1, 1) := by decide +kernel
theorem dX10_isView_9 : decode cX10_isView 9 = .ok (.isub, 1) := by decide +kernel
theorem dX10_isView_10 : decode cX10_isView 10 = .ok (.invokestatic 31, 3) := by decide +kernel
theorem dX10_isView_13 : decode cX10_isView 13 = .ok (.ifCond .eq 21, 3) := by decide +kernel
theorem dX10_isView_16 : decode cX10_isView 16 = .ok (.aload_n 0, 1) := by decide +kernel
theorem dX10_isView_17 : decode cX10_isView 17 = .ok (.getfield 7, 3) := by decide +kernel
theorem dX10_isView_20 : decode cX10_isView 20 = .ok (.iload_n 1, 1) := by decide +kernel
theorem dX10_isView_21 : decode cX10_isView 21 = .ok (.iconst 4, 1) := by decide +kernel
theorem dX10_isView_22 : decode cX10_isView 22 = .ok (.invokestatic 35, 3) := by decide +kernel
theorem dX10_isView_25 : decode cX10_isView 25 = .ok (.iaload, 1) := by decide +kernel
theorem dX10_isView_26 : decode cX10_isView 26 = .ok (.iconst 1, 1) := by decide +kernel
theorem dX10_isView_27 : decode cX10_isView 27 = .ok (.if_icmp .ne 7, 3) := by decide +kernel
theorem dX10_isView_30 : decode cX10_isView 30 = .ok (.iconst 1, 1) := by decide +kernel
theorem dX10_isView_31 : decode cX10_isView 31 = .ok (.goto 4, 3) := by decide +kernel
theorem dX10_isView_34 : decode cX10_isView 34 = .ok (.iconst 0, 1) := by decide +kernel
theorem dX10_isView_35 : decode cX10_isView 35 = .ok (.ireturn, 1) := by decide +kernel
theorem dX10_isBankrupt_0 : decode cX10_isBankrupt 0 = .ok (.aload_n 0, 1) := by decide +kernel
theorem dX10_isBankrupt_1 : decode cX10_isBankrupt 1 = .ok (.getfield 7, 3) := by decide +kernel
theorem dX10_isBankrupt_4 : decode cX10_isBankrupt 4 = .ok (.iload_n 1, 1) := by decide +kernel
theorem dX10_isBankrupt_5 : decode cX10_isBankrupt 5 = .ok (.iconst 5, 1) := by decide +kernel
theorem dX10_isBankrupt_6 : decode cX10_isBankrupt 6 = .ok (.invokestatic 35, 3) := by decide +kernel
theorem dX10_isBankrupt_9 : decode cX10_isBankrupt 9 = .ok (.iaload, 1) := by decide +kernel
theorem dX10_isBankrupt_10 : decode cX10_isBankrupt 10 = .ok (.iconst 1, 1) := by decide +kernel
theorem dX10_isBankrupt_11 : decode cX10_isBankrupt 11 = .ok (.if_icmp .ne 7, 3) := by decide +kernel
theorem dX10_isBankrupt_14 : decode cX10_isBankrupt 14 = .ok (.iconst 1, 1) := by decide +kernel
theorem dX10_isBankrupt_15 : decode cX10_isBankrupt 15 = .ok (.goto 4, 3) := by decide +kernel
theorem dX10_isBankrupt_18 : decode cX10_isBankrupt 18 = .ok (.iconst 0, 1) := by decide +kernel
theorem dX10_isBankrupt_19 : decode cX10_isBankrupt 19 = .ok (.ireturn, 1) := by decide +kernel
theorem dX10_notes_0 : decode cX10_notes 0 = .ok (.aload_n 0, 1) := by decide +kernel
theorem dX10_notes_1 : decode cX10_notes 1 = .ok (.getfield 39, 3) := by decide +kernel
theorem dX10_notes_4 : decode cX10_notes 4 = .ok (.iconst 5, 1) := by decide +kernel
theorem dX10_notes_5 : decode cX10_notes 5 = .ok (.if_icmp .ne 44, 3) := by decide +kernel
theorem dX10_notes_8 : decode cX10_notes 8 = .ok (.iconst 0, 1) := by decide +kernel
theorem dX10_notes_9 : decode cX10_notes 9 = .ok (.istore_n 1, 1) := by decide +kernel
theorem dX10_notes_10 : decode cX10_notes 10 = .ok (.iload_n 1, 1) := by decide +kernel
theorem dX10_notes_11 : decode cX10_notes 11 = .ok (.sipush 8252, 3) := by decide +kernel
theorem dX10_notes_14 : decode cX10_notes 14 = .ok (.if_icmp .ge 25, 3) := by decide +kernel
theorem dX10_notes_17 : decode cX10_notes 17 = .ok (.aload_n 0, 1) := by decide +kernel
theorem dX10_notes_18 : decode cX10_notes 18 = .ok (.getfield 13, 3) := by decide +kernel
theorem dX10_notes_21 : decode cX10_notes 21 = .ok (.iload_n 1, 1) := by decide +kernel
theorem dX10_notes_22 : decode cX10_notes 22 = .ok (.aload_n 0, 1) := by decide +kernel
theorem dX10_notes_23 : decode cX10_notes 23 = .ok (.getfield 13, 3) := by decide +kernel
theorem dX10_notes_26 : decode cX10_notes 26 = .ok (.iload_n 1, 1) := by decide +kernel
theorem dX10_notes_27 : decode cX10_notes 27 = .ok (.sipush 2063, 3) := by decide +kernel
theorem dX10_notes_30 : decode cX10_notes 30 = .ok (.iadd, 1) := by decide +kernel
theorem dX10_notes_31 : decode cX10_notes 31 = .ok (.iaload, 1) := by decide +kernel
theorem dX10_notes_32 : decode cX10_notes 32 = .ok (.iastore, 1) := by decide +kernel
theorem dX10_notes_33 : decode cX10_notes 33 = .ok (.iinc 1 1, 3) := by decide +kernel
theorem dX10_notes_36 : decode cX10_notes 36 = .ok (.goto (-26), 3) := by decide +kernel
theorem dX10_notes_39 : decode cX10_notes 39 = .ok (.aload_n 0, 1) := by decide +kernel
theorem dX10_notes_40 : decode cX10_notes 40 = .ok (.dup, 1) := by decide +kernel
theorem dX10_notes_41 : decode cX10_notes 41 = .ok (.getfield 39, 3) := by decide +kernel
theorem dX10_notes_44 : decode cX10_notes 44 = .ok (.iconst 1, 1) := by decide +kernel
theorem dX10_notes_45 : decode cX10_notes 45 = .ok (.isub, 1) := by decide +kernel
theorem dX10_notes_46 : decode cX10_notes 46 = .ok (.putfield 39, 3) := by decide +kernel
theorem dX10_notes_49 : decode cX10_notes 49 = .ok (.iconst 0, 1) := by decide +kernel
theorem dX10_notes_50 : decode cX10_notes 50 = .ok (.istore_n 1, 1) := by decide +kernel
theorem dX10_notes_51 : decode cX10_notes 51 = .ok (.iload_n 1, 1) := by decide +kernel
theorem dX10_notes_52 : decode cX10_notes 52 = .ok (.sipush 2063, 3) := by decide +kernel
theorem dX10_notes_55 : decode cX10_notes 55 = .ok (.if_icmp .ge 30, 3) := by decide +kernel
theorem dX10_notes_58 : decode cX10_notes 58 = .ok (.aload_n 0, 1) := by decide +kernel
theorem dX10_notes_59 : decode cX10_notes 59 = .ok (.getfield 13, 3) := by decide +kernel
theorem dX10_notes_62 : decode cX10_notes 62 = .ok (.sipush 2063, 3) := by decide +kernel
theorem dX10_notes_65 : decode cX10_notes 65 = .ok (.aload_n 0, 1) := by decide +kernel
theorem dX10_notes_66 : decode cX10_notes 66 = .ok (.getfield 39, 3) := by decide +kernel
theorem dX10_notes_69 : decode cX10_notes 69 = .ok (.imul, 1) := by decide +kernel
theorem dX10_notes_70 : decode cX10_notes 70 = .ok (.iload_n 1, 1) := by decide +kernel
theorem dX10_notes_71 : decode cX10_notes 71 = .ok (.iadd, 1) := by decide +kernel
theorem dX10_notes_72 : decode cX10_notes 72 = .ok (.aload_n 0, 1) := by decide +kernel
theorem dX10_notes_73 : decode cX10_notes 73 = .ok (.getfield 7, 3) := by decide +kernel
theorem dX10_notes_76 : decode cX10_notes 76 = .ok (.iload_n 1, 1) := by decide +kernel
theorem dX10_notes_77 : decode cX10_notes 77 = .ok (.iaload, 1) := by decide +kernel
theorem dX10_notes_78 : decode cX10_notes 78 = .ok (.iastore, 1) := by decide +kernel
theorem dX10_notes_79 : decode cX10_notes 79 = .ok (.iinc 1 1, 3) := by decide +kernel
theorem dX10_notes_82 : decode cX10_notes 82 = .ok (.goto (-31), 3) := by decide +kernel
theorem dX10_notes_85 : decode cX10_notes 85 = .ok (.aload_n 0, 1) := by decide +kernel
theorem dX10_notes_86 : decode cX10_notes 86 = .ok (.dup, 1) := by decide +kernel
theorem dX10_notes_87 : decode cX10_notes 87 = .ok (.getfield 39, 3) := by decide +kernel
theorem dX10_notes_90 : decode cX10_notes 90 = .ok (.iconst 1, 1) := by decide +kernel
theorem dX10_notes_91 : decode cX10_notes 91 = .ok (.iadd, 1) := by decide +kernel
theorem dX10_notes_92 : decode cX10_notes 92 = .ok (.putfield 39, 3) := by decide +kernel
theorem dX10_notes_95 : decode cX10_notes 95 = .ok (.return_, 1) := by decide +kernel
theorem dX10_c_0 : decode cX10_c 0 = .ok (.bipush 15, 2) := by decide +kernel
theorem dX10_c_2 : decode cX10_c 2 = .ok (.iconst 3, 1) := by decide +kernel
theorem dX10_c_3 : decode cX10_c 3 = .ok (.iload_n 0, 1) := by decide +kernel
theorem dX10_c_4 : decode cX10_c 4 = .ok (.imul, 1) := by decide +kernel
theorem dX10_c_5 : decode cX10_c 5 = .ok (.iadd, 1) := by decide +kernel
theorem dX10_c_6 : decode cX10_c 6 = .ok (.iload_n 1, 1) := by decide +kernel
theorem dX10_c_7 : decode cX10_c 7 = .ok (.iadd, 1) := by decide +kernel
theorem dX10_c_8 : decode cX10_c 8 = .ok (.ireturn, 1) := by decide +kernel
theorem dX10_lays_0 : decode cX10_lays 0 = .ok (.iconst 0, 1) := by decide +kernel
theorem dX10_lays_1 : decode cX10_lays 1 = .ok (.istore_n 2, 1) := by decide +kernel
theorem dX10_lays_2 : decode cX10_lays 2 = .ok (.iload_n 2, 1) := by decide +kernel
theorem dX10_lays_3 : decode cX10_lays 3 = .ok (.bipush 24, 2) := by decide +kernel
theorem dX10_lays_5 : decode cX10_lays 5 = .ok (.if_icmp .ge 16, 3) := by decide +kernel
theorem dX10_lays_8 : decode cX10_lays 8 = .ok (.aload_n 0, 1) := by decide +kernel
theorem dX10_lays_9 : decode cX10_lays 9 = .ok (.getfield 19, 3) := by decide +kernel
theorem dX10_lays_12 : decode cX10_lays 12 = .ok (.iload_n 2, 1) := by decide +kernel
theorem dX10_lays_13 : decode cX10_lays 13 = .ok (.iconst (-1), 1) := by decide +kernel
theorem dX10_lays_14 : decode cX10_lays 14 = .ok (.iastore, 1) := by decide +kernel
theorem dX10_lays_15 : decode cX10_lays 15 = .ok (.iinc 2 1, 3) := by decide +kernel
theorem dX10_lays_18 : decode cX10_lays 18 = .ok (.goto (-16), 3) := by decide +kernel
theorem dX10_lays_21 : decode cX10_lays 21 = .ok (.iconst 0, 1) := by decide +kernel
theorem dX10_lays_22 : decode cX10_lays 22 = .ok (.istore_n 2, 1) := by decide +kernel
theorem dX10_lays_23 : decode cX10_lays 23 = .ok (.iload_n 2, 1) := by decide +kernel
theorem dX10_lays_24 : decode cX10_lays 24 = .ok (.iload_n 1, 1) := by decide +kernel
theorem dX10_lays_25 : decode cX10_lays 25 = .ok (.if_icmp .ge 48, 3) := by decide +kernel
theorem dX10_lays_28 : decode cX10_lays 28 = .ok (.aload_n 0, 1) := by decide +kernel
theorem dX10_lays_29 : decode cX10_lays 29 = .ok (.getfield 19, 3) := by decide +kernel
theorem dX10_lays_32 : decode cX10_lays 32 = .ok (.bipush 12, 2) := by decide +kernel
theorem dX10_lays_34 : decode cX10_lays 34 = .ok (.aload_n 0, 1) := by decide +kernel
theorem dX10_lays_35 : decode cX10_lays 35 = .ok (.getfield 7, 3) := by decide +kernel
theorem dX10_lays_38 : decode cX10_lays 38 = .ok (.iload_n 2, 1) := by decide +kernel
theorem dX10_lays_39 : decode cX10_lays 39 = .ok (.iconst 0, 1) := by decide +kernel
theorem dX10_lays_40 : decode cX10_lays 40 = .ok (.invokestatic 43, 3) := by decide +kernel
theorem dX10_lays_43 : decode cX10_lays 43 = .ok (.iaload, 1) := by decide +kernel
theorem dX10_lays_44 : decode cX10_lays 44 = .ok (.imul, 1) := by decide +kernel
theorem dX10_lays_45 : decode cX10_lays 45 = .ok (.aload_n 0, 1) := by decide +kernel
theorem dX10_lays_46 : decode cX10_lays 46 = .ok (.getfield 7, 3) := by decide +kernel
theorem dX10_lays_49 : decode cX10_lays 49 = .ok (.iload_n 2, 1) := by decide +kernel
theorem dX10_lays_50 : decode cX10_lays 50 = .ok (.iconst 1, 1) := by decide +kernel
theorem dX10_lays_51 : decode cX10_lays 51 = .ok (.invokestatic 43, 3) := by decide +kernel
theorem dX10_lays_54 : decode cX10_lays 54 = .ok (.iaload, 1) := by decide +kernel
theorem dX10_lays_55 : decode cX10_lays 55 = .ok (.iadd, 1) := by decide +kernel
theorem dX10_lays_56 : decode cX10_lays 56 = .ok (.aload_n 0, 1) := by decide +kernel
theorem dX10_lays_57 : decode cX10_lays 57 = .ok (.getfield 7, 3) := by decide +kernel
theorem dX10_lays_60 : decode cX10_lays 60 = .ok (.iload_n 2, 1) := by decide +kernel
theorem dX10_lays_61 : decode cX10_lays 61 = .ok (.iconst 2, 1) := by decide +kernel
theorem dX10_lays_62 : decode cX10_lays 62 = .ok (.invokestatic 43, 3) := by decide +kernel
theorem dX10_lays_65 : decode cX10_lays 65 = .ok (.iaload, 1) := by decide +kernel
theorem dX10_lays_66 : decode cX10_lays 66 = .ok (.iastore, 1) := by decide +kernel
theorem dX10_lays_67 : decode cX10_lays 67 = .ok (.iinc 2 1, 3) := by decide +kernel
theorem dX10_lays_70 : decode cX10_lays 70 = .ok (.goto (-47), 3) := by decide +kernel
theorem dX10_lays_73 : decode cX10_lays 73 = .ok (.return_, 1) := by decide +kernel
theorem dX10_answerOf_0 : decode cX10_answerOf 0 = .ok (.aload_n 0, 1) := by decide +kernel
theorem dX10_answerOf_1 : decode cX10_answerOf 1 = .ok (.getfield 7, 3) := by decide +kernel
theorem dX10_answerOf_4 : decode cX10_answerOf 4 = .ok (.iload_n 1, 1) := by decide +kernel
theorem dX10_answerOf_5 : decode cX10_answerOf 5 = .ok (.iconst 0, 1) := by decide +kernel
theorem dX10_answerOf_6 : decode cX10_answerOf 6 = .ok (.invokestatic 35, 3) := by decide +kernel
theorem dX10_answerOf_9 : decode cX10_answerOf 9 = .ok (.iaload, 1) := by decide +kernel
theorem dX10_answerOf_10 : decode cX10_answerOf 10 = .ok (.istore_n 2, 1) := by decide +kernel
theorem dX10_answerOf_11 : decode cX10_answerOf 11 = .ok (.iload_n 2, 1) := by decide +kernel
theorem dX10_answerOf_12 : decode cX10_answerOf 12 = .ok (.iconst 4, 1) := by decide +kernel
theorem dX10_answerOf_13 : decode cX10_answerOf 13 = .ok (.if_icmp .ne 35, 3) := by decide +kernel
theorem dX10_answerOf_16 : decode cX10_answerOf 16 = .ok (.aload_n 0, 1) := by decide +kernel
theorem dX10_answerOf_17 : decode cX10_answerOf 17 = .ok (.getfield 22, 3) := by decide +kernel
theorem dX10_answerOf_20 : decode cX10_answerOf 20 = .ok (.aload_n 0, 1) := by decide +kernel
theorem dX10_answerOf_21 : decode cX10_answerOf 21 = .ok (.getfield 7, 3) := by decide +kernel
theorem dX10_answerOf_24 : decode cX10_answerOf 24 = .ok (.iload_n 1, 1) := by decide +kernel
theorem dX10_answerOf_25 : decode cX10_answerOf 25 = .ok (.iconst 2, 1) := by decide +kernel
theorem dX10_answerOf_26 : decode cX10_answerOf 26 = .ok (.invokestatic 35, 3) := by decide +kernel
theorem dX10_answerOf_29 : decode cX10_answerOf 29 = .ok (.iaload, 1) := by decide +kernel
theorem dX10_answerOf_30 : decode cX10_answerOf 30 = .ok (.iaload, 1) := by decide +kernel
theorem dX10_answerOf_31 : decode cX10_answerOf 31 = .ok (.aload_n 0, 1) := by decide +kernel
theorem dX10_answerOf_32 : decode cX10_answerOf 32 = .ok (.getfield 22, 3) := by decide +kernel
theorem dX10_answerOf_35 : decode cX10_answerOf 35 = .ok (.aload_n 0, 1) := by decide +kernel
theorem dX10_answerOf_36 : decode cX10_answerOf 36 = .ok (.getfield 7, 3) := by decide +kernel
theorem dX10_answerOf_39 : decode cX10_answerOf 39 = .ok (.iload_n 1, 1) := by decide +kernel
theorem dX10_answerOf_40 : decode cX10_answerOf 40 = .ok (.iconst 3, 1) := by decide +kernel
theorem dX10_answerOf_41 : decode cX10_answerOf 41 = .ok (.invokestatic 35, 3) := by decide +kernel
theorem dX10_answerOf_44 : decode cX10_answerOf 44 = .ok (.iaload, 1) := by decide +kernel
theorem dX10_answerOf_45 : decode cX10_answerOf 45 = .ok (.iaload, 1) := by decide +kernel
theorem dX10_answerOf_46 : decode cX10_answerOf 46 = .ok (.isub, 1) := by decide +kernel
theorem dX10_answerOf_47 : decode cX10_answerOf 47 = .ok (.ireturn, 1) := by decide +kernel
theorem dX10_answerOf_48 : decode cX10_answerOf 48 = .ok (.iload_n 2, 1) := by decide +kernel
theorem dX10_answerOf_49 : decode cX10_answerOf 49 = .ok (.iconst 2, 1) := by decide +kernel
theorem dX10_answerOf_50 : decode cX10_answerOf 50 = .ok (.if_icmp .ne 7, 3) := by decide +kernel
theorem dX10_answerOf_53 : decode cX10_answerOf 53 = .ok (.iconst (-1), 1) := by decide +kernel
theorem dX10_answerOf_54 : decode cX10_answerOf 54 = .ok (.goto 4, 3) := by decide +kernel
theorem dX10_answerOf_57 : decode cX10_answerOf 57 = .ok (.iconst 0, 1) := by decide +kernel
theorem dX10_answerOf_58 : decode cX10_answerOf 58 = .ok (.istore_n 3, 1) := by decide +kernel
theorem dX10_answerOf_59 : decode cX10_answerOf 59 = .ok (.aload_n 0, 1) := by decide +kernel
theorem dX10_answerOf_60 : decode cX10_answerOf 60 = .ok (.getfield 7, 3) := by decide +kernel
theorem dX10_answerOf_63 : decode cX10_answerOf 63 = .ok (.iload_n 1, 1) := by decide +kernel
theorem dX10_answerOf_64 : decode cX10_answerOf 64 = .ok (.iconst 2, 1) := by decide +kernel
theorem dX10_answerOf_65 : decode cX10_answerOf 65 = .ok (.invokestatic 35, 3) := by decide +kernel
theorem dX10_answerOf_68 : decode cX10_answerOf 68 = .ok (.iaload, 1) := by decide +kernel
theorem dX10_answerOf_69 : decode cX10_answerOf 69 = .ok (.istore 4, 2) := by decide +kernel
theorem dX10_answerOf_71 : decode cX10_answerOf 71 = .ok (.iload 4, 2) := by decide +kernel
theorem dX10_answerOf_73 : decode cX10_answerOf 73 = .ok (.aload_n 0, 1) := by decide +kernel
theorem dX10_answerOf_74 : decode cX10_answerOf 74 = .ok (.getfield 7, 3) := by decide +kernel
theorem dX10_answerOf_77 : decode cX10_answerOf 77 = .ok (.iload_n 1, 1) := by decide +kernel
theorem dX10_answerOf_78 : decode cX10_answerOf 78 = .ok (.iconst 3, 1) := by decide +kernel
theorem dX10_answerOf_79 : decode cX10_answerOf 79 = .ok (.invokestatic 35, 3) := by decide +kernel
theorem dX10_answerOf_82 : decode cX10_answerOf 82 = .ok (.iaload, 1) := by decide +kernel
theorem dX10_answerOf_83 : decode cX10_answerOf 83 = .ok (.if_icmp .gt 142, 3) := by decide +kernel
theorem dX10_answerOf_86 : decode cX10_answerOf 86 = .ok (.aload_n 0, 1) := by decide +kernel
theorem dX10_answerOf_87 : decode cX10_answerOf 87 = .ok (.getfield 19, 3) := by decide +kernel
theorem dX10_answerOf_90 : decode cX10_answerOf 90 = .ok (.bipush 12, 2) := by decide +kernel
theorem dX10_answerOf_92 : decode cX10_answerOf 92 = .ok (.aload_n 0, 1) := by decide +kernel
theorem dX10_answerOf_93 : decode cX10_answerOf 93 = .ok (.getfield 7, 3) := by decide +kernel
theorem dX10_answerOf_96 : decode cX10_answerOf 96 = .ok (.iload_n 1, 1) := by decide +kernel
theorem dX10_answerOf_97 : decode cX10_answerOf 97 = .ok (.iconst 1, 1) := by decide +kernel
theorem dX10_answerOf_98 : decode cX10_answerOf 98 = .ok (.invokestatic 35, 3) := by decide +kernel
theorem dX10_answerOf_101 : decode cX10_answerOf 101 = .ok (.iaload, 1) := by decide +kernel
theorem dX10_answerOf_102 : decode cX10_answerOf 102 = .ok (.imul, 1) := by decide +kernel
theorem dX10_answerOf_103 : decode cX10_answerOf 103 = .ok (.iload 4, 2) := by decide +kernel
theorem dX10_answerOf_105 : decode cX10_answerOf 105 = .ok (.iadd, 1) := by decide +kernel
theorem dX10_answerOf_106 : decode cX10_answerOf 106 = .ok (.iaload, 1) := by decide +kernel
theorem dX10_answerOf_107 : decode cX10_answerOf 107 = .ok (.istore 5, 2) := by decide +kernel
theorem dX10_answerOf_109 : decode cX10_answerOf 109 = .ok (.aload_n 0, 1) := by decide +kernel
theorem dX10_answerOf_110 : decode cX10_answerOf 110 = .ok (.getfield 19, 3) := by decide +kernel
theorem dX10_answerOf_113 : decode cX10_answerOf 113 = .ok (.bipush 12, 2) := by decide +kernel
theorem dX10_answerOf_115 : decode cX10_answerOf 115 = .ok (.iload 4, 2) := by decide +kernel
theorem dX10_answerOf_117 : decode cX10_answerOf 117 = .ok (.iadd, 1) := by decide +kernel
theorem dX10_answerOf_118 : decode cX10_answerOf 118 = .ok (.iaload, 1) := by decide +kernel
theorem dX10_answerOf_119 : decode cX10_answerOf 119 = .ok (.istore 6, 2) := by decide +kernel
theorem dX10_answerOf_121 : decode cX10_answerOf 121 = .ok (.iload_n 2, 1) := by decide +kernel
theorem dX10_answerOf_122 : decode cX10_answerOf 122 = .ok (.tableswitch 75 0 2 #[26, 43, 59], 26) := by decide +kernel
theorem dX10_answerOf_148 : decode cX10_answerOf 148 = .ok (.iload_n 3, 1) := by decide +kernel
theorem dX10_answerOf_149 : decode cX10_answerOf 149 = .ok (.iload 5, 2) := by decide +kernel
theorem dX10_answerOf_151 : decode cX10_answerOf 151 = .ok (.ifCond .ge 7, 3) := by decide +kernel
theorem dX10_answerOf_154 : decode cX10_answerOf 154 = .ok (.iconst 0, 1) := by decide +kernel
theorem dX10_answerOf_155 : decode cX10_answerOf 155 = .ok (.goto 5, 3) := by decide +kernel
theorem dX10_answerOf_158 : decode cX10_answerOf 158 = .ok (.iload 5, 2) := by decide +kernel
theorem dX10_answerOf_160 : decode cX10_answerOf 160 = .ok (.iadd, 1) := by decide +kernel
theorem dX10_answerOf_161 : decode cX10_answerOf 161 = .ok (.istore_n 3, 1) := by decide +kernel
theorem dX10_answerOf_162 : decode cX10_answerOf 162 = .ok (.goto 57, 3) := by decide +kernel
theorem dX10_answerOf_165 : decode cX10_answerOf 165 = .ok (.iload_n 3, 1) := by decide +kernel
theorem dX10_answerOf_166 : decode cX10_answerOf 166 = .ok (.iload 5, 2) := by decide +kernel
theorem dX10_answerOf_168 : decode cX10_answerOf 168 = .ok (.ifCond .ge 7, 3) := by decide +kernel
theorem dX10_answerOf_171 : decode cX10_answerOf 171 = .ok (.iconst 0, 1) := by decide +kernel
theorem dX10_answerOf_172 : decode cX10_answerOf 172 = .ok (.goto 4, 3) := by decide +kernel
theorem dX10_answerOf_175 : decode cX10_answerOf 175 = .ok (.iconst 1, 1) := by decide +kernel
theorem dX10_answerOf_176 : decode cX10_answerOf 176 = .ok (.iadd, 1) := by decide +kernel
theorem dX10_answerOf_177 : decode cX10_answerOf 177 = .ok (.istore_n 3, 1) := by decide +kernel
theorem dX10_answerOf_178 : decode cX10_answerOf 178 = .ok (.goto 41, 3) := by decide +kernel
theorem dX10_answerOf_181 : decode cX10_answerOf 181 = .ok (.iload 5, 2) := by decide +kernel
theorem dX10_answerOf_183 : decode cX10_answerOf 183 = .ok (.iload_n 3, 1) := by decide +kernel
theorem dX10_answerOf_184 : decode cX10_answerOf 184 = .ok (.if_icmp .le 8, 3) := by decide +kernel
theorem dX10_answerOf_187 : decode cX10_answerOf 187 = .ok (.iload 5, 2) := by decide +kernel
theorem dX10_answerOf_189 : decode cX10_answerOf 189 = .ok (.goto 4, 3) := by decide +kernel
theorem dX10_answerOf_192 : decode cX10_answerOf 192 = .ok (.iload_n 3, 1) := by decide +kernel
theorem dX10_answerOf_193 : decode cX10_answerOf 193 = .ok (.istore_n 3, 1) := by decide +kernel
theorem dX10_answerOf_194 : decode cX10_answerOf 194 = .ok (.goto 25, 3) := by decide +kernel
theorem dX10_answerOf_197 : decode cX10_answerOf 197 = .ok (.iload_n 3, 1) := by decide +kernel
theorem dX10_answerOf_198 : decode cX10_answerOf 198 = .ok (.iload 5, 2) := by decide +kernel
theorem dX10_answerOf_200 : decode cX10_answerOf 200 = .ok (.ifCond .lt 8, 3) := by decide +kernel
theorem dX10_answerOf_203 : decode cX10_answerOf 203 = .ok (.iload 6, 2) := by decide +kernel
theorem dX10_answerOf_205 : decode cX10_answerOf 205 = .ok (.ifCond .ge 7, 3) := by decide +kernel
theorem dX10_answerOf_208 : decode cX10_answerOf 208 = .ok (.iconst 0, 1) := by decide +kernel
theorem dX10_answerOf_209 : decode cX10_answerOf 209 = .ok (.goto 8, 3) := by decide +kernel
theorem dX10_answerOf_212 : decode cX10_answerOf 212 = .ok (.iload 5, 2) := by decide +kernel
theorem dX10_answerOf_214 : decode cX10_answerOf 214 = .ok (.iload 6, 2) := by decide +kernel
theorem dX10_answerOf_216 : decode cX10_answerOf 216 = .ok (.imul, 1) := by decide +kernel
theorem dX10_answerOf_217 : decode cX10_answerOf 217 = .ok (.iadd, 1) := by decide +kernel
theorem dX10_answerOf_218 : decode cX10_answerOf 218 = .ok (.istore_n 3, 1) := by decide +kernel
theorem dX10_answerOf_219 : decode cX10_answerOf 219 = .ok (.iinc 4 1, 3) := by decide +kernel
theorem dX10_answerOf_222 : decode cX10_answerOf 222 = .ok (.goto (-151), 3) := by decide +kernel
theorem dX10_answerOf_225 : decode cX10_answerOf 225 = .ok (.iload_n 3, 1) := by decide +kernel
theorem dX10_answerOf_226 : decode cX10_answerOf 226 = .ok (.ireturn, 1) := by decide +kernel
theorem dX10_answerAt_0 : decode cX10_answerAt 0 = .ok (.aload_n 0, 1) := by decide +kernel
theorem dX10_answerAt_1 : decode cX10_answerAt 1 = .ok (.iload_n 2, 1) := by decide +kernel
theorem dX10_answerAt_2 : decode cX10_answerAt 2 = .ok (.invokevirtual 46, 3) := by decide +kernel
theorem dX10_answerAt_5 : decode cX10_answerAt 5 = .ok (.iconst 0, 1) := by decide +kernel
theorem dX10_answerAt_6 : decode cX10_answerAt 6 = .ok (.istore_n 3, 1) := by decide +kernel
theorem dX10_answerAt_7 : decode cX10_answerAt 7 = .ok (.iload_n 3, 1) := by decide +kernel
theorem dX10_answerAt_8 : decode cX10_answerAt 8 = .ok (.iload_n 1, 1) := by decide +kernel
theorem dX10_answerAt_9 : decode cX10_answerAt 9 = .ok (.if_icmp .gt 38, 3) := by decide +kernel
theorem dX10_answerAt_12 : decode cX10_answerAt 12 = .ok (.aload_n 0, 1) := by decide +kernel
theorem dX10_answerAt_13 : decode cX10_answerAt 13 = .ok (.getfield 22, 3) := by decide +kernel
theorem dX10_answerAt_16 : decode cX10_answerAt 16 = .ok (.iload_n 3, 1) := by decide +kernel
theorem dX10_answerAt_17 : decode cX10_answerAt 17 = .ok (.aload_n 0, 1) := by decide +kernel
theorem dX10_answerAt_18 : decode cX10_answerAt 18 = .ok (.getfield 7, 3) := by decide +kernel
theorem dX10_answerAt_21 : decode cX10_answerAt 21 = .ok (.iload_n 3, 1) := by decide +kernel
theorem dX10_answerAt_22 : decode cX10_answerAt 22 = .ok (.iconst 4, 1) := by decide +kernel
theorem dX10_answerAt_23 : decode cX10_answerAt 23 = .ok (.invokestatic 35, 3) := by decide +kernel
theorem dX10_answerAt_26 : decode cX10_answerAt 26 = .ok (.iaload, 1) := by decide +kernel
theorem dX10_answerAt_27 : decode cX10_answerAt 27 = .ok (.iconst 1, 1) := by decide +kernel
theorem dX10_answerAt_28 : decode cX10_answerAt 28 = .ok (.if_icmp .ne 11, 3) := by decide +kernel
theorem dX10_answerAt_31 : decode cX10_answerAt 31 = .ok (.aload_n 0, 1) := by decide +kernel
theorem dX10_answerAt_32 : decode cX10_answerAt 32 = .ok (.iload_n 3, 1) := by decide +kernel
theorem dX10_answerAt_33 : decode cX10_answerAt 33 = .ok (.invokevirtual 50, 3) := by decide +kernel
theorem dX10_answerAt_36 : decode cX10_answerAt 36 = .ok (.goto 4, 3) := by decide +kernel
theorem dX10_answerAt_39 : decode cX10_answerAt 39 = .ok (.iconst 0, 1) := by decide +kernel
theorem dX10_answerAt_40 : decode cX10_answerAt 40 = .ok (.iastore, 1) := by decide +kernel
theorem dX10_answerAt_41 : decode cX10_answerAt 41 = .ok (.iinc 3 1, 3) := by decide +kernel
theorem dX10_answerAt_44 : decode cX10_answerAt 44 = .ok (.goto (-37), 3) := by decide +kernel
theorem dX10_answerAt_47 : decode cX10_answerAt 47 = .ok (.aload_n 0, 1) := by decide +kernel
theorem dX10_answerAt_48 : decode cX10_answerAt 48 = .ok (.getfield 22, 3) := by decide +kernel
theorem dX10_answerAt_51 : decode cX10_answerAt 51 = .ok (.iload_n 1, 1) := by decide +kernel
theorem dX10_answerAt_52 : decode cX10_answerAt 52 = .ok (.iaload, 1) := by decide +kernel
theorem dX10_answerAt_53 : decode cX10_answerAt 53 = .ok (.ireturn, 1) := by decide +kernel
theorem dX10_concerned_0 : decode cX10_concerned 0 = .ok (.iconst 0, 1) := by decide +kernel
theorem dX10_concerned_1 : decode cX10_concerned 1 = .ok (.istore_n 2, 1) := by decide +kernel
theorem dX10_concerned_2 : decode cX10_concerned 2 = .ok (.iconst 0, 1) := by decide +kernel
theorem dX10_concerned_3 : decode cX10_concerned 3 = .ok (.istore_n 3, 1) := by decide +kernel
theorem dX10_concerned_4 : decode cX10_concerned 4 = .ok (.iload_n 3, 1) := by decide +kernel
theorem dX10_concerned_5 : decode cX10_concerned 5 = .ok (.aload_n 0, 1) := by decide +kernel
theorem dX10_concerned_6 : decode cX10_concerned 6 = .ok (.getfield 7, 3) := by decide +kernel
theorem dX10_concerned_9 : decode cX10_concerned 9 = .ok (.iconst 1, 1) := by decide +kernel
theorem dX10_concerned_10 : decode cX10_concerned 10 = .ok (.iaload, 1) := by decide +kernel
theorem dX10_concerned_11 : decode cX10_concerned 11 = .ok (.if_icmp .ge 162, 3) := by decide +kernel
theorem dX10_concerned_14 : decode cX10_concerned 14 = .ok (.aload_n 0, 1) := by decide +kernel
theorem dX10_concerned_15 : decode cX10_concerned 15 = .ok (.getfield 7, 3) := by decide +kernel
theorem dX10_concerned_18 : decode cX10_concerned 18 = .ok (.iload_n 3, 1) := by decide +kernel
theorem dX10_concerned_19 : decode cX10_concerned 19 = .ok (.iconst 0, 1) := by decide +kernel
theorem dX10_concerned_20 : decode cX10_concerned 20 = .ok (.invokestatic 35, 3) := by decide +kernel
theorem dX10_concerned_23 : decode cX10_concerned 23 = .ok (.iaload, 1) := by decide +kernel
theorem dX10_concerned_24 : decode cX10_concerned 24 = .ok (.istore 4, 2) := by decide +kernel
theorem dX10_concerned_26 : decode cX10_concerned 26 = .ok (.aload_n 0, 1) := by decide +kernel
theorem dX10_concerned_27 : decode cX10_concerned 27 = .ok (.getfield 7, 3) := by decide +kernel
theorem dX10_concerned_30 : decode cX10_concerned 30 = .ok (.iload_n 3, 1) := by decide +kernel
theorem dX10_concerned_31 : decode cX10_concerned 31 = .ok (.iconst 2, 1) := by decide +kernel
theorem dX10_concerned_32 : decode cX10_concerned 32 = .ok (.invokestatic 35, 3) := by decide +kernel
theorem dX10_concerned_35 : decode cX10_concerned 35 = .ok (.iaload, 1) := by decide +kernel
theorem dX10_concerned_36 : decode cX10_concerned 36 = .ok (.istore 5, 2) := by decide +kernel
theorem dX10_concerned_38 : decode cX10_concerned 38 = .ok (.aload_n 0, 1) := by decide +kernel
theorem dX10_concerned_39 : decode cX10_concerned 39 = .ok (.getfield 7, 3) := by decide +kernel
theorem dX10_concerned_42 : decode cX10_concerned 42 = .ok (.iload_n 3, 1) := by decide +kernel
theorem dX10_concerned_43 : decode cX10_concerned 43 = .ok (.iconst 3, 1) := by decide +kernel
theorem dX10_concerned_44 : decode cX10_concerned 44 = .ok (.invokestatic 35, 3) := by decide +kernel
theorem dX10_concerned_47 : decode cX10_concerned 47 = .ok (.iaload, 1) := by decide +kernel
theorem dX10_concerned_48 : decode cX10_concerned 48 = .ok (.istore 6, 2) := by decide +kernel
theorem dX10_concerned_50 : decode cX10_concerned 50 = .ok (.iload 4, 2) := by decide +kernel
theorem dX10_concerned_52 : decode cX10_concerned 52 = .ok (.iconst 4, 1) := by decide +kernel
theorem dX10_concerned_53 : decode cX10_concerned 53 = .ok (.if_icmp .ne 29, 3) := by decide +kernel
theorem dX10_concerned_56 : decode cX10_concerned 56 = .ok (.iload_n 2, 1) := by decide +kernel
theorem dX10_concerned_57 : decode cX10_concerned 57 = .ok (.iload 5, 2) := by decide +kernel
theorem dX10_concerned_59 : decode cX10_concerned 59 = .ok (.invokestatic 54, 3) := by decide +kernel
theorem dX10_concerned_62 : decode cX10_concerned 62 = .ok (.ifCond .ne 12, 3) := by decide +kernel
theorem dX10_concerned_65 : decode cX10_concerned 65 = .ok (.iload_n 2, 1) := by decide +kernel
theorem dX10_concerned_66 : decode cX10_concerned 66 = .ok (.iload 6, 2) := by decide +kernel
theorem dX10_concerned_68 : decode cX10_concerned 68 = .ok (.invokestatic 54, 3) := by decide +kernel
theorem dX10_concerned_71 : decode cX10_concerned 71 = .ok (.ifCond .eq 7, 3) := by decide +kernel
theorem dX10_concerned_74 : decode cX10_concerned 74 = .ok (.iconst 1, 1) := by decide +kernel
theorem dX10_concerned_75 : decode cX10_concerned 75 = .ok (.goto 61, 3) := by decide +kernel
theorem dX10_concerned_78 : decode cX10_concerned 78 = .ok (.iconst 0, 1) := by decide +kernel
theorem dX10_concerned_79 : decode cX10_concerned 79 = .ok (.goto 57, 3) := by decide +kernel
theorem dX10_concerned_82 : decode cX10_concerned 82 = .ok (.aload_n 0, 1) := by decide +kernel
theorem dX10_concerned_83 : decode cX10_concerned 83 = .ok (.getfield 7, 3) := by decide +kernel
theorem dX10_concerned_86 : decode cX10_concerned 86 = .ok (.iload_n 1, 1) := by decide +kernel
theorem dX10_concerned_87 : decode cX10_concerned 87 = .ok (.iconst 1, 1) := by decide +kernel
theorem dX10_concerned_88 : decode cX10_concerned 88 = .ok (.invokestatic 43, 3) := by decide +kernel
theorem dX10_concerned_91 : decode cX10_concerned 91 = .ok (.iaload, 1) := by decide +kernel
theorem dX10_concerned_92 : decode cX10_concerned 92 = .ok (.iload 5, 2) := by decide +kernel
theorem dX10_concerned_94 : decode cX10_concerned 94 = .ok (.iload 6, 2) := by decide +kernel
theorem dX10_concerned_96 : decode cX10_concerned 96 = .ok (.invokestatic 31, 3) := by decide +kernel
theorem dX10_concerned_99 : decode cX10_concerned 99 = .ok (.ifCond .eq 36, 3) := by decide +kernel
theorem dX10_concerned_102 : decode cX10_concerned 102 = .ok (.iload 4, 2) := by decide +kernel
theorem dX10_concerned_104 : decode cX10_concerned 104 = .ok (.iconst 3, 1) := by decide +kernel
theorem dX10_concerned_105 : decode cX10_concerned 105 = .ok (.if_icmp .eq 26, 3) := by decide +kernel
theorem dX10_concerned_108 : decode cX10_concerned 108 = .ok (.aload_n 0, 1) := by decide +kernel
theorem dX10_concerned_109 : decode cX10_concerned 109 = .ok (.getfield 7, 3) := by decide +kernel
theorem dX10_concerned_112 : decode cX10_concerned 112 = .ok (.iload_n 3, 1) := by decide +kernel
theorem dX10_concerned_113 : decode cX10_concerned 113 = .ok (.iconst 1, 1) := by decide +kernel
theorem dX10_concerned_114 : decode cX10_concerned 114 = .ok (.invokestatic 35, 3) := by decide +kernel
theorem dX10_concerned_117 : decode cX10_concerned 117 = .ok (.iaload, 1) := by decide +kernel
theorem dX10_concerned_118 : decode cX10_concerned 118 = .ok (.aload_n 0, 1) := by decide +kernel
theorem dX10_concerned_119 : decode cX10_concerned 119 = .ok (.getfield 7, 3) := by decide +kernel
theorem dX10_concerned_122 : decode cX10_concerned 122 = .ok (.iload_n 1, 1) := by decide +kernel
theorem dX10_concerned_123 : decode cX10_concerned 123 = .ok (.iconst 0, 1) := by decide +kernel
theorem dX10_concerned_124 : decode cX10_concerned 124 = .ok (.invokestatic 43, 3) := by decide +kernel
theorem dX10_concerned_127 : decode cX10_concerned 127 = .ok (.iaload, 1) := by decide +kernel
theorem dX10_concerned_128 : decode cX10_concerned 128 = .ok (.if_icmp .ne 7, 3) := by decide +kernel
theorem dX10_concerned_131 : decode cX10_concerned 131 = .ok (.iconst 1, 1) := by decide +kernel
theorem dX10_concerned_132 : decode cX10_concerned 132 = .ok (.goto 4, 3) := by decide +kernel
theorem dX10_concerned_135 : decode cX10_concerned 135 = .ok (.iconst 0, 1) := by decide +kernel
theorem dX10_concerned_136 : decode cX10_concerned 136 = .ok (.istore 7, 2) := by decide +kernel
theorem dX10_concerned_138 : decode cX10_concerned 138 = .ok (.iload_n 2, 1) := by decide +kernel
theorem dX10_concerned_139 : decode cX10_concerned 139 = .ok (.iload 7, 2) := by decide +kernel
theorem dX10_concerned_141 : decode cX10_concerned 141 = .ok (.ifCond .eq 23, 3) := by decide +kernel
theorem dX10_concerned_144 : decode cX10_concerned 144 = .ok (.aload_n 0, 1) := by decide +kernel
theorem dX10_concerned_145 : decode cX10_concerned 145 = .ok (.getfield 7, 3) := by decide +kernel
theorem dX10_concerned_148 : decode cX10_concerned 148 = .ok (.iload_n 3, 1) := by decide +kernel
theorem dX10_concerned_149 : decode cX10_concerned 149 = .ok (.iconst 4, 1) := by decide +kernel
theorem dX10_concerned_150 : decode cX10_concerned 150 = .ok (.invokestatic 35, 3) := by decide +kernel
theorem dX10_concerned_153 : decode cX10_concerned 153 = .ok (.iaload, 1) := by decide +kernel
theorem dX10_concerned_154 : decode cX10_concerned 154 = .ok (.iconst 1, 1) := by decide +kernel
theorem dX10_concerned_155 : decode cX10_concerned 155 = .ok (.if_icmp .ne 9, 3) := by decide +kernel
theorem dX10_concerned_158 : decode cX10_concerned 158 = .ok (.iconst 1, 1) := by decide +kernel
theorem dX10_concerned_159 : decode cX10_concerned 159 = .ok (.iload_n 3, 1) := by decide +kernel
theorem dX10_concerned_160 : decode cX10_concerned 160 = .ok (.ishl, 1) := by decide +kernel
theorem dX10_concerned_161 : decode cX10_concerned 161 = .ok (.goto 4, 3) := by decide +kernel
theorem dX10_concerned_164 : decode cX10_concerned 164 = .ok (.iconst 0, 1) := by decide +kernel
theorem dX10_concerned_165 : decode cX10_concerned 165 = .ok (.ior, 1) := by decide +kernel
theorem dX10_concerned_166 : decode cX10_concerned 166 = .ok (.istore_n 2, 1) := by decide +kernel
theorem dX10_concerned_167 : decode cX10_concerned 167 = .ok (.iinc 3 1, 3) := by decide +kernel
theorem dX10_concerned_170 : decode cX10_concerned 170 = .ok (.goto (-166), 3) := by decide +kernel
theorem dX10_concerned_173 : decode cX10_concerned 173 = .ok (.iload_n 2, 1) := by decide +kernel
theorem dX10_concerned_174 : decode cX10_concerned 174 = .ok (.ireturn, 1) := by decide +kernel
theorem dX10_arrear_0 : decode cX10_arrear 0 = .ok (.iconst 0, 1) := by decide +kernel
theorem dX10_arrear_1 : decode cX10_arrear 1 = .ok (.istore_n 3, 1) := by decide +kernel
theorem dX10_arrear_2 : decode cX10_arrear 2 = .ok (.aload_n 0, 1) := by decide +kernel
theorem dX10_arrear_3 : decode cX10_arrear 3 = .ok (.getfield 7, 3) := by decide +kernel
theorem dX10_arrear_6 : decode cX10_arrear 6 = .ok (.iload_n 1, 1) := by decide +kernel
theorem dX10_arrear_7 : decode cX10_arrear 7 = .ok (.bipush 6, 2) := by decide +kernel
theorem dX10_arrear_9 : decode cX10_arrear 9 = .ok (.invokestatic 35, 3) := by decide +kernel
theorem dX10_arrear_12 : decode cX10_arrear 12 = .ok (.iaload, 1) := by decide +kernel
theorem dX10_arrear_13 : decode cX10_arrear 13 = .ok (.istore 4, 2) := by decide +kernel
theorem dX10_arrear_15 : decode cX10_arrear 15 = .ok (.iload 4, 2) := by decide +kernel
theorem dX10_arrear_17 : decode cX10_arrear 17 = .ok (.aload_n 0, 1) := by decide +kernel
theorem dX10_arrear_18 : decode cX10_arrear 18 = .ok (.getfield 7, 3) := by decide +kernel
theorem dX10_arrear_21 : decode cX10_arrear 21 = .ok (.iconst 0, 1) := by decide +kernel
theorem dX10_arrear_22 : decode cX10_arrear 22 = .ok (.iaload, 1) := by decide +kernel
theorem dX10_arrear_23 : decode cX10_arrear 23 = .ok (.if_icmp .ge 33, 3) := by decide +kernel
theorem dX10_arrear_26 : decode cX10_arrear 26 = .ok (.aload_n 0, 1) := by decide +kernel
theorem dX10_arrear_27 : decode cX10_arrear 27 = .ok (.iload 4, 2) := by decide +kernel
theorem dX10_arrear_29 : decode cX10_arrear 29 = .ok (.invokevirtual 58, 3) := by decide +kernel
theorem dX10_arrear_32 : decode cX10_arrear 32 = .ok (.iload_n 1, 1) := by decide +kernel
theorem dX10_arrear_33 : decode cX10_arrear 33 = .ok (.invokestatic 54, 3) := by decide +kernel
theorem dX10_arrear_36 : decode cX10_arrear 36 = .ok (.ifCond .eq 14, 3) := by decide +kernel
theorem dX10_arrear_39 : decode cX10_arrear 39 = .ok (.iload_n 3, 1) := by decide +kernel
theorem dX10_arrear_40 : decode cX10_arrear 40 = .ok (.iload_n 2, 1) := by decide +kernel
theorem dX10_arrear_41 : decode cX10_arrear 41 = .ok (.if_icmp .ne 6, 3) := by decide +kernel
theorem dX10_arrear_44 : decode cX10_arrear 44 = .ok (.iload 4, 2) := by decide +kernel
theorem dX10_arrear_46 : decode cX10_arrear 46 = .ok (.ireturn, 1) := by decide +kernel
theorem dX10_arrear_47 : decode cX10_arrear 47 = .ok (.iinc 3 1, 3) := by decide +kernel
theorem dX10_arrear_50 : decode cX10_arrear 50 = .ok (.iinc 4 1, 3) := by decide +kernel
theorem dX10_arrear_53 : decode cX10_arrear 53 = .ok (.goto (-38), 3) := by decide +kernel
theorem dX10_arrear_56 : decode cX10_arrear 56 = .ok (.aload_n 0, 1) := by decide +kernel
theorem dX10_arrear_57 : decode cX10_arrear 57 = .ok (.getfield 7, 3) := by decide +kernel
theorem dX10_arrear_60 : decode cX10_arrear 60 = .ok (.iconst 0, 1) := by decide +kernel
theorem dX10_arrear_61 : decode cX10_arrear 61 = .ok (.iaload, 1) := by decide +kernel
theorem dX10_arrear_62 : decode cX10_arrear 62 = .ok (.ireturn, 1) := by decide +kernel
theorem dX10_arrears_0 : decode cX10_arrears 0 = .ok (.iconst 0, 1) := by decide +kernel
theorem dX10_arrears_1 : decode cX10_arrears 1 = .ok (.istore_n 2, 1) := by decide +kernel
theorem dX10_arrears_2 : decode cX10_arrears 2 = .ok (.aload_n 0, 1) := by decide +kernel
theorem dX10_arrears_3 : decode cX10_arrears 3 = .ok (.getfield 7, 3) := by decide +kernel
theorem dX10_arrears_6 : decode cX10_arrears 6 = .ok (.iload_n 1, 1) := by decide +kernel
theorem dX10_arrears_7 : decode cX10_arrears 7 = .ok (.bipush 6, 2) := by decide +kernel
theorem dX10_arrears_9 : decode cX10_arrears 9 = .ok (.invokestatic 35, 3) := by decide +kernel
theorem dX10_arrears_12 : decode cX10_arrears 12 = .ok (.iaload, 1) := by decide +kernel
theorem dX10_arrears_13 : decode cX10_arrears 13 = .ok (.istore_n 3, 1) := by decide +kernel
theorem dX10_arrears_14 : decode cX10_arrears 14 = .ok (.iload_n 3, 1) := by decide +kernel
theorem dX10_arrears_15 : decode cX10_arrears 15 = .ok (.aload_n 0, 1) := by decide +kernel
theorem dX10_arrears_16 : decode cX10_arrears 16 = .ok (.getfield 7, 3) := by decide +kernel
theorem dX10_arrears_19 : decode cX10_arrears 19 = .ok (.iconst 0, 1) := by decide +kernel
theorem dX10_arrears_20 : decode cX10_arrears 20 = .ok (.iaload, 1) := by decide +kernel
theorem dX10_arrears_21 : decode cX10_arrears 21 = .ok (.if_icmp .ge 37, 3) := by decide +kernel
theorem dX10_arrears_24 : decode cX10_arrears 24 = .ok (.aload_n 0, 1) := by decide +kernel
theorem dX10_arrears_25 : decode cX10_arrears 25 = .ok (.iload_n 1, 1) := by decide +kernel
theorem dX10_arrears_26 : decode cX10_arrears 26 = .ok (.invokevirtual 61, 3) := by decide +kernel
theorem dX10_arrears_29 : decode cX10_arrears 29 = .ok (.ifCond .ne 29, 3) := by decide +kernel
theorem dX10_arrears_32 : decode cX10_arrears 32 = .ok (.iload_n 2, 1) := by decide +kernel
theorem dX10_arrears_33 : decode cX10_arrears 33 = .ok (.aload_n 0, 1) := by decide +kernel
theorem dX10_arrears_34 : decode cX10_arrears 34 = .ok (.iload_n 3, 1) := by decide +kernel
theorem dX10_arrears_35 : decode cX10_arrears 35 = .ok (.invokevirtual 58, 3) := by decide +kernel
theorem dX10_arrears_38 : decode cX10_arrears 38 = .ok (.iload_n 1, 1) := by decide +kernel
theorem dX10_arrears_39 : decode cX10_arrears 39 = .ok (.invokestatic 54, 3) := by decide +kernel
theorem dX10_arrears_42 : decode cX10_arrears 42 = .ok (.ifCond .eq 7, 3) := by decide +kernel
theorem dX10_arrears_45 : decode cX10_arrears 45 = .ok (.iconst 1, 1) := by decide +kernel
theorem dX10_arrears_46 : decode cX10_arrears 46 = .ok (.goto 4, 3) := by decide +kernel
theorem dX10_arrears_49 : decode cX10_arrears 49 = .ok (.iconst 0, 1) := by decide +kernel
theorem dX10_arrears_50 : decode cX10_arrears 50 = .ok (.iadd, 1) := by decide +kernel
theorem dX10_arrears_51 : decode cX10_arrears 51 = .ok (.istore_n 2, 1) := by decide +kernel
theorem dX10_arrears_52 : decode cX10_arrears 52 = .ok (.iinc 3 1, 3) := by decide +kernel
theorem dX10_arrears_55 : decode cX10_arrears 55 = .ok (.goto (-41), 3) := by decide +kernel
theorem dX10_arrears_58 : decode cX10_arrears 58 = .ok (.iload_n 2, 1) := by decide +kernel
theorem dX10_arrears_59 : decode cX10_arrears 59 = .ok (.ireturn, 1) := by decide +kernel
theorem dX10_priceOf_0 : decode cX10_priceOf 0 = .ok (.aload_n 0, 1) := by decide +kernel
theorem dX10_priceOf_1 : decode cX10_priceOf 1 = .ok (.getfield 7, 3) := by decide +kernel
theorem dX10_priceOf_4 : decode cX10_priceOf 4 = .ok (.iload_n 1, 1) := by decide +kernel
theorem dX10_priceOf_5 : decode cX10_priceOf 5 = .ok (.iconst 0, 1) := by decide +kernel
theorem dX10_priceOf_6 : decode cX10_priceOf 6 = .ok (.invokestatic 35, 3) := by decide +kernel
theorem dX10_priceOf_9 : decode cX10_priceOf 9 = .ok (.iaload, 1) := by decide +kernel
theorem dX10_priceOf_10 : decode cX10_priceOf 10 = .ok (.iconst 3, 1) := by decide +kernel
theorem dX10_priceOf_11 : decode cX10_priceOf 11 = .ok (.if_icmp .lt 15, 3) := by decide +kernel
theorem dX10_priceOf_14 : decode cX10_priceOf 14 = .ok (.iconst 2, 1) := by decide +kernel
theorem dX10_priceOf_15 : decode cX10_priceOf 15 = .ok (.aload_n 0, 1) := by decide +kernel
theorem dX10_priceOf_16 : decode cX10_priceOf 16 = .ok (.getfield 7, 3) := by decide +kernel
theorem dX10_priceOf_19 : decode cX10_priceOf 19 = .ok (.bipush 10, 2) := by decide +kernel
theorem dX10_priceOf_21 : decode cX10_priceOf 21 = .ok (.iaload, 1) := by decide +kernel
theorem dX10_priceOf_22 : decode cX10_priceOf 22 = .ok (.imul, 1) := by decide +kernel
theorem dX10_priceOf_23 : decode cX10_priceOf 23 = .ok (.goto 10, 3) := by decide +kernel
theorem dX10_priceOf_26 : decode cX10_priceOf 26 = .ok (.aload_n 0, 1) := by decide +kernel
theorem dX10_priceOf_27 : decode cX10_priceOf 27 = .ok (.getfield 7, 3) := by decide +kernel
theorem dX10_priceOf_30 : decode cX10_priceOf 30 = .ok (.bipush 10, 2) := by decide +kernel
theorem dX10_priceOf_32 : decode cX10_priceOf 32 = .ok (.iaload, 1) := by decide +kernel
theorem dX10_priceOf_33 : decode cX10_priceOf 33 = .ok (.ireturn, 1) := by decide +kernel
theorem dX10_need_0 : decode cX10_need 0 = .ok (.aload_n 0, 1) := by decide +kernel
theorem dX10_need_1 : decode cX10_need 1 = .ok (.getfield 7, 3) := by decide +kernel
theorem dX10_need_4 : decode cX10_need 4 = .ok (.iload_n 1, 1) := by decide +kernel
theorem dX10_need_5 : decode cX10_need 5 = .ok (.bipush 7, 2) := by decide +kernel
theorem dX10_need_7 : decode cX10_need 7 = .ok (.invokestatic 35, 3) := by decide +kernel
theorem dX10_need_10 : decode cX10_need 10 = .ok (.iaload, 1) := by decide +kernel
theorem dX10_need_11 : decode cX10_need 11 = .ok (.aload_n 0, 1) := by decide +kernel
theorem dX10_need_12 : decode cX10_need 12 = .ok (.iload_n 1, 1) := by decide +kernel
theorem dX10_need_13 : decode cX10_need 13 = .ok (.invokevirtual 65, 3) := by decide +kernel
theorem dX10_need_16 : decode cX10_need 16 = .ok (.aload_n 0, 1) := by decide +kernel
theorem dX10_need_17 : decode cX10_need 17 = .ok (.iload_n 1, 1) := by decide +kernel
theorem dX10_need_18 : decode cX10_need 18 = .ok (.invokevirtual 68, 3) := by decide +kernel
theorem dX10_need_21 : decode cX10_need 21 = .ok (.imul, 1) := by decide +kernel
theorem dX10_need_22 : decode cX10_need 22 = .ok (.iadd, 1) := by decide +kernel
theorem dX10_need_23 : decode cX10_need 23 = .ok (.ireturn, 1) := by decide +kernel
theorem dX10_keysOf_0 : decode cX10_keysOf 0 = .ok (.iconst 0, 1) := by decide +kernel
theorem dX10_keysOf_1 : decode cX10_keysOf 1 = .ok (.istore_n 2, 1) := by decide +kernel
theorem dX10_keysOf_2 : decode cX10_keysOf 2 = .ok (.iload_n 2, 1) := by decide +kernel
theorem dX10_keysOf_3 : decode cX10_keysOf 3 = .ok (.iload_n 1, 1) := by decide +kernel
theorem dX10_keysOf_4 : decode cX10_keysOf 4 = .ok (.if_icmp .gt 75, 3) := by decide +kernel
theorem dX10_keysOf_7 : decode cX10_keysOf 7 = .ok (.aload_n 0, 1) := by decide +kernel
theorem dX10_keysOf_8 : decode cX10_keysOf 8 = .ok (.getfield 7, 3) := by decide +kernel
theorem dX10_keysOf_11 : decode cX10_keysOf 11 = .ok (.iload_n 2, 1) := by decide +kernel
theorem dX10_keysOf_12 : decode cX10_keysOf 12 = .ok (.iconst 2, 1) := by decide +kernel
theorem dX10_keysOf_13 : decode cX10_keysOf 13 = .ok (.invokestatic 35, 3) := by decide +kernel
theorem dX10_keysOf_16 : decode cX10_keysOf 16 = .ok (.iaload, 1) := by decide +kernel
theorem dX10_keysOf_17 : decode cX10_keysOf 17 = .ok (.istore_n 3, 1) := by decide +kernel
theorem dX10_keysOf_18 : decode cX10_keysOf 18 = .ok (.aload_n 0, 1) := by decide +kernel
theorem dX10_keysOf_19 : decode cX10_keysOf 19 = .ok (.getfield 7, 3) := by decide +kernel
theorem dX10_keysOf_22 : decode cX10_keysOf 22 = .ok (.iload_n 2, 1) := by decide +kernel
theorem dX10_keysOf_23 : decode cX10_keysOf 23 = .ok (.iconst 3, 1) := by decide +kernel
theorem dX10_keysOf_24 : decode cX10_keysOf 24 = .ok (.invokestatic 35, 3) := by decide +kernel
theorem dX10_keysOf_27 : decode cX10_keysOf 27 = .ok (.iaload, 1) := by decide +kernel
theorem dX10_keysOf_28 : decode cX10_keysOf 28 = .ok (.istore 4, 2) := by decide +kernel
theorem dX10_keysOf_30 : decode cX10_keysOf 30 = .ok (.aload_n 0, 1) := by decide +kernel
theorem dX10_keysOf_31 : decode cX10_keysOf 31 = .ok (.getfield 25, 3) := by decide +kernel
theorem dX10_keysOf_34 : decode cX10_keysOf 34 = .ok (.iload_n 2, 1) := by decide +kernel
theorem dX10_keysOf_35 : decode cX10_keysOf 35 = .ok (.aload_n 0, 1) := by decide +kernel
theorem dX10_keysOf_36 : decode cX10_keysOf 36 = .ok (.getfield 7, 3) := by decide +kernel
theorem dX10_keysOf_39 : decode cX10_keysOf 39 = .ok (.iload_n 2, 1) := by decide +kernel
theorem dX10_keysOf_40 : decode cX10_keysOf 40 = .ok (.iconst 0, 1) := by decide +kernel
theorem dX10_keysOf_41 : decode cX10_keysOf 41 = .ok (.invokestatic 35, 3) := by decide +kernel
theorem dX10_keysOf_44 : decode cX10_keysOf 44 = .ok (.iaload, 1) := by decide +kernel
theorem dX10_keysOf_45 : decode cX10_keysOf 45 = .ok (.iconst 4, 1) := by decide +kernel
theorem dX10_keysOf_46 : decode cX10_keysOf 46 = .ok (.if_icmp .ne 20, 3) := by decide +kernel
theorem dX10_keysOf_49 : decode cX10_keysOf 49 = .ok (.aload_n 0, 1) := by decide +kernel
theorem dX10_keysOf_50 : decode cX10_keysOf 50 = .ok (.getfield 25, 3) := by decide +kernel
theorem dX10_keysOf_53 : decode cX10_keysOf 53 = .ok (.iload_n 3, 1) := by decide +kernel
theorem dX10_keysOf_54 : decode cX10_keysOf 54 = .ok (.iaload, 1) := by decide +kernel
theorem dX10_keysOf_55 : decode cX10_keysOf 55 = .ok (.aload_n 0, 1) := by decide +kernel
theorem dX10_keysOf_56 : decode cX10_keysOf 56 = .ok (.getfield 25, 3) := by decide +kernel
theorem dX10_keysOf_59 : decode cX10_keysOf 59 = .ok (.iload 4, 2) := by decide +kernel
theorem dX10_keysOf_61 : decode cX10_keysOf 61 = .ok (.iaload, 1) := by decide +kernel
theorem dX10_keysOf_62 : decode cX10_keysOf 62 = .ok (.iadd, 1) := by decide +kernel
theorem dX10_keysOf_63 : decode cX10_keysOf 63 = .ok (.goto 9, 3) := by decide +kernel
theorem dX10_keysOf_66 : decode cX10_keysOf 66 = .ok (.iload 4, 2) := by decide +kernel
theorem dX10_keysOf_68 : decode cX10_keysOf 68 = .ok (.iload_n 3, 1) := by decide +kernel
theorem dX10_keysOf_69 : decode cX10_keysOf 69 = .ok (.isub, 1) := by decide +kernel
theorem dX10_keysOf_70 : decode cX10_keysOf 70 = .ok (.iconst 1, 1) := by decide +kernel
theorem dX10_keysOf_71 : decode cX10_keysOf 71 = .ok (.iadd, 1) := by decide +kernel
theorem dX10_keysOf_72 : decode cX10_keysOf 72 = .ok (.iastore, 1) := by decide +kernel
theorem dX10_keysOf_73 : decode cX10_keysOf 73 = .ok (.iinc 2 1, 3) := by decide +kernel
theorem dX10_keysOf_76 : decode cX10_keysOf 76 = .ok (.goto (-74), 3) := by decide +kernel
theorem dX10_keysOf_79 : decode cX10_keysOf 79 = .ok (.aload_n 0, 1) := by decide +kernel
theorem dX10_keysOf_80 : decode cX10_keysOf 80 = .ok (.getfield 25, 3) := by decide +kernel
theorem dX10_keysOf_83 : decode cX10_keysOf 83 = .ok (.iload_n 1, 1) := by decide +kernel
theorem dX10_keysOf_84 : decode cX10_keysOf 84 = .ok (.iaload, 1) := by decide +kernel
theorem dX10_keysOf_85 : decode cX10_keysOf 85 = .ok (.ireturn, 1) := by decide +kernel
theorem dX10_put_0 : decode cX10_put 0 = .ok (.iload_n 1, 1) := by decide +kernel
theorem dX10_put_1 : decode cX10_put 1 = .ok (.iconst 0, 1) := by decide +kernel
theorem dX10_put_2 : decode cX10_put 2 = .ok (.iconst 1, 1) := by decide +kernel
theorem dX10_put_3 : decode cX10_put 3 = .ok (.invokestatic 31, 3) := by decide +kernel
theorem dX10_put_6 : decode cX10_put 6 = .ok (.ifCond .eq 23, 3) := by decide +kernel
theorem dX10_put_9 : decode cX10_put 9 = .ok (.iload_n 2, 1) := by decide +kernel
theorem dX10_put_10 : decode cX10_put 10 = .ok (.iconst 0, 1) := by decide +kernel
theorem dX10_put_11 : decode cX10_put 11 = .ok (.bipush 11, 2) := by decide +kernel
theorem dX10_put_13 : decode cX10_put 13 = .ok (.invokestatic 31, 3) := by decide +kernel
theorem dX10_put_16 : decode cX10_put 16 = .ok (.ifCond .eq 13, 3) := by decide +kernel
theorem dX10_put_19 : decode cX10_put 19 = .ok (.iload_n 3, 1) := by decide +kernel
theorem dX10_put_20 : decode cX10_put 20 = .ok (.iconst (-1), 1) := by decide +kernel
theorem dX10_put_21 : decode cX10_put 21 = .ok (.bipush 99, 2) := by decide +kernel
theorem dX10_put_23 : decode cX10_put 23 = .ok (.invokestatic 31, 3) := by decide +kernel
theorem dX10_put_26 : decode cX10_put 26 = .ok (.ifCond .ne 6, 3) := by decide +kernel
theorem dX10_put_29 : decode cX10_put 29 = .ok (.ldc 71, 2) := by decide +kernel
theorem dX10_put_31 : decode cX10_put 31 = .ok (.ireturn, 1) := by decide +kernel
theorem dX10_put_32 : decode cX10_put 32 = .ok (.aload_n 0, 1) := by decide +kernel
theorem dX10_put_33 : decode cX10_put 33 = .ok (.getfield 7, 3) := by decide +kernel
theorem dX10_put_36 : decode cX10_put 36 = .ok (.iconst 0, 1) := by decide +kernel
theorem dX10_put_37 : decode cX10_put 37 = .ok (.iaload, 1) := by decide +kernel
theorem dX10_put_38 : decode cX10_put 38 = .ok (.sipush 200, 3) := by decide +kernel
theorem dX10_put_41 : decode cX10_put 41 = .ok (.if_icmp .ne 6, 3) := by decide +kernel
theorem dX10_put_44 : decode cX10_put 44 = .ok (.ldc 72, 2) := by decide +kernel
theorem dX10_put_46 : decode cX10_put 46 = .ok (.ireturn, 1) := by decide +kernel
theorem dX10_put_47 : decode cX10_put 47 = .ok (.aload_n 0, 1) := by decide +kernel
theorem dX10_put_48 : decode cX10_put 48 = .ok (.invokevirtual 73, 3) := by decide +kernel
theorem dX10_put_51 : decode cX10_put 51 = .ok (.aload_n 0, 1) := by decide +kernel
theorem dX10_put_52 : decode cX10_put 52 = .ok (.getfield 7, 3) := by decide +kernel
theorem dX10_put_55 : decode cX10_put 55 = .ok (.iconst 0, 1) := by decide +kernel
theorem dX10_put_56 : decode cX10_put 56 = .ok (.iaload, 1) := by decide +kernel
theorem dX10_put_57 : decode cX10_put 57 = .ok (.istore 4, 2) := by decide +kernel
theorem dX10_put_59 : decode cX10_put 59 = .ok (.aload_n 0, 1) := by decide +kernel
theorem dX10_put_60 : decode cX10_put 60 = .ok (.getfield 7, 3) := by decide +kernel
theorem dX10_put_63 : decode cX10_put 63 = .ok (.iload 4, 2) := by decide +kernel
theorem dX10_put_65 : decode cX10_put 65 = .ok (.iconst 0, 1) := by decide +kernel
theorem dX10_put_66 : decode cX10_put 66 = .ok (.invokestatic 43, 3) := by decide +kernel
theorem dX10_put_69 : decode cX10_put 69 = .ok (.iload_n 1, 1) := by decide +kernel
theorem dX10_put_70 : decode cX10_put 70 = .ok (.iastore, 1) := by decide +kernel
theorem dX10_put_71 : decode cX10_put 71 = .ok (.aload_n 0, 1) := by decide +kernel
theorem dX10_put_72 : decode cX10_put 72 = .ok (.getfield 7, 3) := by decide +kernel
theorem dX10_put_75 : decode cX10_put 75 = .ok (.iload 4, 2) := by decide +kernel
theorem dX10_put_77 : decode cX10_put 77 = .ok (.iconst 1, 1) := by decide +kernel
theorem dX10_put_78 : decode cX10_put 78 = .ok (.invokestatic 43, 3) := by decide +kernel
theorem dX10_put_81 : decode cX10_put 81 = .ok (.iload_n 2, 1) := by decide +kernel
theorem dX10_put_82 : decode cX10_put 82 = .ok (.iastore, 1) := by decide +kernel
theorem dX10_put_83 : decode cX10_put 83 = .ok (.aload_n 0, 1) := by decide +kernel
theorem dX10_put_84 : decode cX10_put 84 = .ok (.getfield 7, 3) := by decide +kernel
theorem dX10_put_87 : decode cX10_put 87 = .ok (.iload 4, 2) := by decide +kernel
theorem dX10_put_89 : decode cX10_put 89 = .ok (.iconst 2, 1) := by decide +kernel
theorem dX10_put_90 : decode cX10_put 90 = .ok (.invokestatic 43, 3) := by decide +kernel
theorem dX10_put_93 : decode cX10_put 93 = .ok (.iload_n 3, 1) := by decide +kernel
theorem dX10_put_94 : decode cX10_put 94 = .ok (.iastore, 1) := by decide +kernel
theorem dX10_put_95 : decode cX10_put 95 = .ok (.aload_n 0, 1) := by decide +kernel
theorem dX10_put_96 : decode cX10_put 96 = .ok (.getfield 7, 3) := by decide +kernel
theorem dX10_put_99 : decode cX10_put 99 = .ok (.iconst 0, 1) := by decide +kernel
theorem dX10_put_100 : decode cX10_put 100 = .ok (.dup2, 1) := by decide +kernel
theorem dX10_put_101 : decode cX10_put 101 = .ok (.iaload, 1) := by decide +kernel
theorem dX10_put_102 : decode cX10_put 102 = .ok (.iconst 1, 1) := by decide +kernel
theorem dX10_put_103 : decode cX10_put 103 = .ok (.iadd, 1) := by decide +kernel
theorem dX10_put_104 : decode cX10_put 104 = .ok (.iastore, 1) := by decide +kernel
theorem dX10_put_105 : decode cX10_put 105 = .ok (.iload 4, 2) := by decide +kernel
theorem dX10_put_107 : decode cX10_put 107 = .ok (.ireturn, 1) := by decide +kernel
theorem dX10_isMadeOf_0 : decode cX10_isMadeOf 0 = .ok (.aload_n 0, 1) := by decide +kernel
theorem dX10_isMadeOf_1 : decode cX10_isMadeOf 1 = .ok (.iload_n 1, 1) := by decide +kernel
theorem dX10_isMadeOf_2 : decode cX10_isMadeOf 2 = .ok (.invokevirtual 76, 3) := by decide +kernel
theorem dX10_isMadeOf_5 : decode cX10_isMadeOf 5 = .ok (.ifCond .eq 49, 3) := by decide +kernel
theorem dX10_isMadeOf_8 : decode cX10_isMadeOf 8 = .ok (.aload_n 0, 1) := by decide +kernel
theorem dX10_isMadeOf_9 : decode cX10_isMadeOf 9 = .ok (.getfield 7, 3) := by decide +kernel
theorem dX10_isMadeOf_12 : decode cX10_isMadeOf 12 = .ok (.iload_n 1, 1) := by decide +kernel
theorem dX10_isMadeOf_13 : decode cX10_isMadeOf 13 = .ok (.iconst 0, 1) := by decide +kernel
theorem dX10_isMadeOf_14 : decode cX10_isMadeOf 14 = .ok (.invokestatic 35, 3) := by decide +kernel
theorem dX10_isMadeOf_17 : decode cX10_isMadeOf 17 = .ok (.iaload, 1) := by decide +kernel
theorem dX10_isMadeOf_18 : decode cX10_isMadeOf 18 = .ok (.iconst 4, 1) := by decide +kernel
theorem dX10_isMadeOf_19 : decode cX10_isMadeOf 19 = .ok (.if_icmp .ne 35, 3) := by decide +kernel
theorem dX10_isMadeOf_22 : decode cX10_isMadeOf 22 = .ok (.aload_n 0, 1) := by decide +kernel
theorem dX10_isMadeOf_23 : decode cX10_isMadeOf 23 = .ok (.getfield 7, 3) := by decide +kernel
theorem dX10_isMadeOf_26 : decode cX10_isMadeOf 26 = .ok (.iload_n 1, 1) := by decide +kernel
theorem dX10_isMadeOf_27 : decode cX10_isMadeOf 27 = .ok (.iconst 2, 1) := by decide +kernel
theorem dX10_isMadeOf_28 : decode cX10_isMadeOf 28 = .ok (.invokestatic 35, 3) := by decide +kernel
theorem dX10_isMadeOf_31 : decode cX10_isMadeOf 31 = .ok (.iaload, 1) := by decide +kernel
theorem dX10_isMadeOf_32 : decode cX10_isMadeOf 32 = .ok (.iload_n 2, 1) := by decide +kernel
theorem dX10_isMadeOf_33 : decode cX10_isMadeOf 33 = .ok (.if_icmp .eq 17, 3) := by decide +kernel
theorem dX10_isMadeOf_36 : decode cX10_isMadeOf 36 = .ok (.aload_n 0, 1) := by decide +kernel
theorem dX10_isMadeOf_37 : decode cX10_isMadeOf 37 = .ok (.getfield 7, 3) := by decide +kernel
theorem dX10_isMadeOf_40 : decode cX10_isMadeOf 40 = .ok (.iload_n 1, 1) := by decide +kernel
theorem dX10_isMadeOf_41 : decode cX10_isMadeOf 41 = .ok (.iconst 3, 1) := by decide +kernel
theorem dX10_isMadeOf_42 : decode cX10_isMadeOf 42 = .ok (.invokestatic 35, 3) := by decide +kernel
theorem dX10_isMadeOf_45 : decode cX10_isMadeOf 45 = .ok (.iaload, 1) := by decide +kernel
theorem dX10_isMadeOf_46 : decode cX10_isMadeOf 46 = .ok (.iload_n 2, 1) := by decide +kernel
theorem dX10_isMadeOf_47 : decode cX10_isMadeOf 47 = .ok (.if_icmp .ne 7, 3) := by decide +kernel
theorem dX10_isMadeOf_50 : decode cX10_isMadeOf 50 = .ok (.iconst 1, 1) := by decide +kernel
theorem dX10_isMadeOf_51 : decode cX10_isMadeOf 51 = .ok (.goto 4, 3) := by decide +kernel
theorem dX10_isMadeOf_54 : decode cX10_isMadeOf 54 = .ok (.iconst 0, 1) := by decide +kernel
theorem dX10_isMadeOf_55 : decode cX10_isMadeOf 55 = .ok (.ireturn, 1) := by decide +kernel
theorem dX10_views_0 : decode cX10_views 0 = .ok (.iconst 0, 1) := by decide +kernel
theorem dX10_views_1 : decode cX10_views 1 = .ok (.istore_n 1, 1) := by decide +kernel
theorem dX10_views_2 : decode cX10_views 2 = .ok (.iconst 0, 1) := by decide +kernel
theorem dX10_views_3 : decode cX10_views 3 = .ok (.istore_n 2, 1) := by decide +kernel
theorem dX10_views_4 : decode cX10_views 4 = .ok (.iload_n 2, 1) := by decide +kernel
theorem dX10_views_5 : decode cX10_views 5 = .ok (.aload_n 0, 1) := by decide +kernel
theorem dX10_views_6 : decode cX10_views 6 = .ok (.getfield 7, 3) := by decide +kernel
theorem dX10_views_9 : decode cX10_views 9 = .ok (.iconst 1, 1) := by decide +kernel
theorem dX10_views_10 : decode cX10_views 10 = .ok (.iaload, 1) := by decide +kernel
theorem dX10_views_11 : decode cX10_views 11 = .ok (.if_icmp .ge 22, 3) := by decide +kernel
theorem dX10_views_14 : decode cX10_views 14 = .ok (.iload_n 1, 1) := by decide +kernel
theorem dX10_views_15 : decode cX10_views 15 = .ok (.aload_n 0, 1) := by decide +kernel
theorem dX10_views_16 : decode cX10_views 16 = .ok (.getfield 7, 3) := by decide +kernel
theorem dX10_views_19 : decode cX10_views 19 = .ok (.iload_n 2, 1) := by decide +kernel
theorem dX10_views_20 : decode cX10_views 20 = .ok (.iconst 4, 1) := by decide +kernel
theorem dX10_views_21 : decode cX10_views 21 = .ok (.invokestatic 35, 3) := by decide +kernel
theorem dX10_views_24 : decode cX10_views 24 = .ok (.iaload, 1) := by decide +kernel
theorem dX10_views_25 : decode cX10_views 25 = .ok (.iadd, 1) := by decide +kernel
theorem dX10_views_26 : decode cX10_views 26 = .ok (.istore_n 1, 1) := by decide +kernel
theorem dX10_views_27 : decode cX10_views 27 = .ok (.iinc 2 1, 3) := by decide +kernel
theorem dX10_views_30 : decode cX10_views 30 = .ok (.goto (-26), 3) := by decide +kernel
theorem dX10_views_33 : decode cX10_views 33 = .ok (.iload_n 1, 1) := by decide +kernel
theorem dX10_views_34 : decode cX10_views 34 = .ok (.ireturn, 1) := by decide +kernel
theorem dX10_drop_0 : decode cX10_drop 0 = .ok (.aload_n 0, 1) := by decide +kernel
theorem dX10_drop_1 : decode cX10_drop 1 = .ok (.iload_n 1, 1) := by decide +kernel
theorem dX10_drop_2 : decode cX10_drop 2 = .ok (.invokevirtual 76, 3) := by decide +kernel
theorem dX10_drop_5 : decode cX10_drop 5 = .ok (.ifCond .ne 6, 3) := by decide +kernel
theorem dX10_drop_8 : decode cX10_drop 8 = .ok (.ldc 71, 2) := by decide +kernel
theorem dX10_drop_10 : decode cX10_drop 10 = .ok (.ireturn, 1) := by decide +kernel
theorem dX10_drop_11 : decode cX10_drop 11 = .ok (.iconst 0, 1) := by decide +kernel
theorem dX10_drop_12 : decode cX10_drop 12 = .ok (.istore_n 2, 1) := by decide +kernel
theorem dX10_drop_13 : decode cX10_drop 13 = .ok (.iload_n 2, 1) := by decide +kernel
theorem dX10_drop_14 : decode cX10_drop 14 = .ok (.aload_n 0, 1) := by decide +kernel
theorem dX10_drop_15 : decode cX10_drop 15 = .ok (.getfield 7, 3) := by decide +kernel
theorem dX10_drop_18 : decode cX10_drop 18 = .ok (.iconst 1, 1) := by decide +kernel
theorem dX10_drop_19 : decode cX10_drop 19 = .ok (.iaload, 1) := by decide +kernel
theorem dX10_drop_20 : decode cX10_drop 20 = .ok (.if_icmp .ge 21, 3) := by decide +kernel
theorem dX10_drop_23 : decode cX10_drop 23 = .ok (.aload_n 0, 1) := by decide +kernel
theorem dX10_drop_24 : decode cX10_drop 24 = .ok (.iload_n 2, 1) := by decide +kernel
theorem dX10_drop_25 : decode cX10_drop 25 = .ok (.iload_n 1, 1) := by decide +kernel
theorem dX10_drop_26 : decode cX10_drop 26 = .ok (.invokevirtual 79, 3) := by decide +kernel
theorem dX10_drop_29 : decode cX10_drop 29 = .ok (.ifCond .eq 6, 3) := by decide +kernel
theorem dX10_drop_32 : decode cX10_drop 32 = .ok (.ldc 82, 2) := by decide +kernel
theorem dX10_drop_34 : decode cX10_drop 34 = .ok (.ireturn, 1) := by decide +kernel
theorem dX10_drop_35 : decode cX10_drop 35 = .ok (.iinc 2 1, 3) := by decide +kernel
theorem dX10_drop_38 : decode cX10_drop 38 = .ok (.goto (-25), 3) := by decide +kernel
theorem dX10_drop_41 : decode cX10_drop 41 = .ok (.aload_n 0, 1) := by decide +kernel
theorem dX10_drop_42 : decode cX10_drop 42 = .ok (.invokevirtual 73, 3) := by decide +kernel
theorem dX10_drop_45 : decode cX10_drop 45 = .ok (.aload_n 0, 1) := by decide +kernel
theorem dX10_drop_46 : decode cX10_drop 46 = .ok (.getfield 7, 3) := by decide +kernel
theorem dX10_drop_49 : decode cX10_drop 49 = .ok (.iload_n 1, 1) := by decide +kernel
theorem dX10_drop_50 : decode cX10_drop 50 = .ok (.iconst 4, 1) := by decide +kernel
theorem dX10_drop_51 : decode cX10_drop 51 = .ok (.invokestatic 35, 3) := by decide +kernel
theorem dX10_drop_54 : decode cX10_drop 54 = .ok (.iconst 0, 1) := by decide +kernel
theorem dX10_drop_55 : decode cX10_drop 55 = .ok (.iastore, 1) := by decide +kernel
theorem dX10_drop_56 : decode cX10_drop 56 = .ok (.aload_n 0, 1) := by decide +kernel
theorem dX10_drop_57 : decode cX10_drop 57 = .ok (.getfield 7, 3) := by decide +kernel
theorem dX10_drop_60 : decode cX10_drop 60 = .ok (.iload_n 1, 1) := by decide +kernel
theorem dX10_drop_61 : decode cX10_drop 61 = .ok (.bipush 7, 2) := by decide +kernel
theorem dX10_drop_63 : decode cX10_drop 63 = .ok (.invokestatic 35, 3) := by decide +kernel
theorem dX10_drop_66 : decode cX10_drop 66 = .ok (.iconst 0, 1) := by decide +kernel
theorem dX10_drop_67 : decode cX10_drop 67 = .ok (.iastore, 1) := by decide +kernel
theorem dX10_drop_68 : decode cX10_drop 68 = .ok (.aload_n 0, 1) := by decide +kernel
theorem dX10_drop_69 : decode cX10_drop 69 = .ok (.invokevirtual 83, 3) := by decide +kernel
theorem dX10_drop_72 : decode cX10_drop 72 = .ok (.ireturn, 1) := by decide +kernel
theorem dX10_isSetting_0 : decode cX10_isSetting 0 = .ok (.iload_n 0, 1) := by decide +kernel
theorem dX10_isSetting_1 : decode cX10_isSetting 1 = .ok (.tableswitch 86 0 5 #[39, 47, 55, 64, 72, 79], 39) := by decide +kernel
theorem dX10_isSetting_40 : decode cX10_isSetting 40 = .ok (.iload_n 1, 1) := by decide +kernel
theorem dX10_isSetting_41 : decode cX10_isSetting 41 = .ok (.iconst 0, 1) := by decide +kernel
theorem dX10_isSetting_42 : decode cX10_isSetting 42 = .ok (.bipush 20, 2) := by decide +kernel
theorem dX10_isSetting_44 : decode cX10_isSetting 44 = .ok (.invokestatic 31, 3) := by decide +kernel
theorem dX10_isSetting_47 : decode cX10_isSetting 47 = .ok (.ireturn, 1) := by decide +kernel
theorem dX10_isSetting_48 : decode cX10_isSetting 48 = .ok (.iload_n 1, 1) := by decide +kernel
theorem dX10_isSetting_49 : decode cX10_isSetting 49 = .ok (.iconst 1, 1) := by decide +kernel
theorem dX10_isSetting_50 : decode cX10_isSetting 50 = .ok (.bipush 20, 2) := by decide +kernel
theorem dX10_isSetting_52 : decode cX10_isSetting 52 = .ok (.invokestatic 31, 3) := by decide +kernel
theorem dX10_isSetting_55 : decode cX10_isSetting 55 = .ok (.ireturn, 1) := by decide +kernel
theorem dX10_isSetting_56 : decode cX10_isSetting 56 = .ok (.iload_n 1, 1) := by decide +kernel
theorem dX10_isSetting_57 : decode cX10_isSetting 57 = .ok (.iconst 0, 1) := by decide +kernel
theorem dX10_isSetting_58 : decode cX10_isSetting 58 = .ok (.sipush 500, 3) := by decide +kernel
theorem dX10_isSetting_61 : decode cX10_isSetting 61 = .ok (.invokestatic 31, 3) := by decide +kernel
theorem dX10_isSetting_64 : decode cX10_isSetting 64 = .ok (.ireturn, 1) := by decide +kernel
theorem dX10_isSetting_65 : decode cX10_isSetting 65 = .ok (.iload_n 1, 1) := by decide +kernel
theorem dX10_isSetting_66 : decode cX10_isSetting 66 = .ok (.iconst 0, 1) := by decide +kernel
theorem dX10_isSetting_67 : decode cX10_isSetting 67 = .ok (.bipush 100, 2) := by decide +kernel
theorem dX10_isSetting_69 : decode cX10_isSetting 69 = .ok (.invokestatic 31, 3) := by decide +kernel
theorem dX10_isSetting_72 : decode cX10_isSetting 72 = .ok (.ireturn, 1) := by decide +kernel
theorem dX10_isSetting_73 : decode cX10_isSetting 73 = .ok (.iload_n 1, 1) := by decide +kernel
theorem dX10_isSetting_74 : decode cX10_isSetting 74 = .ok (.iconst 0, 1) := by decide +kernel
theorem dX10_isSetting_75 : decode cX10_isSetting 75 = .ok (.iconst 1, 1) := by decide +kernel
theorem dX10_isSetting_76 : decode cX10_isSetting 76 = .ok (.invokestatic 31, 3) := by decide +kernel
theorem dX10_isSetting_79 : decode cX10_isSetting 79 = .ok (.ireturn, 1) := by decide +kernel
theorem dX10_isSetting_80 : decode cX10_isSetting 80 = .ok (.iload_n 1, 1) := by decide +kernel
theorem dX10_isSetting_81 : decode cX10_isSetting 81 = .ok (.iconst 0, 1) := by decide +kernel
theorem dX10_isSetting_82 : decode cX10_isSetting 82 = .ok (.iconst 2, 1) := by decide +kernel
theorem dX10_isSetting_83 : decode cX10_isSetting 83 = .ok (.invokestatic 31, 3) := by decide +kernel
theorem dX10_isSetting_86 : decode cX10_isSetting 86 = .ok (.ireturn, 1) := by decide +kernel
theorem dX10_isSetting_87 : decode cX10_isSetting 87 = .ok (.iconst 0, 1) := by decide +kernel
theorem dX10_isSetting_88 : decode cX10_isSetting 88 = .ok (.ireturn, 1) := by decide +kernel
theorem dX10_set_0 : decode cX10_set 0 = .ok (.iload_n 1, 1) := by decide +kernel
theorem dX10_set_1 : decode cX10_set 1 = .ok (.iload_n 2, 1) := by decide +kernel
theorem dX10_set_2 : decode cX10_set 2 = .ok (.invokestatic 87, 3) := by decide +kernel
theorem dX10_set_5 : decode cX10_set 5 = .ok (.ifCond .ne 6, 3) := by decide +kernel
theorem dX10_set_8 : decode cX10_set 8 = .ok (.ldc 71, 2) := by decide +kernel
theorem dX10_set_10 : decode cX10_set 10 = .ok (.ireturn, 1) := by decide +kernel
theorem dX10_set_11 : decode cX10_set 11 = .ok (.aload_n 0, 1) := by decide +kernel
theorem dX10_set_12 : decode cX10_set 12 = .ok (.invokevirtual 73, 3) := by decide +kernel
theorem dX10_set_15 : decode cX10_set 15 = .ok (.aload_n 0, 1) := by decide +kernel
theorem dX10_set_16 : decode cX10_set 16 = .ok (.getfield 7, 3) := by decide +kernel
theorem dX10_set_19 : decode cX10_set 19 = .ok (.bipush 9, 2) := by decide +kernel
theorem dX10_set_21 : decode cX10_set 21 = .ok (.iload_n 1, 1) := by decide +kernel
theorem dX10_set_22 : decode cX10_set 22 = .ok (.iadd, 1) := by decide +kernel
theorem dX10_set_23 : decode cX10_set 23 = .ok (.iaload, 1) := by decide +kernel
theorem dX10_set_24 : decode cX10_set 24 = .ok (.istore_n 3, 1) := by decide +kernel
