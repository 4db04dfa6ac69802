theorem dX4_clean_88 : decode cX4_clean 88 = .ok (.iload_n 3, 1) := by decide +kernel
theorem dX4_clean_89 : decode cX4_clean 89 = .ok (.iaload, 1) := by decide +kernel
theorem dX4_clean_90 : decode cX4_clean 90 = .ok (.aload_n 0, 1) := by decide +kernel
theorem dX4_clean_91 : decode cX4_clean 91 = .ok (.getfield 44, 3) := by decide +kernel
theorem dX4_clean_94 : decode cX4_clean 94 = .ok (.iload_n 3, 1) := by decide +kernel
theorem dX4_clean_95 : decode cX4_clean 95 = .ok (.iaload, 1) := by decide +kernel
theorem dX4_clean_96 : decode cX4_clean 96 = .ok (.iload_n 3, 1) := by decide +kernel
theorem dX4_clean_97 : decode cX4_clean 97 = .ok (.iconst 1, 1) := by decide +kernel
theorem dX4_clean_98 : decode cX4_clean 98 = .ok (.invokevirtual 102, 3) := by decide +kernel
theorem dX4_clean_101 : decode cX4_clean 101 = .ok (.ifCond .ne 5, 3) := by decide +kernel
theorem dX4_clean_104 : decode cX4_clean 104 = .ok (.iconst 0, 1) := by decide +kernel
theorem dX4_clean_105 : decode cX4_clean 105 = .ok (.ireturn, 1) := by decide +kernel
theorem dX4_clean_106 : decode cX4_clean 106 = .ok (.iinc 3 1, 3) := by decide +kernel
theorem dX4_clean_109 : decode cX4_clean 109 = .ok (.goto (-50), 3) := by decide +kernel
theorem dX4_clean_112 : decode cX4_clean 112 = .ok (.iconst 0, 1) := by decide +kernel
theorem dX4_clean_113 : decode cX4_clean 113 = .ok (.istore_n 3, 1) := by decide +kernel
theorem dX4_clean_114 : decode cX4_clean 114 = .ok (.iload_n 3, 1) := by decide +kernel
theorem dX4_clean_115 : decode cX4_clean 115 = .ok (.iconst 4, 1) := by decide +kernel
theorem dX4_clean_116 : decode cX4_clean 116 = .ok (.if_icmp .ge 45, 3) := by decide +kernel
theorem dX4_clean_119 : decode cX4_clean 119 = .ok (.aload_n 0, 1) := by decide +kernel
theorem dX4_clean_120 : decode cX4_clean 120 = .ok (.getfield 47, 3) := by decide +kernel
theorem dX4_clean_123 : decode cX4_clean 123 = .ok (.iload_n 3, 1) := by decide +kernel
theorem dX4_clean_124 : decode cX4_clean 124 = .ok (.baload, 1) := by decide +kernel
theorem dX4_clean_125 : decode cX4_clean 125 = .ok (.ifCond .eq 30, 3) := by decide +kernel
theorem dX4_clean_128 : decode cX4_clean 128 = .ok (.iload_n 1, 1) := by decide +kernel
theorem dX4_clean_129 : decode cX4_clean 129 = .ok (.iconst (-1), 1) := by decide +kernel
theorem dX4_clean_130 : decode cX4_clean 130 = .ok (.if_icmp .eq 8, 3) := by decide +kernel
theorem dX4_clean_133 : decode cX4_clean 133 = .ok (.iload_n 1, 1) := by decide +kernel
theorem dX4_clean_134 : decode cX4_clean 134 = .ok (.iload_n 3, 1) := by decide +kernel
theorem dX4_clean_135 : decode cX4_clean 135 = .ok (.if_icmp .ne 20, 3) := by decide +kernel
theorem dX4_clean_138 : decode cX4_clean 138 = .ok (.aload_n 0, 1) := by decide +kernel
theorem dX4_clean_139 : decode cX4_clean 139 = .ok (.getfield 47, 3) := by decide +kernel
theorem dX4_clean_142 : decode cX4_clean 142 = .ok (.iload_n 3, 1) := by decide +kernel
theorem dX4_clean_143 : decode cX4_clean 143 = .ok (.iconst 0, 1) := by decide +kernel
theorem dX4_clean_144 : decode cX4_clean 144 = .ok (.bastore, 1) := by decide +kernel
theorem dX4_clean_145 : decode cX4_clean 145 = .ok (.aload_n 0, 1) := by decide +kernel
theorem dX4_clean_146 : decode cX4_clean 146 = .ok (.dup, 1) := by decide +kernel
theorem dX4_clean_147 : decode cX4_clean 147 = .ok (.getfield 106, 3) := by decide +kernel
theorem dX4_clean_150 : decode cX4_clean 150 = .ok (.iconst 1, 1) := by decide +kernel
theorem dX4_clean_151 : decode cX4_clean 151 = .ok (.iadd, 1) := by decide +kernel
theorem dX4_clean_152 : decode cX4_clean 152 = .ok (.putfield 106, 3) := by decide +kernel
theorem dX4_clean_155 : decode cX4_clean 155 = .ok (.iinc 3 1, 3) := by decide +kernel
theorem dX4_clean_158 : decode cX4_clean 158 = .ok (.goto (-44), 3) := by decide +kernel
theorem dX4_clean_161 : decode cX4_clean 161 = .ok (.iconst 1, 1) := by decide +kernel
theorem dX4_clean_162 : decode cX4_clean 162 = .ok (.ireturn, 1) := by decide +kernel
theorem dX4_bring_0 : decode cX4_bring 0 = .ok (.iconst (-1), 1) := by decide +kernel
theorem dX4_bring_1 : decode cX4_bring 1 = .ok (.istore_n 2, 1) := by decide +kernel
theorem dX4_bring_2 : decode cX4_bring 2 = .ok (.iconst 0, 1) := by decide +kernel
theorem dX4_bring_3 : decode cX4_bring 3 = .ok (.istore_n 3, 1) := by decide +kernel
theorem dX4_bring_4 : decode cX4_bring 4 = .ok (.iload_n 3, 1) := by decide +kernel
theorem dX4_bring_5 : decode cX4_bring 5 = .ok (.iconst 4, 1) := by decide +kernel
theorem dX4_bring_6 : decode cX4_bring 6 = .ok (.if_icmp .ge 25, 3) := by decide +kernel
theorem dX4_bring_9 : decode cX4_bring 9 = .ok (.aload_n 0, 1) := by decide +kernel
theorem dX4_bring_10 : decode cX4_bring 10 = .ok (.getfield 41, 3) := by decide +kernel
theorem dX4_bring_13 : decode cX4_bring 13 = .ok (.iload_n 3, 1) := by decide +kernel
theorem dX4_bring_14 : decode cX4_bring 14 = .ok (.iaload, 1) := by decide +kernel
theorem dX4_bring_15 : decode cX4_bring 15 = .ok (.iload_n 1, 1) := by decide +kernel
theorem dX4_bring_16 : decode cX4_bring 16 = .ok (.if_icmp .ne 7, 3) := by decide +kernel
theorem dX4_bring_19 : decode cX4_bring 19 = .ok (.iload_n 3, 1) := by decide +kernel
theorem dX4_bring_20 : decode cX4_bring 20 = .ok (.goto 4, 3) := by decide +kernel
theorem dX4_bring_23 : decode cX4_bring 23 = .ok (.iload_n 2, 1) := by decide +kernel
theorem dX4_bring_24 : decode cX4_bring 24 = .ok (.istore_n 2, 1) := by decide +kernel
theorem dX4_bring_25 : decode cX4_bring 25 = .ok (.iinc 3 1, 3) := by decide +kernel
theorem dX4_bring_28 : decode cX4_bring 28 = .ok (.goto (-24), 3) := by decide +kernel
theorem dX4_bring_31 : decode cX4_bring 31 = .ok (.iload_n 2, 1) := by decide +kernel
theorem dX4_bring_32 : decode cX4_bring 32 = .ok (.iconst (-1), 1) := by decide +kernel
theorem dX4_bring_33 : decode cX4_bring 33 = .ok (.if_icmp .ne 180, 3) := by decide +kernel
theorem dX4_bring_36 : decode cX4_bring 36 = .ok (.iconst (-1), 1) := by decide +kernel
theorem dX4_bring_37 : decode cX4_bring 37 = .ok (.istore_n 3, 1) := by decide +kernel
theorem dX4_bring_38 : decode cX4_bring 38 = .ok (.iconst 3, 1) := by decide +kernel
theorem dX4_bring_39 : decode cX4_bring 39 = .ok (.istore 4, 2) := by decide +kernel
theorem dX4_bring_41 : decode cX4_bring 41 = .ok (.iload 4, 2) := by decide +kernel
theorem dX4_bring_43 : decode cX4_bring 43 = .ok (.ifCond .lt 27, 3) := by decide +kernel
theorem dX4_bring_46 : decode cX4_bring 46 = .ok (.aload_n 0, 1) := by decide +kernel
theorem dX4_bring_47 : decode cX4_bring 47 = .ok (.getfield 41, 3) := by decide +kernel
theorem dX4_bring_50 : decode cX4_bring 50 = .ok (.iload 4, 2) := by decide +kernel
theorem dX4_bring_52 : decode cX4_bring 52 = .ok (.iaload, 1) := by decide +kernel
theorem dX4_bring_53 : decode cX4_bring 53 = .ok (.iconst (-1), 1) := by decide +kernel
theorem dX4_bring_54 : decode cX4_bring 54 = .ok (.if_icmp .ne 8, 3) := by decide +kernel
theorem dX4_bring_57 : decode cX4_bring 57 = .ok (.iload 4, 2) := by decide +kernel
theorem dX4_bring_59 : decode cX4_bring 59 = .ok (.goto 4, 3) := by decide +kernel
theorem dX4_bring_62 : decode cX4_bring 62 = .ok (.iload_n 3, 1) := by decide +kernel
theorem dX4_bring_63 : decode cX4_bring 63 = .ok (.istore_n 3, 1) := by decide +kernel
theorem dX4_bring_64 : decode cX4_bring 64 = .ok (.iinc 4 (-1), 3) := by decide +kernel
theorem dX4_bring_67 : decode cX4_bring 67 = .ok (.goto (-26), 3) := by decide +kernel
theorem dX4_bring_70 : decode cX4_bring 70 = .ok (.iload_n 3, 1) := by decide +kernel
theorem dX4_bring_71 : decode cX4_bring 71 = .ok (.istore_n 2, 1) := by decide +kernel
theorem dX4_bring_72 : decode cX4_bring 72 = .ok (.iload_n 3, 1) := by decide +kernel
theorem dX4_bring_73 : decode cX4_bring 73 = .ok (.iconst (-1), 1) := by decide +kernel
theorem dX4_bring_74 : decode cX4_bring 74 = .ok (.if_icmp .ne 71, 3) := by decide +kernel
theorem dX4_bring_77 : decode cX4_bring 77 = .ok (.iconst 0, 1) := by decide +kernel
theorem dX4_bring_78 : decode cX4_bring 78 = .ok (.istore 4, 2) := by decide +kernel
theorem dX4_bring_80 : decode cX4_bring 80 = .ok (.iconst 1, 1) := by decide +kernel
theorem dX4_bring_81 : decode cX4_bring 81 = .ok (.istore 5, 2) := by decide +kernel
theorem dX4_bring_83 : decode cX4_bring 83 = .ok (.iload 5, 2) := by decide +kernel
theorem dX4_bring_85 : decode cX4_bring 85 = .ok (.iconst 4, 1) := by decide +kernel
theorem dX4_bring_86 : decode cX4_bring 86 = .ok (.if_icmp .ge 35, 3) := by decide +kernel
theorem dX4_bring_89 : decode cX4_bring 89 = .ok (.aload_n 0, 1) := by decide +kernel
theorem dX4_bring_90 : decode cX4_bring 90 = .ok (.getfield 51, 3) := by decide +kernel
theorem dX4_bring_93 : decode cX4_bring 93 = .ok (.iload 5, 2) := by decide +kernel
theorem dX4_bring_95 : decode cX4_bring 95 = .ok (.iaload, 1) := by decide +kernel
theorem dX4_bring_96 : decode cX4_bring 96 = .ok (.aload_n 0, 1) := by decide +kernel
theorem dX4_bring_97 : decode cX4_bring 97 = .ok (.getfield 51, 3) := by decide +kernel
theorem dX4_bring_100 : decode cX4_bring 100 = .ok (.iload 4, 2) := by decide +kernel
theorem dX4_bring_102 : decode cX4_bring 102 = .ok (.iaload, 1) := by decide +kernel
theorem dX4_bring_103 : decode cX4_bring 103 = .ok (.if_icmp .ge 8, 3) := by decide +kernel
theorem dX4_bring_106 : decode cX4_bring 106 = .ok (.iload 5, 2) := by decide +kernel
theorem dX4_bring_108 : decode cX4_bring 108 = .ok (.goto 5, 3) := by decide +kernel
theorem dX4_bring_111 : decode cX4_bring 111 = .ok (.iload 4, 2) := by decide +kernel
theorem dX4_bring_113 : decode cX4_bring 113 = .ok (.istore 4, 2) := by decide +kernel
theorem dX4_bring_115 : decode cX4_bring 115 = .ok (.iinc 5 1, 3) := by decide +kernel
theorem dX4_bring_118 : decode cX4_bring 118 = .ok (.goto (-35), 3) := by decide +kernel
theorem dX4_bring_121 : decode cX4_bring 121 = .ok (.aload_n 0, 1) := by decide +kernel
theorem dX4_bring_122 : decode cX4_bring 122 = .ok (.getfield 47, 3) := by decide +kernel
theorem dX4_bring_125 : decode cX4_bring 125 = .ok (.iload 4, 2) := by decide +kernel
theorem dX4_bring_127 : decode cX4_bring 127 = .ok (.baload, 1) := by decide +kernel
theorem dX4_bring_128 : decode cX4_bring 128 = .ok (.ifCond .eq 14, 3) := by decide +kernel
theorem dX4_bring_131 : decode cX4_bring 131 = .ok (.aload_n 0, 1) := by decide +kernel
theorem dX4_bring_132 : decode cX4_bring 132 = .ok (.iload 4, 2) := by decide +kernel
theorem dX4_bring_134 : decode cX4_bring 134 = .ok (.invokevirtual 109, 3) := by decide +kernel
theorem dX4_bring_137 : decode cX4_bring 137 = .ok (.ifCond .ne 5, 3) := by decide +kernel
theorem dX4_bring_140 : decode cX4_bring 140 = .ok (.iconst (-1), 1) := by decide +kernel
theorem dX4_bring_141 : decode cX4_bring 141 = .ok (.ireturn, 1) := by decide +kernel
theorem dX4_bring_142 : decode cX4_bring 142 = .ok (.iload 4, 2) := by decide +kernel
theorem dX4_bring_144 : decode cX4_bring 144 = .ok (.istore_n 2, 1) := by decide +kernel
theorem dX4_bring_145 : decode cX4_bring 145 = .ok (.aload_n 0, 1) := by decide +kernel
theorem dX4_bring_146 : decode cX4_bring 146 = .ok (.getfield 41, 3) := by decide +kernel
theorem dX4_bring_149 : decode cX4_bring 149 = .ok (.iload_n 2, 1) := by decide +kernel
theorem dX4_bring_150 : decode cX4_bring 150 = .ok (.iload_n 1, 1) := by decide +kernel
theorem dX4_bring_151 : decode cX4_bring 151 = .ok (.iastore, 1) := by decide +kernel
theorem dX4_bring_152 : decode cX4_bring 152 = .ok (.aload_n 0, 1) := by decide +kernel
theorem dX4_bring_153 : decode cX4_bring 153 = .ok (.getfield 44, 3) := by decide +kernel
theorem dX4_bring_156 : decode cX4_bring 156 = .ok (.iload_n 2, 1) := by decide +kernel
theorem dX4_bring_157 : decode cX4_bring 157 = .ok (.aload_n 0, 1) := by decide +kernel
theorem dX4_bring_158 : decode cX4_bring 158 = .ok (.getfield 7, 3) := by decide +kernel
theorem dX4_bring_161 : decode cX4_bring 161 = .ok (.iconst 4, 1) := by decide +kernel
theorem dX4_bring_162 : decode cX4_bring 162 = .ok (.iload_n 1, 1) := by decide +kernel
theorem dX4_bring_163 : decode cX4_bring 163 = .ok (.imul, 1) := by decide +kernel
theorem dX4_bring_164 : decode cX4_bring 164 = .ok (.iaload, 1) := by decide +kernel
theorem dX4_bring_165 : decode cX4_bring 165 = .ok (.iastore, 1) := by decide +kernel
theorem dX4_bring_166 : decode cX4_bring 166 = .ok (.aload_n 0, 1) := by decide +kernel
theorem dX4_bring_167 : decode cX4_bring 167 = .ok (.getfield 47, 3) := by decide +kernel
theorem dX4_bring_170 : decode cX4_bring 170 = .ok (.iload_n 2, 1) := by decide +kernel
theorem dX4_bring_171 : decode cX4_bring 171 = .ok (.iconst 0, 1) := by decide +kernel
theorem dX4_bring_172 : decode cX4_bring 172 = .ok (.bastore, 1) := by decide +kernel
theorem dX4_bring_173 : decode cX4_bring 173 = .ok (.iconst 0, 1) := by decide +kernel
theorem dX4_bring_174 : decode cX4_bring 174 = .ok (.istore 4, 2) := by decide +kernel
theorem dX4_bring_176 : decode cX4_bring 176 = .ok (.iload 4, 2) := by decide +kernel
theorem dX4_bring_178 : decode cX4_bring 178 = .ok (.bipush 16, 2) := by decide +kernel
theorem dX4_bring_180 : decode cX4_bring 180 = .ok (.if_icmp .ge 33, 3) := by decide +kernel
theorem dX4_bring_183 : decode cX4_bring 183 = .ok (.aload_n 0, 1) := by decide +kernel
theorem dX4_bring_184 : decode cX4_bring 184 = .ok (.getfield 54, 3) := by decide +kernel
theorem dX4_bring_187 : decode cX4_bring 187 = .ok (.bipush 16, 2) := by decide +kernel
theorem dX4_bring_189 : decode cX4_bring 189 = .ok (.iload_n 2, 1) := by decide +kernel
theorem dX4_bring_190 : decode cX4_bring 190 = .ok (.imul, 1) := by decide +kernel
theorem dX4_bring_191 : decode cX4_bring 191 = .ok (.iload 4, 2) := by decide +kernel
theorem dX4_bring_193 : decode cX4_bring 193 = .ok (.iadd, 1) := by decide +kernel
theorem dX4_bring_194 : decode cX4_bring 194 = .ok (.aload_n 0, 1) := by decide +kernel
theorem dX4_bring_195 : decode cX4_bring 195 = .ok (.getfield 13, 3) := by decide +kernel
theorem dX4_bring_198 : decode cX4_bring 198 = .ok (.bipush 16, 2) := by decide +kernel
theorem dX4_bring_200 : decode cX4_bring 200 = .ok (.iload_n 1, 1) := by decide +kernel
theorem dX4_bring_201 : decode cX4_bring 201 = .ok (.imul, 1) := by decide +kernel
theorem dX4_bring_202 : decode cX4_bring 202 = .ok (.iload 4, 2) := by decide +kernel
theorem dX4_bring_204 : decode cX4_bring 204 = .ok (.iadd, 1) := by decide +kernel
theorem dX4_bring_205 : decode cX4_bring 205 = .ok (.iaload, 1) := by decide +kernel
theorem dX4_bring_206 : decode cX4_bring 206 = .ok (.iastore, 1) := by decide +kernel
theorem dX4_bring_207 : decode cX4_bring 207 = .ok (.iinc 4 1, 3) := by decide +kernel
theorem dX4_bring_210 : decode cX4_bring 210 = .ok (.goto (-34), 3) := by decide +kernel
theorem dX4_bring_213 : decode cX4_bring 213 = .ok (.aload_n 0, 1) := by decide +kernel
theorem dX4_bring_214 : decode cX4_bring 214 = .ok (.dup, 1) := by decide +kernel
theorem dX4_bring_215 : decode cX4_bring 215 = .ok (.getfield 113, 3) := by decide +kernel
theorem dX4_bring_218 : decode cX4_bring 218 = .ok (.iconst 1, 1) := by decide +kernel
theorem dX4_bring_219 : decode cX4_bring 219 = .ok (.iadd, 1) := by decide +kernel
theorem dX4_bring_220 : decode cX4_bring 220 = .ok (.putfield 113, 3) := by decide +kernel
theorem dX4_bring_223 : decode cX4_bring 223 = .ok (.aload_n 0, 1) := by decide +kernel
theorem dX4_bring_224 : decode cX4_bring 224 = .ok (.getfield 51, 3) := by decide +kernel
theorem dX4_bring_227 : decode cX4_bring 227 = .ok (.iload_n 2, 1) := by decide +kernel
theorem dX4_bring_228 : decode cX4_bring 228 = .ok (.aload_n 0, 1) := by decide +kernel
theorem dX4_bring_229 : decode cX4_bring 229 = .ok (.getfield 113, 3) := by decide +kernel
theorem dX4_bring_232 : decode cX4_bring 232 = .ok (.iastore, 1) := by decide +kernel
theorem dX4_bring_233 : decode cX4_bring 233 = .ok (.iload_n 2, 1) := by decide +kernel
theorem dX4_bring_234 : decode cX4_bring 234 = .ok (.ireturn, 1) := by decide +kernel
theorem dX4_check_0 : decode cX4_check 0 = .ok (.aload_n 0, 1) := by decide +kernel
theorem dX4_check_1 : decode cX4_check 1 = .ok (.getfield 106, 3) := by decide +kernel
theorem dX4_check_4 : decode cX4_check 4 = .ok (.istore_n 1, 1) := by decide +kernel
theorem dX4_check_5 : decode cX4_check 5 = .ok (.aload_n 0, 1) := by decide +kernel
theorem dX4_check_6 : decode cX4_check 6 = .ok (.iconst (-1), 1) := by decide +kernel
theorem dX4_check_7 : decode cX4_check 7 = .ok (.invokevirtual 109, 3) := by decide +kernel
theorem dX4_check_10 : decode cX4_check 10 = .ok (.ifCond .eq 10, 3) := by decide +kernel
theorem dX4_check_13 : decode cX4_check 13 = .ok (.aload_n 0, 1) := by decide +kernel
theorem dX4_check_14 : decode cX4_check 14 = .ok (.invokevirtual 91, 3) := by decide +kernel
theorem dX4_check_17 : decode cX4_check 17 = .ok (.ifCond .ne 6, 3) := by decide +kernel
theorem dX4_check_20 : decode cX4_check 20 = .ok (.bipush (-3), 2) := by decide +kernel
theorem dX4_check_22 : decode cX4_check 22 = .ok (.ireturn, 1) := by decide +kernel
theorem dX4_check_23 : decode cX4_check 23 = .ok (.aload_n 0, 1) := by decide +kernel
theorem dX4_check_24 : decode cX4_check 24 = .ok (.aload_n 0, 1) := by decide +kernel
theorem dX4_check_25 : decode cX4_check 25 = .ok (.getfield 57, 3) := by decide +kernel
theorem dX4_check_28 : decode cX4_check 28 = .ok (.putfield 37, 3) := by decide +kernel
theorem dX4_check_31 : decode cX4_check 31 = .ok (.aload_n 0, 1) := by decide +kernel
theorem dX4_check_32 : decode cX4_check 32 = .ok (.getfield 106, 3) := by decide +kernel
theorem dX4_check_35 : decode cX4_check 35 = .ok (.iload_n 1, 1) := by decide +kernel
theorem dX4_check_36 : decode cX4_check 36 = .ok (.isub, 1) := by decide +kernel
theorem dX4_check_37 : decode cX4_check 37 = .ok (.ireturn, 1) := by decide +kernel
theorem dX4_room_0 : decode cX4_room 0 = .ok (.aload_n 0, 1) := by decide +kernel
theorem dX4_room_1 : decode cX4_room 1 = .ok (.getfield 37, 3) := by decide +kernel
theorem dX4_room_4 : decode cX4_room 4 = .ok (.bipush 12, 2) := by decide +kernel
theorem dX4_room_6 : decode cX4_room 6 = .ok (.iadd, 1) := by decide +kernel
theorem dX4_room_7 : decode cX4_room 7 = .ok (.aload_n 0, 1) := by decide +kernel
theorem dX4_room_8 : decode cX4_room 8 = .ok (.getfield 57, 3) := by decide +kernel
theorem dX4_room_11 : decode cX4_room 11 = .ok (.isub, 1) := by decide +kernel
theorem dX4_room_12 : decode cX4_room 12 = .ok (.ireturn, 1) := by decide +kernel
theorem dX4_change_0 : decode cX4_change 0 = .ok (.aload_n 0, 1) := by decide +kernel
theorem dX4_change_1 : decode cX4_change 1 = .ok (.iconst 0, 1) := by decide +kernel
theorem dX4_change_2 : decode cX4_change 2 = .ok (.putfield 75, 3) := by decide +kernel
theorem dX4_change_5 : decode cX4_change 5 = .ok (.aload_n 0, 1) := by decide +kernel
theorem dX4_change_6 : decode cX4_change 6 = .ok (.iload_n 1, 1) := by decide +kernel
theorem dX4_change_7 : decode cX4_change 7 = .ok (.iconst 0, 1) := by decide +kernel
theorem dX4_change_8 : decode cX4_change 8 = .ok (.bipush 11, 2) := by decide +kernel
theorem dX4_change_10 : decode cX4_change 10 = .ok (.invokestatic 116, 3) := by decide +kernel
theorem dX4_change_13 : decode cX4_change 13 = .ok (.ifCond .eq 26, 3) := by decide +kernel
theorem dX4_change_16 : decode cX4_change 16 = .ok (.iload_n 2, 1) := by decide +kernel
theorem dX4_change_17 : decode cX4_change 17 = .ok (.iconst 0, 1) := by decide +kernel
theorem dX4_change_18 : decode cX4_change 18 = .ok (.bipush 15, 2) := by decide +kernel
theorem dX4_change_20 : decode cX4_change 20 = .ok (.invokestatic 116, 3) := by decide +kernel
theorem dX4_change_23 : decode cX4_change 23 = .ok (.ifCond .eq 16, 3) := by decide +kernel
theorem dX4_change_26 : decode cX4_change 26 = .ok (.iload_n 3, 1) := by decide +kernel
theorem dX4_change_27 : decode cX4_change 27 = .ok (.iconst 1, 1) := by decide +kernel
theorem dX4_change_28 : decode cX4_change 28 = .ok (.if_icmp .lt 11, 3) := by decide +kernel
theorem dX4_change_31 : decode cX4_change 31 = .ok (.iload_n 3, 1) := by decide +kernel
theorem dX4_change_32 : decode cX4_change 32 = .ok (.bipush 16, 2) := by decide +kernel
theorem dX4_change_34 : decode cX4_change 34 = .ok (.iload_n 2, 1) := by decide +kernel
theorem dX4_change_35 : decode cX4_change 35 = .ok (.isub, 1) := by decide +kernel
theorem dX4_change_36 : decode cX4_change 36 = .ok (.if_icmp .le 7, 3) := by decide +kernel
theorem dX4_change_39 : decode cX4_change 39 = .ok (.iconst 1, 1) := by decide +kernel
theorem dX4_change_40 : decode cX4_change 40 = .ok (.goto 4, 3) := by decide +kernel
theorem dX4_change_43 : decode cX4_change 43 = .ok (.iconst 0, 1) := by decide +kernel
theorem dX4_change_44 : decode cX4_change 44 = .ok (.iconst 1, 1) := by decide +kernel
theorem dX4_change_45 : decode cX4_change 45 = .ok (.invokevirtual 120, 3) := by decide +kernel
theorem dX4_change_48 : decode cX4_change 48 = .ok (.ifCond .ne 15, 3) := by decide +kernel
theorem dX4_change_51 : decode cX4_change 51 = .ok (.aload_n 0, 1) := by decide +kernel
theorem dX4_change_52 : decode cX4_change 52 = .ok (.aload_n 0, 1) := by decide +kernel
theorem dX4_change_53 : decode cX4_change 53 = .ok (.getfield 78, 3) := by decide +kernel
theorem dX4_change_56 : decode cX4_change 56 = .ok (.iconst 2, 1) := by decide +kernel
theorem dX4_change_57 : decode cX4_change 57 = .ok (.invokevirtual 120, 3) := by decide +kernel
theorem dX4_change_60 : decode cX4_change 60 = .ok (.ifCond .eq 5, 3) := by decide +kernel
theorem dX4_change_63 : decode cX4_change 63 = .ok (.iconst 0, 1) := by decide +kernel
theorem dX4_change_64 : decode cX4_change 64 = .ok (.ireturn, 1) := by decide +kernel
theorem dX4_change_65 : decode cX4_change 65 = .ok (.aload_n 0, 1) := by decide +kernel
theorem dX4_change_66 : decode cX4_change 66 = .ok (.invokevirtual 124, 3) := by decide +kernel
theorem dX4_change_69 : decode cX4_change 69 = .ok (.iload_n 3, 1) := by decide +kernel
theorem dX4_change_70 : decode cX4_change 70 = .ok (.if_icmp .ge 15, 3) := by decide +kernel
theorem dX4_change_73 : decode cX4_change 73 = .ok (.aload_n 0, 1) := by decide +kernel
theorem dX4_change_74 : decode cX4_change 74 = .ok (.invokevirtual 128, 3) := by decide +kernel
theorem dX4_change_77 : decode cX4_change 77 = .ok (.bipush (-3), 2) := by decide +kernel
theorem dX4_change_79 : decode cX4_change 79 = .ok (.if_icmp .ne 6, 3) := by decide +kernel
theorem dX4_change_82 : decode cX4_change 82 = .ok (.bipush (-3), 2) := by decide +kernel
theorem dX4_change_84 : decode cX4_change 84 = .ok (.ireturn, 1) := by decide +kernel
theorem dX4_change_85 : decode cX4_change 85 = .ok (.aload_n 0, 1) := by decide +kernel
theorem dX4_change_86 : decode cX4_change 86 = .ok (.invokevirtual 124, 3) := by decide +kernel
theorem dX4_change_89 : decode cX4_change 89 = .ok (.iload_n 3, 1) := by decide +kernel
theorem dX4_change_90 : decode cX4_change 90 = .ok (.if_icmp .ge 6, 3) := by decide +kernel
theorem dX4_change_93 : decode cX4_change 93 = .ok (.bipush (-2), 2) := by decide +kernel
theorem dX4_change_95 : decode cX4_change 95 = .ok (.ireturn, 1) := by decide +kernel
theorem dX4_change_96 : decode cX4_change 96 = .ok (.iload 4, 2) := by decide +kernel
theorem dX4_change_98 : decode cX4_change 98 = .ok (.istore 6, 2) := by decide +kernel
theorem dX4_change_100 : decode cX4_change 100 = .ok (.iconst 0, 1) := by decide +kernel
theorem dX4_change_101 : decode cX4_change 101 = .ok (.istore 7, 2) := by decide +kernel
theorem dX4_change_103 : decode cX4_change 103 = .ok (.iload 7, 2) := by decide +kernel
theorem dX4_change_105 : decode cX4_change 105 = .ok (.iload_n 3, 1) := by decide +kernel
theorem dX4_change_106 : decode cX4_change 106 = .ok (.if_icmp .ge 135, 3) := by decide +kernel
theorem dX4_change_109 : decode cX4_change 109 = .ok (.aload_n 0, 1) := by decide +kernel
theorem dX4_change_110 : decode cX4_change 110 = .ok (.iload_n 1, 1) := by decide +kernel
theorem dX4_change_111 : decode cX4_change 111 = .ok (.invokevirtual 131, 3) := by decide +kernel
theorem dX4_change_114 : decode cX4_change 114 = .ok (.istore 8, 2) := by decide +kernel
theorem dX4_change_116 : decode cX4_change 116 = .ok (.iload 8, 2) := by decide +kernel
theorem dX4_change_118 : decode cX4_change 118 = .ok (.iconst (-1), 1) := by decide +kernel
theorem dX4_change_119 : decode cX4_change 119 = .ok (.if_icmp .ne 6, 3) := by decide +kernel
theorem dX4_change_122 : decode cX4_change 122 = .ok (.bipush (-3), 2) := by decide +kernel
theorem dX4_change_124 : decode cX4_change 124 = .ok (.ireturn, 1) := by decide +kernel
theorem dX4_change_125 : decode cX4_change 125 = .ok (.aload_n 0, 1) := by decide +kernel
theorem dX4_change_126 : decode cX4_change 126 = .ok (.getfield 54, 3) := by decide +kernel
theorem dX4_change_129 : decode cX4_change 129 = .ok (.bipush 16, 2) := by decide +kernel
theorem dX4_change_131 : decode cX4_change 131 = .ok (.iload 8, 2) := by decide +kernel
theorem dX4_change_133 : decode cX4_change 133 = .ok (.imul, 1) := by decide +kernel
theorem dX4_change_134 : decode cX4_change 134 = .ok (.iload_n 2, 1) := by decide +kernel
theorem dX4_change_135 : decode cX4_change 135 = .ok (.iadd, 1) := by decide +kernel
theorem dX4_change_136 : decode cX4_change 136 = .ok (.iload 7, 2) := by decide +kernel
theorem dX4_change_138 : decode cX4_change 138 = .ok (.iadd, 1) := by decide +kernel
theorem dX4_change_139 : decode cX4_change 139 = .ok (.iload 6, 2) := by decide +kernel
theorem dX4_change_141 : decode cX4_change 141 = .ok (.iastore, 1) := by decide +kernel
theorem dX4_change_142 : decode cX4_change 142 = .ok (.aload_n 0, 1) := by decide +kernel
theorem dX4_change_143 : decode cX4_change 143 = .ok (.getfield 44, 3) := by decide +kernel
theorem dX4_change_146 : decode cX4_change 146 = .ok (.iload 8, 2) := by decide +kernel
theorem dX4_change_148 : decode cX4_change 148 = .ok (.aload_n 0, 1) := by decide +kernel
theorem dX4_change_149 : decode cX4_change 149 = .ok (.getfield 57, 3) := by decide +kernel
theorem dX4_change_152 : decode cX4_change 152 = .ok (.iastore, 1) := by decide +kernel
theorem dX4_change_153 : decode cX4_change 153 = .ok (.aload_n 0, 1) := by decide +kernel
theorem dX4_change_154 : decode cX4_change 154 = .ok (.getfield 47, 3) := by decide +kernel
theorem dX4_change_157 : decode cX4_change 157 = .ok (.iload 8, 2) := by decide +kernel
theorem dX4_change_159 : decode cX4_change 159 = .ok (.iconst 1, 1) := by decide +kernel
theorem dX4_change_160 : decode cX4_change 160 = .ok (.bastore, 1) := by decide +kernel
theorem dX4_change_161 : decode cX4_change 161 = .ok (.aload_n 0, 1) := by decide +kernel
theorem dX4_change_162 : decode cX4_change 162 = .ok (.getfield 60, 3) := by decide +kernel
theorem dX4_change_165 : decode cX4_change 165 = .ok (.aload_n 0, 1) := by decide +kernel
theorem dX4_change_166 : decode cX4_change 166 = .ok (.getfield 82, 3) := by decide +kernel
theorem dX4_change_169 : decode cX4_change 169 = .ok (.aload_n 0, 1) := by decide +kernel
theorem dX4_change_170 : decode cX4_change 170 = .ok (.getfield 57, 3) := by decide +kernel
theorem dX4_change_173 : decode cX4_change 173 = .ok (.iastore, 1) := by decide +kernel
theorem dX4_change_174 : decode cX4_change 174 = .ok (.aload_n 0, 1) := by decide +kernel
theorem dX4_change_175 : decode cX4_change 175 = .ok (.getfield 63, 3) := by decide +kernel
theorem dX4_change_178 : decode cX4_change 178 = .ok (.aload_n 0, 1) := by decide +kernel
theorem dX4_change_179 : decode cX4_change 179 = .ok (.getfield 82, 3) := by decide +kernel
theorem dX4_change_182 : decode cX4_change 182 = .ok (.iload_n 1, 1) := by decide +kernel
theorem dX4_change_183 : decode cX4_change 183 = .ok (.iastore, 1) := by decide +kernel
theorem dX4_change_184 : decode cX4_change 184 = .ok (.aload_n 0, 1) := by decide +kernel
theorem dX4_change_185 : decode cX4_change 185 = .ok (.getfield 66, 3) := by decide +kernel
theorem dX4_change_188 : decode cX4_change 188 = .ok (.aload_n 0, 1) := by decide +kernel
theorem dX4_change_189 : decode cX4_change 189 = .ok (.getfield 82, 3) := by decide +kernel
theorem dX4_change_192 : decode cX4_change 192 = .ok (.iload_n 2, 1) := by decide +kernel
theorem dX4_change_193 : decode cX4_change 193 = .ok (.iload 7, 2) := by decide +kernel
theorem dX4_change_195 : decode cX4_change 195 = .ok (.iadd, 1) := by decide +kernel
theorem dX4_change_196 : decode cX4_change 196 = .ok (.iastore, 1) := by decide +kernel
theorem dX4_change_197 : decode cX4_change 197 = .ok (.aload_n 0, 1) := by decide +kernel
theorem dX4_change_198 : decode cX4_change 198 = .ok (.getfield 69, 3) := by decide +kernel
theorem dX4_change_201 : decode cX4_change 201 = .ok (.aload_n 0, 1) := by decide +kernel
theorem dX4_change_202 : decode cX4_change 202 = .ok (.getfield 82, 3) := by decide +kernel
theorem dX4_change_205 : decode cX4_change 205 = .ok (.iload 6, 2) := by decide +kernel
theorem dX4_change_207 : decode cX4_change 207 = .ok (.iastore, 1) := by decide +kernel
theorem dX4_change_208 : decode cX4_change 208 = .ok (.aload_n 0, 1) := by decide +kernel
theorem dX4_change_209 : decode cX4_change 209 = .ok (.dup, 1) := by decide +kernel
theorem dX4_change_210 : decode cX4_change 210 = .ok (.getfield 82, 3) := by decide +kernel
theorem dX4_change_213 : decode cX4_change 213 = .ok (.iconst 1, 1) := by decide +kernel
theorem dX4_change_214 : decode cX4_change 214 = .ok (.iadd, 1) := by decide +kernel
theorem dX4_change_215 : decode cX4_change 215 = .ok (.putfield 82, 3) := by decide +kernel
theorem dX4_change_218 : decode cX4_change 218 = .ok (.aload_n 0, 1) := by decide +kernel
theorem dX4_change_219 : decode cX4_change 219 = .ok (.dup, 1) := by decide +kernel
theorem dX4_change_220 : decode cX4_change 220 = .ok (.getfield 57, 3) := by decide +kernel
theorem dX4_change_223 : decode cX4_change 223 = .ok (.iconst 1, 1) := by decide +kernel
theorem dX4_change_224 : decode cX4_change 224 = .ok (.iadd, 1) := by decide +kernel
theorem dX4_change_225 : decode cX4_change 225 = .ok (.putfield 57, 3) := by decide +kernel
theorem dX4_change_228 : decode cX4_change 228 = .ok (.iload 6, 2) := by decide +kernel
theorem dX4_change_230 : decode cX4_change 230 = .ok (.iload 5, 2) := by decide +kernel
theorem dX4_change_232 : decode cX4_change 232 = .ok (.iadd, 1) := by decide +kernel
theorem dX4_change_233 : decode cX4_change 233 = .ok (.istore 6, 2) := by decide +kernel
theorem dX4_change_235 : decode cX4_change 235 = .ok (.iinc 7 1, 3) := by decide +kernel
theorem dX4_change_238 : decode cX4_change 238 = .ok (.goto (-135), 3) := by decide +kernel
theorem dX4_change_241 : decode cX4_change 241 = .ok (.aload_n 0, 1) := by decide +kernel
theorem dX4_change_242 : decode cX4_change 242 = .ok (.getfield 57, 3) := by decide +kernel
theorem dX4_change_245 : decode cX4_change 245 = .ok (.iconst 1, 1) := by decide +kernel
theorem dX4_change_246 : decode cX4_change 246 = .ok (.isub, 1) := by decide +kernel
theorem dX4_change_247 : decode cX4_change 247 = .ok (.ireturn, 1) := by decide +kernel
theorem dX4_read_0 : decode cX4_read 0 = .ok (.aload_n 0, 1) := by decide +kernel
theorem dX4_read_1 : decode cX4_read 1 = .ok (.iconst 0, 1) := by decide +kernel
theorem dX4_read_2 : decode cX4_read 2 = .ok (.putfield 75, 3) := by decide +kernel
theorem dX4_read_5 : decode cX4_read 5 = .ok (.aload_n 0, 1) := by decide +kernel
theorem dX4_read_6 : decode cX4_read 6 = .ok (.iload_n 1, 1) := by decide +kernel
theorem dX4_read_7 : decode cX4_read 7 = .ok (.iconst 0, 1) := by decide +kernel
theorem dX4_read_8 : decode cX4_read 8 = .ok (.bipush 11, 2) := by decide +kernel
theorem dX4_read_10 : decode cX4_read 10 = .ok (.invokestatic 116, 3) := by decide +kernel
theorem dX4_read_13 : decode cX4_read 13 = .ok (.ifCond .eq 13, 3) := by decide +kernel
theorem dX4_read_16 : decode cX4_read 16 = .ok (.iload_n 2, 1) := by decide +kernel
theorem dX4_read_17 : decode cX4_read 17 = .ok (.iconst 0, 1) := by decide +kernel
theorem dX4_read_18 : decode cX4_read 18 = .ok (.bipush 15, 2) := by decide +kernel
theorem dX4_read_20 : decode cX4_read 20 = .ok (.invokestatic 116, 3) := by decide +kernel
theorem dX4_read_23 : decode cX4_read 23 = .ok (.ifCond .ne 7, 3) := by decide +kernel
theorem dX4_read_26 : decode cX4_read 26 = .ok (.iconst 1, 1) := by decide +kernel
theorem dX4_read_27 : decode cX4_read 27 = .ok (.goto 4, 3) := by decide +kernel
theorem dX4_read_30 : decode cX4_read 30 = .ok (.iconst 0, 1) := by decide +kernel
theorem dX4_read_31 : decode cX4_read 31 = .ok (.iconst 1, 1) := by decide +kernel
theorem dX4_read_32 : decode cX4_read 32 = .ok (.invokevirtual 120, 3) := by decide +kernel
theorem dX4_read_35 : decode cX4_read 35 = .ok (.ifCond .ne 15, 3) := by decide +kernel
theorem dX4_read_38 : decode cX4_read 38 = .ok (.aload_n 0, 1) := by decide +kernel
theorem dX4_read_39 : decode cX4_read 39 = .ok (.aload_n 0, 1) := by decide +kernel
theorem dX4_read_40 : decode cX4_read 40 = .ok (.getfield 78, 3) := by decide +kernel
theorem dX4_read_43 : decode cX4_read 43 = .ok (.iconst 2, 1) := by decide +kernel
theorem dX4_read_44 : decode cX4_read 44 = .ok (.invokevirtual 120, 3) := by decide +kernel
theorem dX4_read_47 : decode cX4_read 47 = .ok (.ifCond .eq 5, 3) := by decide +kernel
theorem dX4_read_50 : decode cX4_read 50 = .ok (.iconst 0, 1) := by decide +kernel
theorem dX4_read_51 : decode cX4_read 51 = .ok (.ireturn, 1) := by decide +kernel
theorem dX4_read_52 : decode cX4_read 52 = .ok (.aload_n 0, 1) := by decide +kernel
theorem dX4_read_53 : decode cX4_read 53 = .ok (.iload_n 1, 1) := by decide +kernel
theorem dX4_read_54 : decode cX4_read 54 = .ok (.invokevirtual 131, 3) := by decide +kernel
theorem dX4_read_57 : decode cX4_read 57 = .ok (.istore_n 3, 1) := by decide +kernel
theorem dX4_read_58 : decode cX4_read 58 = .ok (.aload_n 0, 1) := by decide +kernel
theorem dX4_read_59 : decode cX4_read 59 = .ok (.iload_n 3, 1) := by decide +kernel
theorem dX4_read_60 : decode cX4_read 60 = .ok (.iconst (-1), 1) := by decide +kernel
theorem dX4_read_61 : decode cX4_read 61 = .ok (.if_icmp .ne 7, 3) := by decide +kernel
theorem dX4_read_64 : decode cX4_read 64 = .ok (.iconst 0, 1) := by decide +kernel
theorem dX4_read_65 : decode cX4_read 65 = .ok (.goto 14, 3) := by decide +kernel
theorem dX4_read_68 : decode cX4_read 68 = .ok (.aload_n 0, 1) := by decide +kernel
theorem dX4_read_69 : decode cX4_read 69 = .ok (.getfield 54, 3) := by decide +kernel
theorem dX4_read_72 : decode cX4_read 72 = .ok (.bipush 16, 2) := by decide +kernel
theorem dX4_read_74 : decode cX4_read 74 = .ok (.iload_n 3, 1) := by decide +kernel
theorem dX4_read_75 : decode cX4_read 75 = .ok (.imul, 1) := by decide +kernel
theorem dX4_read_76 : decode cX4_read 76 = .ok (.iload_n 2, 1) := by decide +kernel
theorem dX4_read_77 : decode cX4_read 77 = .ok (.iadd, 1) := by decide +kernel
theorem dX4_read_78 : decode cX4_read 78 = .ok (.iaload, 1) := by decide +kernel
theorem dX4_read_79 : decode cX4_read 79 = .ok (.putfield 135, 3) := by decide +kernel
theorem dX4_read_82 : decode cX4_read 82 = .ok (.iload_n 3, 1) := by decide +kernel
theorem dX4_read_83 : decode cX4_read 83 = .ok (.iconst (-1), 1) := by decide +kernel
theorem dX4_read_84 : decode cX4_read 84 = .ok (.if_icmp .ne 8, 3) := by decide +kernel
theorem dX4_read_87 : decode cX4_read 87 = .ok (.bipush (-3), 2) := by decide +kernel
theorem dX4_read_89 : decode cX4_read 89 = .ok (.goto 4, 3) := by decide +kernel
theorem dX4_read_92 : decode cX4_read 92 = .ok (.iconst 1, 1) := by decide +kernel
theorem dX4_read_93 : decode cX4_read 93 = .ok (.ireturn, 1) := by decide +kernel
theorem dX4_got_0 : decode cX4_got 0 = .ok (.aload_n 0, 1) := by decide +kernel
theorem dX4_got_1 : decode cX4_got 1 = .ok (.iconst 0, 1) := by decide +kernel
theorem dX4_got_2 : decode cX4_got 2 = .ok (.putfield 75, 3) := by decide +kernel
theorem dX4_got_5 : decode cX4_got 5 = .ok (.aload_n 0, 1) := by decide +kernel
theorem dX4_got_6 : decode cX4_got 6 = .ok (.getfield 135, 3) := by decide +kernel
theorem dX4_got_9 : decode cX4_got 9 = .ok (.ireturn, 1) := by decide +kernel
theorem dX4_sync_0 : decode cX4_sync 0 = .ok (.aload_n 0, 1) := by decide +kernel
theorem dX4_sync_1 : decode cX4_sync 1 = .ok (.iconst 0, 1) := by decide +kernel
theorem dX4_sync_2 : decode cX4_sync 2 = .ok (.putfield 75, 3) := by decide +kernel
theorem dX4_sync_5 : decode cX4_sync 5 = .ok (.aload_n 0, 1) := by decide +kernel
theorem dX4_sync_6 : decode cX4_sync 6 = .ok (.aload_n 0, 1) := by decide +kernel
theorem dX4_sync_7 : decode cX4_sync 7 = .ok (.getfield 78, 3) := by decide +kernel
theorem dX4_sync_10 : decode cX4_sync 10 = .ok (.iconst 1, 1) := by decide +kernel
theorem dX4_sync_11 : decode cX4_sync 11 = .ok (.invokevirtual 120, 3) := by decide +kernel
theorem dX4_sync_14 : decode cX4_sync 14 = .ok (.ifCond .eq 5, 3) := by decide +kernel
theorem dX4_sync_17 : decode cX4_sync 17 = .ok (.iconst 0, 1) := by decide +kernel
theorem dX4_sync_18 : decode cX4_sync 18 = .ok (.ireturn, 1) := by decide +kernel
theorem dX4_sync_19 : decode cX4_sync 19 = .ok (.aload_n 0, 1) := by decide +kernel
theorem dX4_sync_20 : decode cX4_sync 20 = .ok (.getfield 82, 3) := by decide +kernel
theorem dX4_sync_23 : decode cX4_sync 23 = .ok (.istore_n 1, 1) := by decide +kernel
theorem dX4_sync_24 : decode cX4_sync 24 = .ok (.aload_n 0, 1) := by decide +kernel
theorem dX4_sync_25 : decode cX4_sync 25 = .ok (.invokevirtual 95, 3) := by decide +kernel
theorem dX4_sync_28 : decode cX4_sync 28 = .ok (.ifCond .eq 7, 3) := by decide +kernel
theorem dX4_sync_31 : decode cX4_sync 31 = .ok (.iload_n 1, 1) := by decide +kernel
theorem dX4_sync_32 : decode cX4_sync 32 = .ok (.goto 5, 3) := by decide +kernel
theorem dX4_sync_35 : decode cX4_sync 35 = .ok (.bipush (-3), 2) := by decide +kernel
theorem dX4_sync_37 : decode cX4_sync 37 = .ok (.ireturn, 1) := by decide +kernel
theorem dX4_checkpoint_0 : decode cX4_checkpoint 0 = .ok (.aload_n 0, 1) := by decide +kernel
theorem dX4_checkpoint_1 : decode cX4_checkpoint 1 = .ok (.iconst 0, 1) := by decide +kernel
theorem dX4_checkpoint_2 : decode cX4_checkpoint 2 = .ok (.putfield 75, 3) := by decide +kernel
theorem dX4_checkpoint_5 : decode cX4_checkpoint 5 = .ok (.aload_n 0, 1) := by decide +kernel
theorem dX4_checkpoint_6 : decode cX4_checkpoint 6 = .ok (.aload_n 0, 1) := by decide +kernel
theorem dX4_checkpoint_7 : decode cX4_checkpoint 7 = .ok (.getfield 78, 3) := by decide +kernel
theorem dX4_checkpoint_10 : decode cX4_checkpoint 10 = .ok (.iconst 1, 1) := by decide +kernel
theorem dX4_checkpoint_11 : decode cX4_checkpoint 11 = .ok (.invokevirtual 120, 3) := by decide +kernel
theorem dX4_checkpoint_14 : decode cX4_checkpoint 14 = .ok (.ifCond .eq 7, 3) := by decide +kernel
theorem dX4_checkpoint_17 : decode cX4_checkpoint 17 = .ok (.iconst 0, 1) := by decide +kernel
theorem dX4_checkpoint_18 : decode cX4_checkpoint 18 = .ok (.goto 7, 3) := by decide +kernel
theorem dX4_checkpoint_21 : decode cX4_checkpoint 21 = .ok (.aload_n 0, 1) := by decide +kernel
theorem dX4_checkpoint_22 : decode cX4_checkpoint 22 = .ok (.invokevirtual 128, 3) := by decide +kernel
theorem dX4_checkpoint_25 : decode cX4_checkpoint 25 = .ok (.ireturn, 1) := by decide +kernel
theorem dX4_power_0 : decode cX4_power 0 = .ok (.aload_n 0, 1) := by decide +kernel
theorem dX4_power_1 : decode cX4_power 1 = .ok (.iconst 0, 1) := by decide +kernel
theorem dX4_power_2 : decode cX4_power 2 = .ok (.putfield 75, 3) := by decide +kernel
theorem dX4_power_5 : decode cX4_power 5 = .ok (.aload_n 0, 1) := by decide +kernel
theorem dX4_power_6 : decode cX4_power 6 = .ok (.iload_n 1, 1) := by decide +kernel
theorem dX4_power_7 : decode cX4_power 7 = .ok (.iconst (-1), 1) := by decide +kernel
theorem dX4_power_8 : decode cX4_power 8 = .ok (.sipush 10000, 3) := by decide +kernel
theorem dX4_power_11 : decode cX4_power 11 = .ok (.invokestatic 116, 3) := by decide +kernel
theorem dX4_power_14 : decode cX4_power 14 = .ok (.ifCond .ne 7, 3) := by decide +kernel
theorem dX4_power_17 : decode cX4_power 17 = .ok (.iconst 1, 1) := by decide +kernel
theorem dX4_power_18 : decode cX4_power 18 = .ok (.goto 4, 3) := by decide +kernel
theorem dX4_power_21 : decode cX4_power 21 = .ok (.iconst 0, 1) := by decide +kernel
theorem dX4_power_22 : decode cX4_power 22 = .ok (.iconst 1, 1) := by decide +kernel
theorem dX4_power_23 : decode cX4_power 23 = .ok (.invokevirtual 120, 3) := by decide +kernel
theorem dX4_power_26 : decode cX4_power 26 = .ok (.ifCond .ne 8, 3) := by decide +kernel
theorem dX4_power_29 : decode cX4_power 29 = .ok (.aload_n 0, 1) := by decide +kernel
theorem dX4_power_30 : decode cX4_power 30 = .ok (.iload_n 1, 1) := by decide +kernel
theorem dX4_power_31 : decode cX4_power 31 = .ok (.putfield 72, 3) := by decide +kernel
theorem dX4_power_34 : decode cX4_power 34 = .ok (.return_, 1) := by decide +kernel
theorem dX4_mend_0 : decode cX4_mend 0 = .ok (.iconst 0, 1) := by decide +kernel
theorem dX4_mend_1 : decode cX4_mend 1 = .ok (.istore_n 1, 1) := by decide +kernel
theorem dX4_mend_2 : decode cX4_mend 2 = .ok (.iload_n 1, 1) := by decide +kernel
theorem dX4_mend_3 : decode cX4_mend 3 = .ok (.bipush 12, 2) := by decide +kernel
theorem dX4_mend_5 : decode cX4_mend 5 = .ok (.if_icmp .ge 135, 3) := by decide +kernel
theorem dX4_mend_8 : decode cX4_mend 8 = .ok (.aload_n 0, 1) := by decide +kernel
theorem dX4_mend_9 : decode cX4_mend 9 = .ok (.iload_n 1, 1) := by decide +kernel
theorem dX4_mend_10 : decode cX4_mend 10 = .ok (.invokevirtual 138, 3) := by decide +kernel
theorem dX4_mend_13 : decode cX4_mend 13 = .ok (.ifCond .eq 6, 3) := by decide +kernel
theorem dX4_mend_16 : decode cX4_mend 16 = .ok (.goto 118, 3) := by decide +kernel
theorem dX4_mend_19 : decode cX4_mend 19 = .ok (.iconst (-1), 1) := by decide +kernel
theorem dX4_mend_20 : decode cX4_mend 20 = .ok (.istore_n 2, 1) := by decide +kernel
theorem dX4_mend_21 : decode cX4_mend 21 = .ok (.iconst 0, 1) := by decide +kernel
theorem dX4_mend_22 : decode cX4_mend 22 = .ok (.istore_n 3, 1) := by decide +kernel
theorem dX4_mend_23 : decode cX4_mend 23 = .ok (.iload_n 3, 1) := by decide +kernel
theorem dX4_mend_24 : decode cX4_mend 24 = .ok (.iconst 4, 1) := by decide +kernel
theorem dX4_mend_25 : decode cX4_mend 25 = .ok (.if_icmp .ge 71, 3) := by decide +kernel
theorem dX4_mend_28 : decode cX4_mend 28 = .ok (.aload_n 0, 1) := by decide +kernel
theorem dX4_mend_29 : decode cX4_mend 29 = .ok (.iload_n 3, 1) := by decide +kernel
theorem dX4_mend_30 : decode cX4_mend 30 = .ok (.invokevirtual 141, 3) := by decide +kernel
theorem dX4_mend_33 : decode cX4_mend 33 = .ok (.ifCond .eq 19, 3) := by decide +kernel
theorem dX4_mend_36 : decode cX4_mend 36 = .ok (.aload_n 0, 1) := by decide +kernel
theorem dX4_mend_37 : decode cX4_mend 37 = .ok (.getfield 19, 3) := by decide +kernel
theorem dX4_mend_40 : decode cX4_mend 40 = .ok (.iconst 4, 1) := by decide +kernel
theorem dX4_mend_41 : decode cX4_mend 41 = .ok (.iload_n 3, 1) := by decide +kernel
theorem dX4_mend_42 : decode cX4_mend 42 = .ok (.imul, 1) := by decide +kernel
theorem dX4_mend_43 : decode cX4_mend 43 = .ok (.iaload, 1) := by decide +kernel
theorem dX4_mend_44 : decode cX4_mend 44 = .ok (.iload_n 1, 1) := by decide +kernel
theorem dX4_mend_45 : decode cX4_mend 45 = .ok (.if_icmp .ne 7, 3) := by decide +kernel
theorem dX4_mend_48 : decode cX4_mend 48 = .ok (.iconst 1, 1) := by decide +kernel
theorem dX4_mend_49 : decode cX4_mend 49 = .ok (.goto 4, 3) := by decide +kernel
theorem dX4_mend_52 : decode cX4_mend 52 = .ok (.iconst 0, 1) := by decide +kernel
theorem dX4_mend_53 : decode cX4_mend 53 = .ok (.istore 4, 2) := by decide +kernel
theorem dX4_mend_55 : decode cX4_mend 55 = .ok (.iload 4, 2) := by decide +kernel
theorem dX4_mend_57 : decode cX4_mend 57 = .ok (.ifCond .eq 31, 3) := by decide +kernel
theorem dX4_mend_60 : decode cX4_mend 60 = .ok (.iload_n 2, 1) := by decide +kernel
theorem dX4_mend_61 : decode cX4_mend 61 = .ok (.iconst (-1), 1) := by decide +kernel
theorem dX4_mend_62 : decode cX4_mend 62 = .ok (.if_icmp .eq 22, 3) := by decide +kernel
theorem dX4_mend_65 : decode cX4_mend 65 = .ok (.aload_n 0, 1) := by decide +kernel
theorem dX4_mend_66 : decode cX4_mend 66 = .ok (.getfield 16, 3) := by decide +kernel
theorem dX4_mend_69 : decode cX4_mend 69 = .ok (.iconst 4, 1) := by decide +kernel
theorem dX4_mend_70 : decode cX4_mend 70 = .ok (.iload_n 3, 1) := by decide +kernel
theorem dX4_mend_71 : decode cX4_mend 71 = .ok (.imul, 1) := by decide +kernel
theorem dX4_mend_72 : decode cX4_mend 72 = .ok (.iaload, 1) := by decide +kernel
theorem dX4_mend_73 : decode cX4_mend 73 = .ok (.aload_n 0, 1) := by decide +kernel
theorem dX4_mend_74 : decode cX4_mend 74 = .ok (.getfield 16, 3) := by decide +kernel
theorem dX4_mend_77 : decode cX4_mend 77 = .ok (.iconst 4, 1) := by decide +kernel
theorem dX4_mend_78 : decode cX4_mend 78 = .ok (.iload_n 2, 1) := by decide +kernel
theorem dX4_mend_79 : decode cX4_mend 79 = .ok (.imul, 1) := by decide +kernel
theorem dX4_mend_80 : decode cX4_mend 80 = .ok (.iaload, 1) := by decide +kernel
theorem dX4_mend_81 : decode cX4_mend 81 = .ok (.if_icmp .le 7, 3) := by decide +kernel
theorem dX4_mend_84 : decode cX4_mend 84 = .ok (.iload_n 3, 1) := by decide +kernel
theorem dX4_mend_85 : decode cX4_mend 85 = .ok (.goto 4, 3) := by decide +kernel
theorem dX4_mend_88 : decode cX4_mend 88 = .ok (.iload_n 2, 1) := by decide +kernel
theorem dX4_mend_89 : decode cX4_mend 89 = .ok (.istore_n 2, 1) := by decide +kernel
theorem dX4_mend_90 : decode cX4_mend 90 = .ok (.iinc 3 1, 3) := by decide +kernel
theorem dX4_mend_93 : decode cX4_mend 93 = .ok (.goto (-70), 3) := by decide +kernel
theorem dX4_mend_96 : decode cX4_mend 96 = .ok (.iload_n 2, 1) := by decide +kernel
theorem dX4_mend_97 : decode cX4_mend 97 = .ok (.iconst (-1), 1) := by decide +kernel
theorem dX4_mend_98 : decode cX4_mend 98 = .ok (.if_icmp .ne 6, 3) := by decide +kernel
theorem dX4_mend_101 : decode cX4_mend 101 = .ok (.goto 33, 3) := by decide +kernel
theorem dX4_mend_104 : decode cX4_mend 104 = .ok (.aload_n 0, 1) := by decide +kernel
theorem dX4_mend_105 : decode cX4_mend 105 = .ok (.iload_n 1, 1) := by decide +kernel
theorem dX4_mend_106 : decode cX4_mend 106 = .ok (.aload_n 0, 1) := by decide +kernel
theorem dX4_mend_107 : decode cX4_mend 107 = .ok (.getfield 16, 3) := by decide +kernel
theorem dX4_mend_110 : decode cX4_mend 110 = .ok (.iconst 4, 1) := by decide +kernel
theorem dX4_mend_111 : decode cX4_mend 111 = .ok (.iload_n 2, 1) := by decide +kernel
theorem dX4_mend_112 : decode cX4_mend 112 = .ok (.imul, 1) := by decide +kernel
theorem dX4_mend_113 : decode cX4_mend 113 = .ok (.iaload, 1) := by decide +kernel
theorem dX4_mend_114 : decode cX4_mend 114 = .ok (.iload_n 2, 1) := by decide +kernel
theorem dX4_mend_115 : decode cX4_mend 115 = .ok (.iconst 0, 1) := by decide +kernel
theorem dX4_mend_116 : decode cX4_mend 116 = .ok (.invokevirtual 102, 3) := by decide +kernel
theorem dX4_mend_119 : decode cX4_mend 119 = .ok (.ifCond .ne 5, 3) := by decide +kernel
theorem dX4_mend_122 : decode cX4_mend 122 = .ok (.iconst 0, 1) := by decide +kernel
theorem dX4_mend_123 : decode cX4_mend 123 = .ok (.ireturn, 1) := by decide +kernel
theorem dX4_mend_124 : decode cX4_mend 124 = .ok (.aload_n 0, 1) := by decide +kernel
theorem dX4_mend_125 : decode cX4_mend 125 = .ok (.dup, 1) := by decide +kernel
theorem dX4_mend_126 : decode cX4_mend 126 = .ok (.getfield 144, 3) := by decide +kernel
theorem dX4_mend_129 : decode cX4_mend 129 = .ok (.iconst 1, 1) := by decide +kernel
theorem dX4_mend_130 : decode cX4_mend 130 = .ok (.iadd, 1) := by decide +kernel
theorem dX4_mend_131 : decode cX4_mend 131 = .ok (.putfield 144, 3) := by decide +kernel
theorem dX4_mend_134 : decode cX4_mend 134 = .ok (.iinc 1 1, 3) := by decide +kernel
theorem dX4_mend_137 : decode cX4_mend 137 = .ok (.goto (-135), 3) := by decide +kernel
theorem dX4_mend_140 : decode cX4_mend 140 = .ok (.iconst 1, 1) := by decide +kernel
theorem dX4_mend_141 : decode cX4_mend 141 = .ok (.ireturn, 1) := by decide +kernel
theorem dX4_recover_0 : decode cX4_recover 0 = .ok (.aload_n 0, 1) := by decide +kernel
theorem dX4_recover_1 : decode cX4_recover 1 = .ok (.iconst 0, 1) := by decide +kernel
theorem dX4_recover_2 : decode cX4_recover 2 = .ok (.putfield 75, 3) := by decide +kernel
theorem dX4_recover_5 : decode cX4_recover 5 = .ok (.aload_n 0, 1) := by decide +kernel
theorem dX4_recover_6 : decode cX4_recover 6 = .ok (.aload_n 0, 1) := by decide +kernel
theorem dX4_recover_7 : decode cX4_recover 7 = .ok (.getfield 78, 3) := by decide +kernel
theorem dX4_recover_10 : decode cX4_recover 10 = .ok (.ifCond .ne 7, 3) := by decide +kernel
theorem dX4_recover_13 : decode cX4_recover 13 = .ok (.iconst 1, 1) := by decide +kernel
theorem dX4_recover_14 : decode cX4_recover 14 = .ok (.goto 4, 3) := by decide +kernel
theorem dX4_recover_17 : decode cX4_recover 17 = .ok (.iconst 0, 1) := by decide +kernel
theorem dX4_recover_18 : decode cX4_recover 18 = .ok (.iconst 1, 1) := by decide +kernel
theorem dX4_recover_19 : decode cX4_recover 19 = .ok (.invokevirtual 120, 3) := by decide +kernel
theorem dX4_recover_22 : decode cX4_recover 22 = .ok (.ifCond .eq 5, 3) := by decide +kernel
theorem dX4_recover_25 : decode cX4_recover 25 = .ok (.iconst 0, 1) := by decide +kernel
theorem dX4_recover_26 : decode cX4_recover 26 = .ok (.ireturn, 1) := by decide +kernel
theorem dX4_recover_27 : decode cX4_recover 27 = .ok (.aload_n 0, 1) := by decide +kernel
theorem dX4_recover_28 : decode cX4_recover 28 = .ok (.invokevirtual 147, 3) := by decide +kernel
theorem dX4_recover_31 : decode cX4_recover 31 = .ok (.ifCond .ne 6, 3) := by decide +kernel
theorem dX4_recover_34 : decode cX4_recover 34 = .ok (.bipush (-3), 2) := by decide +kernel
theorem dX4_recover_36 : decode cX4_recover 36 = .ok (.ireturn, 1) := by decide +kernel
theorem dX4_recover_37 : decode cX4_recover 37 = .ok (.aload_n 0, 1) := by decide +kernel
theorem dX4_recover_38 : decode cX4_recover 38 = .ok (.getfield 37, 3) := by decide +kernel
theorem dX4_recover_41 : decode cX4_recover 41 = .ok (.istore_n 1, 1) := by decide +kernel
theorem dX4_recover_42 : decode cX4_recover 42 = .ok (.aload_n 0, 1) := by decide +kernel
theorem dX4_recover_43 : decode cX4_recover 43 = .ok (.getfield 25, 3) := by decide +kernel
theorem dX4_recover_46 : decode cX4_recover 46 = .ok (.iload_n 1, 1) := by decide +kernel
theorem dX4_recover_47 : decode cX4_recover 47 = .ok (.bipush 12, 2) := by decide +kernel
theorem dX4_recover_49 : decode cX4_recover 49 = .ok (.irem, 1) := by decide +kernel
theorem dX4_recover_50 : decode cX4_recover 50 = .ok (.iaload, 1) := by decide +kernel
theorem dX4_recover_51 : decode cX4_recover 51 = .ok (.iload_n 1, 1) := by decide +kernel
theorem dX4_recover_52 : decode cX4_recover 52 = .ok (.if_icmp .ne 79, 3) := by decide +kernel
theorem dX4_recover_55 : decode cX4_recover 55 = .ok (.iload_n 1, 1) := by decide +kernel
theorem dX4_recover_56 : decode cX4_recover 56 = .ok (.bipush 12, 2) := by decide +kernel
theorem dX4_recover_58 : decode cX4_recover 58 = .ok (.irem, 1) := by decide +kernel
theorem dX4_recover_59 : decode cX4_recover 59 = .ok (.istore_n 2, 1) := by decide +kernel
theorem dX4_recover_60 : decode cX4_recover 60 = .ok (.aload_n 0, 1) := by decide +kernel
theorem dX4_recover_61 : decode cX4_recover 61 = .ok (.aload_n 0, 1) := by decide +kernel
theorem dX4_recover_62 : decode cX4_recover 62 = .ok (.getfield 28, 3) := by decide +kernel
theorem dX4_recover_65 : decode cX4_recover 65 = .ok (.iload_n 2, 1) := by decide +kernel
theorem dX4_recover_66 : decode cX4_recover 66 = .ok (.iaload, 1) := by decide +kernel
theorem dX4_recover_67 : decode cX4_recover 67 = .ok (.invokevirtual 131, 3) := by decide +kernel
theorem dX4_recover_70 : decode cX4_recover 70 = .ok (.istore_n 3, 1) := by decide +kernel
theorem dX4_recover_71 : decode cX4_recover 71 = .ok (.iload_n 3, 1) := by decide +kernel
theorem dX4_recover_72 : decode cX4_recover 72 = .ok (.iconst (-1), 1) := by decide +kernel
theorem dX4_recover_73 : decode cX4_recover 73 = .ok (.if_icmp .ne 6, 3) := by decide +kernel
theorem dX4_recover_76 : decode cX4_recover 76 = .ok (.bipush (-3), 2) := by decide +kernel
theorem dX4_recover_78 : decode cX4_recover 78 = .ok (.ireturn, 1) := by decide +kernel
theorem dX4_recover_79 : decode cX4_recover 79 = .ok (.aload_n 0, 1) := by decide +kernel
theorem dX4_recover_80 : decode cX4_recover 80 = .ok (.getfield 44, 3) := by decide +kernel
theorem dX4_recover_83 : decode cX4_recover 83 = .ok (.iload_n 3, 1) := by decide +kernel
theorem dX4_recover_84 : decode cX4_recover 84 = .ok (.iaload, 1) := by decide +kernel
theorem dX4_recover_85 : decode cX4_recover 85 = .ok (.iload_n 1, 1) := by decide +kernel
theorem dX4_recover_86 : decode cX4_recover 86 = .ok (.if_icmp .ge 39, 3) := by decide +kernel
theorem dX4_recover_89 : decode cX4_recover 89 = .ok (.aload_n 0, 1) := by decide +kernel
theorem dX4_recover_90 : decode cX4_recover 90 = .ok (.getfield 54, 3) := by decide +kernel
theorem dX4_recover_93 : decode cX4_recover 93 = .ok (.bipush 16, 2) := by decide +kernel
theorem dX4_recover_95 : decode cX4_recover 95 = .ok (.iload_n 3, 1) := by decide +kernel
theorem dX4_recover_96 : decode cX4_recover 96 = .ok (.imul, 1) := by decide +kernel
theorem dX4_recover_97 : decode cX4_recover 97 = .ok (.aload_n 0, 1) := by decide +kernel
theorem dX4_recover_98 : decode cX4_recover 98 = .ok (.getfield 31, 3) := by decide +kernel
theorem dX4_recover_101 : decode cX4_recover 101 = .ok (.iload_n 2, 1) := by decide +kernel
theorem dX4_recover_102 : decode cX4_recover 102 = .ok (.iaload, 1) := by decide +kernel
theorem dX4_recover_103 : decode cX4_recover 103 = .ok (.iadd, 1) := by decide +kernel
theorem dX4_recover_104 : decode cX4_recover 104 = .ok (.aload_n 0, 1) := by decide +kernel
theorem dX4_recover_105 : decode cX4_recover 105 = .ok (.getfield 34, 3) := by decide +kernel
theorem dX4_recover_108 : decode cX4_recover 108 = .ok (.iload_n 2, 1) := by decide +kernel
theorem dX4_recover_109 : decode cX4_recover 109 = .ok (.iaload, 1) := by decide +kernel
theorem dX4_recover_110 : decode cX4_recover 110 = .ok (.iastore, 1) := by decide +kernel
theorem dX4_recover_111 : decode cX4_recover 111 = .ok (.aload_n 0, 1) := by decide +kernel
theorem dX4_recover_112 : decode cX4_recover 112 = .ok (.getfield 44, 3) := by decide +kernel
theorem dX4_recover_115 : decode cX4_recover 115 = .ok (.iload_n 3, 1) := by decide +kernel
theorem dX4_recover_116 : decode cX4_recover 116 = .ok (.iload_n 1, 1) := by decide +kernel
theorem dX4_recover_117 : decode cX4_recover 117 = .ok (.iastore, 1) := by decide +kernel
theorem dX4_recover_118 : decode cX4_recover 118 = .ok (.aload_n 0, 1) := by decide +kernel
theorem dX4_recover_119 : decode cX4_recover 119 = .ok (.getfield 47, 3) := by decide +kernel
theorem dX4_recover_122 : decode cX4_recover 122 = .ok (.iload_n 3, 1) := by decide +kernel
theorem dX4_recover_123 : decode cX4_recover 123 = .ok (.iconst 1, 1) := by decide +kernel
theorem dX4_recover_124 : decode cX4_recover 124 = .ok (.bastore, 1) := by decide +kernel
theorem dX4_recover_125 : decode cX4_recover 125 = .ok (.iinc 1 1, 3) := by decide +kernel
theorem dX4_recover_128 : decode cX4_recover 128 = .ok (.goto (-86), 3) := by decide +kernel
theorem dX4_recover_131 : decode cX4_recover 131 = .ok (.aload_n 0, 1) := by decide +kernel
theorem dX4_recover_132 : decode cX4_recover 132 = .ok (.iload_n 1, 1) := by decide +kernel
theorem dX4_recover_133 : decode cX4_recover 133 = .ok (.putfield 57, 3) := by decide +kernel
theorem dX4_recover_136 : decode cX4_recover 136 = .ok (.aload_n 0, 1) := by decide +kernel
theorem dX4_recover_137 : decode cX4_recover 137 = .ok (.iconst 0, 1) := by decide +kernel
theorem dX4_recover_138 : decode cX4_recover 138 = .ok (.putfield 78, 3) := by decide +kernel
theorem dX4_recover_141 : decode cX4_recover 141 = .ok (.iload_n 1, 1) := by decide +kernel
theorem dX4_recover_142 : decode cX4_recover 142 = .ok (.iconst 1, 1) := by decide +kernel
theorem dX4_recover_143 : decode cX4_recover 143 = .ok (.isub, 1) := by decide +kernel
theorem dX4_recover_144 : decode cX4_recover 144 = .ok (.ireturn, 1) := by decide +kernel
theorem dX4_cut_0 : decode cX4_cut 0 = .ok (.aload_n 0, 1) := by decide +kernel
theorem dX4_cut_1 : decode cX4_cut 1 = .ok (.iconst 0, 1) := by decide +kernel
theorem dX4_cut_2 : decode cX4_cut 2 = .ok (.putfield 75, 3) := by decide +kernel
theorem dX4_cut_5 : decode cX4_cut 5 = .ok (.aload_n 0, 1) := by decide +kernel
theorem dX4_cut_6 : decode cX4_cut 6 = .ok (.aload_n 0, 1) := by decide +kernel
theorem dX4_cut_7 : decode cX4_cut 7 = .ok (.getfield 78, 3) := by decide +kernel
theorem dX4_cut_10 : decode cX4_cut 10 = .ok (.iconst 1, 1) := by decide +kernel
theorem dX4_cut_11 : decode cX4_cut 11 = .ok (.invokevirtual 120, 3) := by decide +kernel
theorem dX4_cut_14 : decode cX4_cut 14 = .ok (.ifCond .eq 5, 3) := by decide +kernel
theorem dX4_cut_17 : decode cX4_cut 17 = .ok (.iconst 0, 1) := by decide +kernel
theorem dX4_cut_18 : decode cX4_cut 18 = .ok (.ireturn, 1) := by decide +kernel
theorem dX4_cut_19 : decode cX4_cut 19 = .ok (.aload_n 0, 1) := by decide +kernel
theorem dX4_cut_20 : decode cX4_cut 20 = .ok (.getfield 82, 3) := by decide +kernel
theorem dX4_cut_23 : decode cX4_cut 23 = .ok (.istore_n 1, 1) := by decide +kernel
theorem dX4_cut_24 : decode cX4_cut 24 = .ok (.aload_n 0, 1) := by decide +kernel
theorem dX4_cut_25 : decode cX4_cut 25 = .ok (.invokevirtual 85, 3) := by decide +kernel
theorem dX4_cut_28 : decode cX4_cut 28 = .ok (.iload_n 1, 1) := by decide +kernel
theorem dX4_cut_29 : decode cX4_cut 29 = .ok (.ireturn, 1) := by decide +kernel
theorem dX4_disk_0 : decode cX4_disk 0 = .ok (.aload_n 0, 1) := by decide +kernel
theorem dX4_disk_1 : decode cX4_disk 1 = .ok (.iconst 0, 1) := by decide +kernel
theorem dX4_disk_2 : decode cX4_disk 2 = .ok (.putfield 75, 3) := by decide +kernel
theorem dX4_disk_5 : decode cX4_disk 5 = .ok (.iload_n 1, 1) := by decide +kernel
theorem dX4_disk_6 : decode cX4_disk 6 = .ok (.ifCond .ne 31, 3) := by decide +kernel
theorem dX4_disk_9 : decode cX4_disk 9 = .ok (.iload_n 2, 1) := by decide +kernel
theorem dX4_disk_10 : decode cX4_disk 10 = .ok (.iconst 0, 1) := by decide +kernel
theorem dX4_disk_11 : decode cX4_disk 11 = .ok (.bipush 11, 2) := by decide +kernel
theorem dX4_disk_13 : decode cX4_disk 13 = .ok (.invokestatic 116, 3) := by decide +kernel
theorem dX4_disk_16 : decode cX4_disk 16 = .ok (.ifCond .eq 17, 3) := by decide +kernel
theorem dX4_disk_19 : decode cX4_disk 19 = .ok (.iload_n 3, 1) := by decide +kernel
theorem dX4_disk_20 : decode cX4_disk 20 = .ok (.iconst 0, 1) := by decide +kernel
theorem dX4_disk_21 : decode cX4_disk 21 = .ok (.bipush 19, 2) := by decide +kernel
theorem dX4_disk_23 : decode cX4_disk 23 = .ok (.invokestatic 116, 3) := by decide +kernel
theorem dX4_disk_26 : decode cX4_disk 26 = .ok (.ifCond .eq 7, 3) := by decide +kernel
theorem dX4_disk_29 : decode cX4_disk 29 = .ok (.iconst 1, 1) := by decide +kernel
theorem dX4_disk_30 : decode cX4_disk 30 = .ok (.goto 89, 3) := by decide +kernel
theorem dX4_disk_33 : decode cX4_disk 33 = .ok (.iconst 0, 1) := by decide +kernel
theorem dX4_disk_34 : decode cX4_disk 34 = .ok (.goto 85, 3) := by decide +kernel
theorem dX4_disk_37 : decode cX4_disk 37 = .ok (.iload_n 1, 1) := by decide +kernel
theorem dX4_disk_38 : decode cX4_disk 38 = .ok (.iconst 1, 1) := by decide +kernel
theorem dX4_disk_39 : decode cX4_disk 39 = .ok (.if_icmp .ne 30, 3) := by decide +kernel
theorem dX4_disk_42 : decode cX4_disk 42 = .ok (.iload_n 2, 1) := by decide +kernel
theorem dX4_disk_43 : decode cX4_disk 43 = .ok (.iconst 0, 1) := by decide +kernel
theorem dX4_disk_44 : decode cX4_disk 44 = .ok (.iconst 3, 1) := by decide +kernel
theorem dX4_disk_45 : decode cX4_disk 45 = .ok (.invokestatic 116, 3) := by decide +kernel
theorem dX4_disk_48 : decode cX4_disk 48 = .ok (.ifCond .eq 17, 3) := by decide +kernel
theorem dX4_disk_51 : decode cX4_disk 51 = .ok (.iload_n 3, 1) := by decide +kernel
theorem dX4_disk_52 : decode cX4_disk 52 = .ok (.iconst 0, 1) := by decide +kernel
theorem dX4_disk_53 : decode cX4_disk 53 = .ok (.bipush 23, 2) := by decide +kernel
theorem dX4_disk_55 : decode cX4_disk 55 = .ok (.invokestatic 116, 3) := by decide +kernel
theorem dX4_disk_58 : decode cX4_disk 58 = .ok (.ifCond .eq 7, 3) := by decide +kernel
theorem dX4_disk_61 : decode cX4_disk 61 = .ok (.iconst 1, 1) := by decide +kernel
theorem dX4_disk_62 : decode cX4_disk 62 = .ok (.goto 57, 3) := by decide +kernel
theorem dX4_disk_65 : decode cX4_disk 65 = .ok (.iconst 0, 1) := by decide +kernel
theorem dX4_disk_66 : decode cX4_disk 66 = .ok (.goto 53, 3) := by decide +kernel
theorem dX4_disk_69 : decode cX4_disk 69 = .ok (.iload_n 1, 1) := by decide +kernel
theorem dX4_disk_70 : decode cX4_disk 70 = .ok (.iconst 2, 1) := by decide +kernel
theorem dX4_disk_71 : decode cX4_disk 71 = .ok (.if_icmp .ne 30, 3) := by decide +kernel
theorem dX4_disk_74 : decode cX4_disk 74 = .ok (.iload_n 2, 1) := by decide +kernel
theorem dX4_disk_75 : decode cX4_disk 75 = .ok (.iconst 0, 1) := by decide +kernel
theorem dX4_disk_76 : decode cX4_disk 76 = .ok (.bipush 11, 2) := by decide +kernel
theorem dX4_disk_78 : decode cX4_disk 78 = .ok (.invokestatic 116, 3) := by decide +kernel
theorem dX4_disk_81 : decode cX4_disk 81 = .ok (.ifCond .eq 16, 3) := by decide +kernel
theorem dX4_disk_84 : decode cX4_disk 84 = .ok (.iload_n 3, 1) := by decide +kernel
theorem dX4_disk_85 : decode cX4_disk 85 = .ok (.iconst 0, 1) := by decide +kernel
theorem dX4_disk_86 : decode cX4_disk 86 = .ok (.iconst 3, 1) := by decide +kernel
theorem dX4_disk_87 : decode cX4_disk 87 = .ok (.invokestatic 116, 3) := by decide +kernel
theorem dX4_disk_90 : decode cX4_disk 90 = .ok (.ifCond .eq 7, 3) := by decide +kernel
theorem dX4_disk_93 : decode cX4_disk 93 = .ok (.iconst 1, 1) := by decide +kernel
theorem dX4_disk_94 : decode cX4_disk 94 = .ok (.goto 25, 3) := by decide +kernel
theorem dX4_disk_97 : decode cX4_disk 97 = .ok (.iconst 0, 1) := by decide +kernel
theorem dX4_disk_98 : decode cX4_disk 98 = .ok (.goto 21, 3) := by decide +kernel
theorem dX4_disk_101 : decode cX4_disk 101 = .ok (.iload_n 1, 1) := by decide +kernel
theorem dX4_disk_102 : decode cX4_disk 102 = .ok (.iconst 3, 1) := by decide +kernel
theorem dX4_disk_103 : decode cX4_disk 103 = .ok (.if_icmp .ne 15, 3) := by decide +kernel
theorem dX4_disk_106 : decode cX4_disk 106 = .ok (.iload_n 2, 1) := by decide +kernel
theorem dX4_disk_107 : decode cX4_disk 107 = .ok (.ifCond .ne 11, 3) := by decide +kernel
theorem dX4_disk_110 : decode cX4_disk 110 = .ok (.iload_n 3, 1) := by decide +kernel
theorem dX4_disk_111 : decode cX4_disk 111 = .ok (.ifCond .ne 7, 3) := by decide +kernel
theorem dX4_disk_114 : decode cX4_disk 114 = .ok (.iconst 1, 1) := by decide +kernel
theorem dX4_disk_115 : decode cX4_disk 115 = .ok (.goto 4, 3) := by decide +kernel
theorem dX4_disk_118 : decode cX4_disk 118 = .ok (.iconst 0, 1) := by decide +kernel
theorem dX4_disk_119 : decode cX4_disk 119 = .ok (.istore 4, 2) := by decide +kernel
theorem dX4_disk_121 : decode cX4_disk 121 = .ok (.aload_n 0, 1) := by decide +kernel
theorem dX4_disk_122 : decode cX4_disk 122 = .ok (.iload 4, 2) := by decide +kernel
theorem dX4_disk_124 : decode cX4_disk 124 = .ok (.ifCond .ne 7, 3) := by decide +kernel
theorem dX4_disk_127 : decode cX4_disk 127 = .ok (.iconst 1, 1) := by decide +kernel
theorem dX4_disk_128 : decode cX4_disk 128 = .ok (.goto 4, 3) := by decide +kernel
theorem dX4_disk_131 : decode cX4_disk 131 = .ok (.iconst 0, 1) := by decide +kernel
theorem dX4_disk_132 : decode cX4_disk 132 = .ok (.iconst 1, 1) := by decide +kernel
theorem dX4_disk_133 : decode cX4_disk 133 = .ok (.invokevirtual 120, 3) := by decide +kernel
theorem dX4_disk_136 : decode cX4_disk 136 = .ok (.ifCond .eq 5, 3) := by decide +kernel
theorem dX4_disk_139 : decode cX4_disk 139 = .ok (.iconst 0, 1) := by decide +kernel
theorem dX4_disk_140 : decode cX4_disk 140 = .ok (.ireturn, 1) := by decide +kernel
theorem dX4_disk_141 : decode cX4_disk 141 = .ok (.iload_n 1, 1) := by decide +kernel
theorem dX4_disk_142 : decode cX4_disk 142 = .ok (.ifCond .ne 37, 3) := by decide +kernel
theorem dX4_disk_145 : decode cX4_disk 145 = .ok (.iload_n 3, 1) := by decide +kernel
theorem dX4_disk_146 : decode cX4_disk 146 = .ok (.bipush 16, 2) := by decide +kernel
theorem dX4_disk_148 : decode cX4_disk 148 = .ok (.if_icmp .ge 17, 3) := by decide +kernel
theorem dX4_disk_151 : decode cX4_disk 151 = .ok (.aload_n 0, 1) := by decide +kernel
theorem dX4_disk_152 : decode cX4_disk 152 = .ok (.getfield 13, 3) := by decide +kernel
theorem dX4_disk_155 : decode cX4_disk 155 = .ok (.bipush 16, 2) := by decide +kernel
theorem dX4_disk_157 : decode cX4_disk 157 = .ok (.iload_n 2, 1) := by decide +kernel
theorem dX4_disk_158 : decode cX4_disk 158 = .ok (.imul, 1) := by decide +kernel
theorem dX4_disk_159 : decode cX4_disk 159 = .ok (.iload_n 3, 1) := by decide +kernel
theorem dX4_disk_160 : decode cX4_disk 160 = .ok (.iadd, 1) := by decide +kernel
theorem dX4_disk_161 : decode cX4_disk 161 = .ok (.iaload, 1) := by decide +kernel
theorem dX4_disk_162 : decode cX4_disk 162 = .ok (.goto 16, 3) := by decide +kernel
theorem dX4_disk_165 : decode cX4_disk 165 = .ok (.aload_n 0, 1) := by decide +kernel
theorem dX4_disk_166 : decode cX4_disk 166 = .ok (.getfield 7, 3) := by decide +kernel
theorem dX4_disk_169 : decode cX4_disk 169 = .ok (.iconst 4, 1) := by decide +kernel
theorem dX4_disk_170 : decode cX4_disk 170 = .ok (.iload_n 2, 1) := by decide +kernel
theorem dX4_disk_171 : decode cX4_disk 171 = .ok (.imul, 1) := by decide +kernel
theorem dX4_disk_172 : decode cX4_disk 172 = .ok (.iload_n 3, 1) := by decide +kernel
theorem dX4_disk_173 : decode cX4_disk 173 = .ok (.iadd, 1) := by decide +kernel
theorem dX4_disk_174 : decode cX4_disk 174 = .ok (.bipush 16, 2) := by decide +kernel
theorem dX4_disk_176 : decode cX4_disk 176 = .ok (.isub, 1) := by decide +kernel
theorem dX4_disk_177 : decode cX4_disk 177 = .ok (.iaload, 1) := by decide +kernel
theorem dX4_disk_178 : decode cX4_disk 178 = .ok (.ireturn, 1) := by decide +kernel
theorem dX4_disk_179 : decode cX4_disk 179 = .ok (.iload_n 1, 1) := by decide +kernel
theorem dX4_disk_180 : decode cX4_disk 180 = .ok (.iconst 1, 1) := by decide +kernel
theorem dX4_disk_181 : decode cX4_disk 181 = .ok (.if_icmp .ne 59, 3) := by decide +kernel
theorem dX4_disk_184 : decode cX4_disk 184 = .ok (.iload_n 3, 1) := by decide +kernel
theorem dX4_disk_185 : decode cX4_disk 185 = .ok (.bipush 16, 2) := by decide +kernel
theorem dX4_disk_187 : decode cX4_disk 187 = .ok (.if_icmp .ge 17, 3) := by decide +kernel
theorem dX4_disk_190 : decode cX4_disk 190 = .ok (.aload_n 0, 1) := by decide +kernel
theorem dX4_disk_191 : decode cX4_disk 191 = .ok (.getfield 22, 3) := by decide +kernel
theorem dX4_disk_194 : decode cX4_disk 194 = .ok (.bipush 16, 2) := by decide +kernel
theorem dX4_disk_196 : decode cX4_disk 196 = .ok (.iload_n 2, 1) := by decide +kernel
theorem dX4_disk_197 : decode cX4_disk 197 = .ok (.imul, 1) := by decide +kernel
theorem dX4_disk_198 : decode cX4_disk 198 = .ok (.iload_n 3, 1) := by decide +kernel
theorem dX4_disk_199 : decode cX4_disk 199 = .ok (.iadd, 1) := by decide +kernel
theorem dX4_disk_200 : decode cX4_disk 200 = .ok (.iaload, 1) := by decide +kernel
theorem dX4_disk_201 : decode cX4_disk 201 = .ok (.goto 38, 3) := by decide +kernel
theorem dX4_disk_204 : decode cX4_disk 204 = .ok (.iload_n 3, 1) := by decide +kernel
theorem dX4_disk_205 : decode cX4_disk 205 = .ok (.bipush 20, 2) := by decide +kernel
theorem dX4_disk_207 : decode cX4_disk 207 = .ok (.if_icmp .ge 19, 3) := by decide +kernel
theorem dX4_disk_210 : decode cX4_disk 210 = .ok (.aload_n 0, 1) := by decide +kernel
theorem dX4_disk_211 : decode cX4_disk 211 = .ok (.getfield 16, 3) := by decide +kernel
theorem dX4_disk_214 : decode cX4_disk 214 = .ok (.iconst 4, 1) := by decide +kernel
theorem dX4_disk_215 : decode cX4_disk 215 = .ok (.iload_n 2, 1) := by decide +kernel
theorem dX4_disk_216 : decode cX4_disk 216 = .ok (.imul, 1) := by decide +kernel
theorem dX4_disk_217 : decode cX4_disk 217 = .ok (.iload_n 3, 1) := by decide +kernel
theorem dX4_disk_218 : decode cX4_disk 218 = .ok (.iadd, 1) := by decide +kernel
theorem dX4_disk_219 : decode cX4_disk 219 = .ok (.bipush 16, 2) := by decide +kernel
theorem dX4_disk_221 : decode cX4_disk 221 = .ok (.isub, 1) := by decide +kernel
theorem dX4_disk_222 : decode cX4_disk 222 = .ok (.iaload, 1) := by decide +kernel
theorem dX4_disk_223 : decode cX4_disk 223 = .ok (.goto 16, 3) := by decide +kernel
theorem dX4_disk_226 : decode cX4_disk 226 = .ok (.aload_n 0, 1) := by decide +kernel
theorem dX4_disk_227 : decode cX4_disk 227 = .ok (.getfield 19, 3) := by decide +kernel
theorem dX4_disk_230 : decode cX4_disk 230 = .ok (.iconst 4, 1) := by decide +kernel
theorem dX4_disk_231 : decode cX4_disk 231 = .ok (.iload_n 2, 1) := by decide +kernel
theorem dX4_disk_232 : decode cX4_disk 232 = .ok (.imul, 1) := by decide +kernel
theorem dX4_disk_233 : decode cX4_disk 233 = .ok (.iload_n 3, 1) := by decide +kernel
theorem dX4_disk_234 : decode cX4_disk 234 = .ok (.iadd, 1) := by decide +kernel
theorem dX4_disk_235 : decode cX4_disk 235 = .ok (.bipush 20, 2) := by decide +kernel
theorem dX4_disk_237 : decode cX4_disk 237 = .ok (.isub, 1) := by decide +kernel
theorem dX4_disk_238 : decode cX4_disk 238 = .ok (.iaload, 1) := by decide +kernel
theorem dX4_disk_239 : decode cX4_disk 239 = .ok (.ireturn, 1) := by decide +kernel
theorem dX4_disk_240 : decode cX4_disk 240 = .ok (.iload_n 1, 1) := by decide +kernel
theorem dX4_disk_241 : decode cX4_disk 241 = .ok (.iconst 3, 1) := by decide +kernel
theorem dX4_disk_242 : decode cX4_disk 242 = .ok (.if_icmp .ne 10, 3) := by decide +kernel
theorem dX4_disk_245 : decode cX4_disk 245 = .ok (.aload_n 0, 1) := by decide +kernel
theorem dX4_disk_246 : decode cX4_disk 246 = .ok (.getfield 37, 3) := by decide +kernel
theorem dX4_disk_249 : decode cX4_disk 249 = .ok (.goto 50, 3) := by decide +kernel
theorem dX4_disk_252 : decode cX4_disk 252 = .ok (.iload_n 3, 1) := by decide +kernel
theorem dX4_disk_253 : decode cX4_disk 253 = .ok (.ifCond .ne 12, 3) := by decide +kernel
theorem dX4_disk_256 : decode cX4_disk 256 = .ok (.aload_n 0, 1) := by decide +kernel
theorem dX4_disk_257 : decode cX4_disk 257 = .ok (.getfield 25, 3) := by decide +kernel
theorem dX4_disk_260 : decode cX4_disk 260 = .ok (.iload_n 2, 1) := by decide +kernel
theorem dX4_disk_261 : decode cX4_disk 261 = .ok (.iaload, 1) := by decide +kernel
theorem dX4_disk_262 : decode cX4_disk 262 = .ok (.goto 37, 3) := by decide +kernel
theorem dX4_disk_265 : decode cX4_disk 265 = .ok (.iload_n 3, 1) := by decide +kernel
theorem dX4_disk_266 : decode cX4_disk 266 = .ok (.iconst 1, 1) := by decide +kernel
theorem dX4_disk_267 : decode cX4_disk 267 = .ok (.if_icmp .ne 12, 3) := by decide +kernel
theorem dX4_disk_270 : decode cX4_disk 270 = .ok (.aload_n 0, 1) := by decide +kernel
theorem dX4_disk_271 : decode cX4_disk 271 = .ok (.getfield 28, 3) := by decide +kernel
theorem dX4_disk_274 : decode cX4_disk 274 = .ok (.iload_n 2, 1) := by decide +kernel
theorem dX4_disk_275 : decode cX4_disk 275 = .ok (.iaload, 1) := by decide +kernel
theorem dX4_disk_276 : decode cX4_disk 276 = .ok (.goto 23, 3) := by decide +kernel
theorem dX4_disk_279 : decode cX4_disk 279 = .ok (.iload_n 3, 1) := by decide +kernel
theorem dX4_disk_280 : decode cX4_disk 280 = .ok (.iconst 2, 1) := by decide +kernel
theorem dX4_disk_281 : decode cX4_disk 281 = .ok (.if_icmp .ne 12, 3) := by decide +kernel
theorem dX4_disk_284 : decode cX4_disk 284 = .ok (.aload_n 0, 1) := by decide +kernel
theorem dX4_disk_285 : decode cX4_disk 285 = .ok (.getfield 31, 3) := by decide +kernel
theorem dX4_disk_288 : decode cX4_disk 288 = .ok (.iload_n 2, 1) := by decide +kernel
theorem dX4_disk_289 : decode cX4_disk 289 = .ok (.iaload, 1) := by decide +kernel
theorem dX4_disk_290 : decode cX4_disk 290 = .ok (.goto 9, 3) := by decide +kernel
theorem dX4_disk_293 : decode cX4_disk 293 = .ok (.aload_n 0, 1) := by decide +kernel
theorem dX4_disk_294 : decode cX4_disk 294 = .ok (.getfield 34, 3) := by decide +kernel
theorem dX4_disk_297 : decode cX4_disk 297 = .ok (.iload_n 2, 1) := by decide +kernel
theorem dX4_disk_298 : decode cX4_disk 298 = .ok (.iaload, 1) := by decide +kernel
theorem dX4_disk_299 : decode cX4_disk 299 = .ok (.ireturn, 1) := by decide +kernel
theorem dX4_frame_0 : decode cX4_frame 0 = .ok (.aload_n 0, 1) := by decide +kernel
theorem dX4_frame_1 : decode cX4_frame 1 = .ok (.iconst 0, 1) := by decide +kernel
theorem dX4_frame_2 : decode cX4_frame 2 = .ok (.putfield 75, 3) := by decide +kernel
theorem dX4_frame_5 : decode cX4_frame 5 = .ok (.aload_n 0, 1) := by decide +kernel
theorem dX4_frame_6 : decode cX4_frame 6 = .ok (.iload_n 1, 1) := by decide +kernel
theorem dX4_frame_7 : decode cX4_frame 7 = .ok (.iconst 0, 1) := by decide +kernel
theorem dX4_frame_8 : decode cX4_frame 8 = .ok (.iconst 3, 1) := by decide +kernel
theorem dX4_frame_9 : decode cX4_frame 9 = .ok (.invokestatic 116, 3) := by decide +kernel
theorem dX4_frame_12 : decode cX4_frame 12 = .ok (.ifCond .eq 13, 3) := by decide +kernel
theorem dX4_frame_15 : decode cX4_frame 15 = .ok (.iload_n 2, 1) := by decide +kernel
theorem dX4_frame_16 : decode cX4_frame 16 = .ok (.iconst 0, 1) := by decide +kernel
theorem dX4_frame_17 : decode cX4_frame 17 = .ok (.bipush 18, 2) := by decide +kernel
theorem dX4_frame_19 : decode cX4_frame 19 = .ok (.invokestatic 116, 3) := by decide +kernel
theorem dX4_frame_22 : decode cX4_frame 22 = .ok (.ifCond .ne 7, 3) := by decide +kernel
theorem dX4_frame_25 : decode cX4_frame 25 = .ok (.iconst 1, 1) := by decide +kernel
theorem dX4_frame_26 : decode cX4_frame 26 = .ok (.goto 4, 3) := by decide +kernel
theorem dX4_frame_29 : decode cX4_frame 29 = .ok (.iconst 0, 1) := by decide +kernel
theorem dX4_frame_30 : decode cX4_frame 30 = .ok (.iconst 1, 1) := by decide +kernel
theorem dX4_frame_31 : decode cX4_frame 31 = .ok (.invokevirtual 120, 3) := by decide +kernel
theorem dX4_frame_34 : decode cX4_frame 34 = .ok (.ifCond .eq 5, 3) := by decide +kernel
theorem dX4_frame_37 : decode cX4_frame 37 = .ok (.iconst 0, 1) := by decide +kernel
theorem dX4_frame_38 : decode cX4_frame 38 = .ok (.ireturn, 1) := by decide +kernel
theorem dX4_frame_39 : decode cX4_frame 39 = .ok (.iload_n 2, 1) := by decide +kernel
theorem dX4_frame_40 : decode cX4_frame 40 = .ok (.ifCond .eq 13, 3) := by decide +kernel
theorem dX4_frame_43 : decode cX4_frame 43 = .ok (.aload_n 0, 1) := by decide +kernel
theorem dX4_frame_44 : decode cX4_frame 44 = .ok (.getfield 41, 3) := by decide +kernel
theorem dX4_frame_47 : decode cX4_frame 47 = .ok (.iload_n 1, 1) := by decide +kernel
theorem dX4_frame_48 : decode cX4_frame 48 = .ok (.iaload, 1) := by decide +kernel
theorem dX4_frame_49 : decode cX4_frame 49 = .ok (.iconst (-1), 1) := by decide +kernel
theorem dX4_frame_50 : decode cX4_frame 50 = .ok (.if_icmp .ne 18, 3) := by decide +kernel
theorem dX4_frame_53 : decode cX4_frame 53 = .ok (.iload_n 2, 1) := by decide +kernel
theorem dX4_frame_54 : decode cX4_frame 54 = .ok (.ifCond .ne 12, 3) := by decide +kernel
theorem dX4_frame_57 : decode cX4_frame 57 = .ok (.aload_n 0, 1) := by decide +kernel
theorem dX4_frame_58 : decode cX4_frame 58 = .ok (.getfield 41, 3) := by decide +kernel
theorem dX4_frame_61 : decode cX4_frame 61 = .ok (.iload_n 1, 1) := by decide +kernel
theorem dX4_frame_62 : decode cX4_frame 62 = .ok (.iaload, 1) := by decide +kernel
theorem dX4_frame_63 : decode cX4_frame 63 = .ok (.goto 4, 3) := by decide +kernel
theorem dX4_frame_66 : decode cX4_frame 66 = .ok (.iconst 0, 1) := by decide +kernel
theorem dX4_frame_67 : decode cX4_frame 67 = .ok (.ireturn, 1) := by decide +kernel
theorem dX4_frame_68 : decode cX4_frame 68 = .ok (.iload_n 2, 1) := by decide +kernel
theorem dX4_frame_69 : decode cX4_frame 69 = .ok (.iconst 1, 1) := by decide +kernel
theorem dX4_frame_70 : decode cX4_frame 70 = .ok (.if_icmp .ne 12, 3) := by decide +kernel
theorem dX4_frame_73 : decode cX4_frame 73 = .ok (.aload_n 0, 1) := by decide +kernel
theorem dX4_frame_74 : decode cX4_frame 74 = .ok (.getfield 44, 3) := by decide +kernel
theorem dX4_frame_77 : decode cX4_frame 77 = .ok (.iload_n 1, 1) := by decide +kernel
theorem dX4_frame_78 : decode cX4_frame 78 = .ok (.iaload, 1) := by decide +kernel
theorem dX4_frame_79 : decode cX4_frame 79 = .ok (.goto 38, 3) := by decide +kernel
theorem dX4_frame_82 : decode cX4_frame 82 = .ok (.iload_n 2, 1) := by decide +kernel
theorem dX4_frame_83 : decode cX4_frame 83 = .ok (.iconst 2, 1) := by decide +kernel
theorem dX4_frame_84 : decode cX4_frame 84 = .ok (.if_icmp .ne 20, 3) := by decide +kernel
theorem dX4_frame_87 : decode cX4_frame 87 = .ok (.aload_n 0, 1) := by decide +kernel
theorem dX4_frame_88 : decode cX4_frame 88 = .ok (.getfield 47, 3) := by decide +kernel
theorem dX4_frame_91 : decode cX4_frame 91 = .ok (.iload_n 1, 1) := by decide +kernel
theorem dX4_frame_92 : decode cX4_frame 92 = .ok (.baload, 1) := by decide +kernel
theorem dX4_frame_93 : decode cX4_frame 93 = .ok (.ifCond .eq 7, 3) := by decide +kernel
theorem dX4_frame_96 : decode cX4_frame 96 = .ok (.iconst 1, 1) := by decide +kernel
theorem dX4_frame_97 : decode cX4_frame 97 = .ok (.goto 20, 3) := by decide +kernel
theorem dX4_frame_100 : decode cX4_frame 100 = .ok (.iconst 0, 1) := by decide +kernel
theorem dX4_frame_101 : decode cX4_frame 101 = .ok (.goto 16, 3) := by decide +kernel
theorem dX4_frame_104 : decode cX4_frame 104 = .ok (.aload_n 0, 1) := by decide +kernel
theorem dX4_frame_105 : decode cX4_frame 105 = .ok (.getfield 54, 3) := by decide +kernel
theorem dX4_frame_108 : decode cX4_frame 108 = .ok (.bipush 16, 2) := by decide +kernel
theorem dX4_frame_110 : decode cX4_frame 110 = .ok (.iload_n 1, 1) := by decide +kernel
theorem dX4_frame_111 : decode cX4_frame 111 = .ok (.imul, 1) := by decide +kernel
theorem dX4_frame_112 : decode cX4_frame 112 = .ok (.iload_n 2, 1) := by decide +kernel
theorem dX4_frame_113 : decode cX4_frame 113 = .ok (.iadd, 1) := by decide +kernel
theorem dX4_frame_114 : decode cX4_frame 114 = .ok (.iconst 3, 1) := by decide +kernel
theorem dX4_frame_115 : decode cX4_frame 115 = .ok (.isub, 1) := by decide +kernel
