theorem dX8_workEnds_73 : decode cX8_workEnds 73 = .ok (.iload 5, 2) := by decide +kernel
theorem dX8_workEnds_75 : decode cX8_workEnds 75 = .ok (.i2l, 1) := by decide +kernel
theorem dX8_workEnds_76 : decode cX8_workEnds 76 = .ok (.invokevirtual 132, 3) := by decide +kernel
theorem dX8_workEnds_79 : decode cX8_workEnds 79 = .ok (.aload_n 0, 1) := by decide +kernel
theorem dX8_workEnds_80 : decode cX8_workEnds 80 = .ok (.getfield 50, 3) := by decide +kernel
theorem dX8_workEnds_83 : decode cX8_workEnds 83 = .ok (.iload 4, 2) := by decide +kernel
theorem dX8_workEnds_85 : decode cX8_workEnds 85 = .ok (.bipush 20, 2) := by decide +kernel
theorem dX8_workEnds_87 : decode cX8_workEnds 87 = .ok (.imul, 1) := by decide +kernel
theorem dX8_workEnds_88 : decode cX8_workEnds 88 = .ok (.iconst (-1), 1) := by decide +kernel
theorem dX8_workEnds_89 : decode cX8_workEnds 89 = .ok (.iastore, 1) := by decide +kernel
theorem dX8_workEnds_90 : decode cX8_workEnds 90 = .ok (.aload_n 0, 1) := by decide +kernel
theorem dX8_workEnds_91 : decode cX8_workEnds 91 = .ok (.getfield 56, 3) := by decide +kernel
theorem dX8_workEnds_94 : decode cX8_workEnds 94 = .ok (.iload 4, 2) := by decide +kernel
theorem dX8_workEnds_96 : decode cX8_workEnds 96 = .ok (.iload 5, 2) := by decide +kernel
theorem dX8_workEnds_98 : decode cX8_workEnds 98 = .ok (.ifCond .le 7, 3) := by decide +kernel
theorem dX8_workEnds_101 : decode cX8_workEnds 101 = .ok (.iconst 1, 1) := by decide +kernel
theorem dX8_workEnds_102 : decode cX8_workEnds 102 = .ok (.goto 4, 3) := by decide +kernel
theorem dX8_workEnds_105 : decode cX8_workEnds 105 = .ok (.iconst 0, 1) := by decide +kernel
theorem dX8_workEnds_106 : decode cX8_workEnds 106 = .ok (.iastore, 1) := by decide +kernel
theorem dX8_workEnds_107 : decode cX8_workEnds 107 = .ok (.goto 69, 3) := by decide +kernel
theorem dX8_workEnds_110 : decode cX8_workEnds 110 = .ok (.iconst 0, 1) := by decide +kernel
theorem dX8_workEnds_111 : decode cX8_workEnds 111 = .ok (.istore 6, 2) := by decide +kernel
theorem dX8_workEnds_113 : decode cX8_workEnds 113 = .ok (.iload 6, 2) := by decide +kernel
theorem dX8_workEnds_115 : decode cX8_workEnds 115 = .ok (.aload_n 0, 1) := by decide +kernel
theorem dX8_workEnds_116 : decode cX8_workEnds 116 = .ok (.getfield 9, 3) := by decide +kernel
theorem dX8_workEnds_119 : decode cX8_workEnds 119 = .ok (.iload_n 1, 1) := by decide +kernel
theorem dX8_workEnds_120 : decode cX8_workEnds 120 = .ok (.iaload, 1) := by decide +kernel
theorem dX8_workEnds_121 : decode cX8_workEnds 121 = .ok (.if_icmp .ge 17, 3) := by decide +kernel
theorem dX8_workEnds_124 : decode cX8_workEnds 124 = .ok (.aload_n 0, 1) := by decide +kernel
theorem dX8_workEnds_125 : decode cX8_workEnds 125 = .ok (.getfield 59, 3) := by decide +kernel
theorem dX8_workEnds_128 : decode cX8_workEnds 128 = .ok (.iload 6, 2) := by decide +kernel
theorem dX8_workEnds_130 : decode cX8_workEnds 130 = .ok (.iconst 0, 1) := by decide +kernel
theorem dX8_workEnds_131 : decode cX8_workEnds 131 = .ok (.iastore, 1) := by decide +kernel
theorem dX8_workEnds_132 : decode cX8_workEnds 132 = .ok (.iinc 6 1, 3) := by decide +kernel
theorem dX8_workEnds_135 : decode cX8_workEnds 135 = .ok (.goto (-22), 3) := by decide +kernel
theorem dX8_workEnds_138 : decode cX8_workEnds 138 = .ok (.aload_n 0, 1) := by decide +kernel
theorem dX8_workEnds_139 : decode cX8_workEnds 139 = .ok (.getfield 56, 3) := by decide +kernel
theorem dX8_workEnds_142 : decode cX8_workEnds 142 = .ok (.iload 4, 2) := by decide +kernel
theorem dX8_workEnds_144 : decode cX8_workEnds 144 = .ok (.iaload, 1) := by decide +kernel
theorem dX8_workEnds_145 : decode cX8_workEnds 145 = .ok (.bipush 20, 2) := by decide +kernel
theorem dX8_workEnds_147 : decode cX8_workEnds 147 = .ok (.if_icmp .ge 29, 3) := by decide +kernel
theorem dX8_workEnds_150 : decode cX8_workEnds 150 = .ok (.aload_n 0, 1) := by decide +kernel
theorem dX8_workEnds_151 : decode cX8_workEnds 151 = .ok (.iload_n 1, 1) := by decide +kernel
theorem dX8_workEnds_152 : decode cX8_workEnds 152 = .ok (.iload_n 2, 1) := by decide +kernel
theorem dX8_workEnds_153 : decode cX8_workEnds 153 = .ok (.iload_n 3, 1) := by decide +kernel
theorem dX8_workEnds_154 : decode cX8_workEnds 154 = .ok (.iload 5, 2) := by decide +kernel
theorem dX8_workEnds_156 : decode cX8_workEnds 156 = .ok (.invokevirtual 182, 3) := by decide +kernel
theorem dX8_workEnds_159 : decode cX8_workEnds 159 = .ok (.ifCond .eq 17, 3) := by decide +kernel
theorem dX8_workEnds_162 : decode cX8_workEnds 162 = .ok (.aload_n 0, 1) := by decide +kernel
theorem dX8_workEnds_163 : decode cX8_workEnds 163 = .ok (.getfield 56, 3) := by decide +kernel
theorem dX8_workEnds_166 : decode cX8_workEnds 166 = .ok (.iload 4, 2) := by decide +kernel
theorem dX8_workEnds_168 : decode cX8_workEnds 168 = .ok (.dup2, 1) := by decide +kernel
theorem dX8_workEnds_169 : decode cX8_workEnds 169 = .ok (.iaload, 1) := by decide +kernel
theorem dX8_workEnds_170 : decode cX8_workEnds 170 = .ok (.iconst 1, 1) := by decide +kernel
theorem dX8_workEnds_171 : decode cX8_workEnds 171 = .ok (.iadd, 1) := by decide +kernel
theorem dX8_workEnds_172 : decode cX8_workEnds 172 = .ok (.iastore, 1) := by decide +kernel
theorem dX8_workEnds_173 : decode cX8_workEnds 173 = .ok (.goto (-35), 3) := by decide +kernel
theorem dX8_workEnds_176 : decode cX8_workEnds 176 = .ok (.iinc 3 1, 3) := by decide +kernel
theorem dX8_workEnds_179 : decode cX8_workEnds 179 = .ok (.goto (-166), 3) := by decide +kernel
theorem dX8_workEnds_182 : decode cX8_workEnds 182 = .ok (.iinc 2 (-1), 3) := by decide +kernel
theorem dX8_workEnds_185 : decode cX8_workEnds 185 = .ok (.goto (-178), 3) := by decide +kernel
theorem dX8_workEnds_188 : decode cX8_workEnds 188 = .ok (.return_, 1) := by decide +kernel
theorem dX8_takeEnd_0 : decode cX8_takeEnd 0 = .ok (.iload_n 2, 1) := by decide +kernel
theorem dX8_takeEnd_1 : decode cX8_takeEnd 1 = .ok (.bipush 8, 2) := by decide +kernel
theorem dX8_takeEnd_3 : decode cX8_takeEnd 3 = .ok (.imul, 1) := by decide +kernel
theorem dX8_takeEnd_4 : decode cX8_takeEnd 4 = .ok (.iload_n 3, 1) := by decide +kernel
theorem dX8_takeEnd_5 : decode cX8_takeEnd 5 = .ok (.iadd, 1) := by decide +kernel
theorem dX8_takeEnd_6 : decode cX8_takeEnd 6 = .ok (.bipush 20, 2) := by decide +kernel
theorem dX8_takeEnd_8 : decode cX8_takeEnd 8 = .ok (.imul, 1) := by decide +kernel
theorem dX8_takeEnd_9 : decode cX8_takeEnd 9 = .ok (.aload_n 0, 1) := by decide +kernel
theorem dX8_takeEnd_10 : decode cX8_takeEnd 10 = .ok (.getfield 56, 3) := by decide +kernel
theorem dX8_takeEnd_13 : decode cX8_takeEnd 13 = .ok (.iload_n 2, 1) := by decide +kernel
theorem dX8_takeEnd_14 : decode cX8_takeEnd 14 = .ok (.bipush 8, 2) := by decide +kernel
theorem dX8_takeEnd_16 : decode cX8_takeEnd 16 = .ok (.imul, 1) := by decide +kernel
theorem dX8_takeEnd_17 : decode cX8_takeEnd 17 = .ok (.iload_n 3, 1) := by decide +kernel
theorem dX8_takeEnd_18 : decode cX8_takeEnd 18 = .ok (.iadd, 1) := by decide +kernel
theorem dX8_takeEnd_19 : decode cX8_takeEnd 19 = .ok (.iaload, 1) := by decide +kernel
theorem dX8_takeEnd_20 : decode cX8_takeEnd 20 = .ok (.iadd, 1) := by decide +kernel
theorem dX8_takeEnd_21 : decode cX8_takeEnd 21 = .ok (.istore 5, 2) := by decide +kernel
theorem dX8_takeEnd_23 : decode cX8_takeEnd 23 = .ok (.iconst (-1), 1) := by decide +kernel
theorem dX8_takeEnd_24 : decode cX8_takeEnd 24 = .ok (.istore 6, 2) := by decide +kernel
theorem dX8_takeEnd_26 : decode cX8_takeEnd 26 = .ok (.iconst 0, 1) := by decide +kernel
theorem dX8_takeEnd_27 : decode cX8_takeEnd 27 = .ok (.istore 7, 2) := by decide +kernel
theorem dX8_takeEnd_29 : decode cX8_takeEnd 29 = .ok (.iload 7, 2) := by decide +kernel
theorem dX8_takeEnd_31 : decode cX8_takeEnd 31 = .ok (.aload_n 0, 1) := by decide +kernel
theorem dX8_takeEnd_32 : decode cX8_takeEnd 32 = .ok (.getfield 9, 3) := by decide +kernel
theorem dX8_takeEnd_35 : decode cX8_takeEnd 35 = .ok (.iload_n 1, 1) := by decide +kernel
theorem dX8_takeEnd_36 : decode cX8_takeEnd 36 = .ok (.iaload, 1) := by decide +kernel
theorem dX8_takeEnd_37 : decode cX8_takeEnd 37 = .ok (.if_icmp .ge 137, 3) := by decide +kernel
theorem dX8_takeEnd_40 : decode cX8_takeEnd 40 = .ok (.iload_n 2, 1) := by decide +kernel
theorem dX8_takeEnd_41 : decode cX8_takeEnd 41 = .ok (.iconst 1, 1) := by decide +kernel
theorem dX8_takeEnd_42 : decode cX8_takeEnd 42 = .ok (.iadd, 1) := by decide +kernel
theorem dX8_takeEnd_43 : decode cX8_takeEnd 43 = .ok (.bipush 8, 2) := by decide +kernel
theorem dX8_takeEnd_45 : decode cX8_takeEnd 45 = .ok (.imul, 1) := by decide +kernel
theorem dX8_takeEnd_46 : decode cX8_takeEnd 46 = .ok (.iload 7, 2) := by decide +kernel
theorem dX8_takeEnd_48 : decode cX8_takeEnd 48 = .ok (.iadd, 1) := by decide +kernel
theorem dX8_takeEnd_49 : decode cX8_takeEnd 49 = .ok (.istore 8, 2) := by decide +kernel
theorem dX8_takeEnd_51 : decode cX8_takeEnd 51 = .ok (.aload_n 0, 1) := by decide +kernel
theorem dX8_takeEnd_52 : decode cX8_takeEnd 52 = .ok (.iload_n 1, 1) := by decide +kernel
theorem dX8_takeEnd_53 : decode cX8_takeEnd 53 = .ok (.iload_n 3, 1) := by decide +kernel
theorem dX8_takeEnd_54 : decode cX8_takeEnd 54 = .ok (.iload 7, 2) := by decide +kernel
theorem dX8_takeEnd_56 : decode cX8_takeEnd 56 = .ok (.invokevirtual 116, 3) := by decide +kernel
theorem dX8_takeEnd_59 : decode cX8_takeEnd 59 = .ok (.iload 4, 2) := by decide +kernel
theorem dX8_takeEnd_61 : decode cX8_takeEnd 61 = .ok (.imul, 1) := by decide +kernel
theorem dX8_takeEnd_62 : decode cX8_takeEnd 62 = .ok (.istore 9, 2) := by decide +kernel
theorem dX8_takeEnd_64 : decode cX8_takeEnd 64 = .ok (.iload 9, 2) := by decide +kernel
theorem dX8_takeEnd_66 : decode cX8_takeEnd 66 = .ok (.ifCond .eq 102, 3) := by decide +kernel
theorem dX8_takeEnd_69 : decode cX8_takeEnd 69 = .ok (.aload_n 0, 1) := by decide +kernel
theorem dX8_takeEnd_70 : decode cX8_takeEnd 70 = .ok (.getfield 59, 3) := by decide +kernel
theorem dX8_takeEnd_73 : decode cX8_takeEnd 73 = .ok (.iload 7, 2) := by decide +kernel
theorem dX8_takeEnd_75 : decode cX8_takeEnd 75 = .ok (.iaload, 1) := by decide +kernel
theorem dX8_takeEnd_76 : decode cX8_takeEnd 76 = .ok (.aload_n 0, 1) := by decide +kernel
theorem dX8_takeEnd_77 : decode cX8_takeEnd 77 = .ok (.getfield 56, 3) := by decide +kernel
theorem dX8_takeEnd_80 : decode cX8_takeEnd 80 = .ok (.iload 8, 2) := by decide +kernel
theorem dX8_takeEnd_82 : decode cX8_takeEnd 82 = .ok (.iaload, 1) := by decide +kernel
theorem dX8_takeEnd_83 : decode cX8_takeEnd 83 = .ok (.if_icmp .lt 6, 3) := by decide +kernel
theorem dX8_takeEnd_86 : decode cX8_takeEnd 86 = .ok (.goto 82, 3) := by decide +kernel
theorem dX8_takeEnd_89 : decode cX8_takeEnd 89 = .ok (.aload_n 0, 1) := by decide +kernel
theorem dX8_takeEnd_90 : decode cX8_takeEnd 90 = .ok (.getfield 98, 3) := by decide +kernel
theorem dX8_takeEnd_93 : decode cX8_takeEnd 93 = .ok (.iload 9, 2) := by decide +kernel
theorem dX8_takeEnd_95 : decode cX8_takeEnd 95 = .ok (.i2l, 1) := by decide +kernel
theorem dX8_takeEnd_96 : decode cX8_takeEnd 96 = .ok (.invokevirtual 132, 3) := by decide +kernel
theorem dX8_takeEnd_99 : decode cX8_takeEnd 99 = .ok (.aload_n 0, 1) := by decide +kernel
theorem dX8_takeEnd_100 : decode cX8_takeEnd 100 = .ok (.getfield 83, 3) := by decide +kernel
theorem dX8_takeEnd_103 : decode cX8_takeEnd 103 = .ok (.aload_n 0, 1) := by decide +kernel
theorem dX8_takeEnd_104 : decode cX8_takeEnd 104 = .ok (.getfield 47, 3) := by decide +kernel
theorem dX8_takeEnd_107 : decode cX8_takeEnd 107 = .ok (.iload 8, 2) := by decide +kernel
theorem dX8_takeEnd_109 : decode cX8_takeEnd 109 = .ok (.bipush 20, 2) := by decide +kernel
theorem dX8_takeEnd_111 : decode cX8_takeEnd 111 = .ok (.imul, 1) := by decide +kernel
theorem dX8_takeEnd_112 : decode cX8_takeEnd 112 = .ok (.aload_n 0, 1) := by decide +kernel
theorem dX8_takeEnd_113 : decode cX8_takeEnd 113 = .ok (.getfield 59, 3) := by decide +kernel
theorem dX8_takeEnd_116 : decode cX8_takeEnd 116 = .ok (.iload 7, 2) := by decide +kernel
theorem dX8_takeEnd_118 : decode cX8_takeEnd 118 = .ok (.iaload, 1) := by decide +kernel
theorem dX8_takeEnd_119 : decode cX8_takeEnd 119 = .ok (.iadd, 1) := by decide +kernel
theorem dX8_takeEnd_120 : decode cX8_takeEnd 120 = .ok (.aaload, 1) := by decide +kernel
theorem dX8_takeEnd_121 : decode cX8_takeEnd 121 = .ok (.aload_n 0, 1) := by decide +kernel
theorem dX8_takeEnd_122 : decode cX8_takeEnd 122 = .ok (.getfield 98, 3) := by decide +kernel
theorem dX8_takeEnd_125 : decode cX8_takeEnd 125 = .ok (.invokevirtual 136, 3) := by decide +kernel
theorem dX8_takeEnd_128 : decode cX8_takeEnd 128 = .ok (.iload 6, 2) := by decide +kernel
theorem dX8_takeEnd_130 : decode cX8_takeEnd 130 = .ok (.ifCond .lt 20, 3) := by decide +kernel
theorem dX8_takeEnd_133 : decode cX8_takeEnd 133 = .ok (.aload_n 0, 1) := by decide +kernel
theorem dX8_takeEnd_134 : decode cX8_takeEnd 134 = .ok (.getfield 83, 3) := by decide +kernel
theorem dX8_takeEnd_137 : decode cX8_takeEnd 137 = .ok (.aload_n 0, 1) := by decide +kernel
theorem dX8_takeEnd_138 : decode cX8_takeEnd 138 = .ok (.getfield 47, 3) := by decide +kernel
theorem dX8_takeEnd_141 : decode cX8_takeEnd 141 = .ok (.iload 5, 2) := by decide +kernel
theorem dX8_takeEnd_143 : decode cX8_takeEnd 143 = .ok (.aaload, 1) := by decide +kernel
theorem dX8_takeEnd_144 : decode cX8_takeEnd 144 = .ok (.invokevirtual 178, 3) := by decide +kernel
theorem dX8_takeEnd_147 : decode cX8_takeEnd 147 = .ok (.ifCond .le 21, 3) := by decide +kernel
theorem dX8_takeEnd_150 : decode cX8_takeEnd 150 = .ok (.iload 7, 2) := by decide +kernel
theorem dX8_takeEnd_152 : decode cX8_takeEnd 152 = .ok (.istore 6, 2) := by decide +kernel
theorem dX8_takeEnd_154 : decode cX8_takeEnd 154 = .ok (.aload_n 0, 1) := by decide +kernel
theorem dX8_takeEnd_155 : decode cX8_takeEnd 155 = .ok (.getfield 47, 3) := by decide +kernel
theorem dX8_takeEnd_158 : decode cX8_takeEnd 158 = .ok (.iload 5, 2) := by decide +kernel
theorem dX8_takeEnd_160 : decode cX8_takeEnd 160 = .ok (.aaload, 1) := by decide +kernel
theorem dX8_takeEnd_161 : decode cX8_takeEnd 161 = .ok (.aload_n 0, 1) := by decide +kernel
theorem dX8_takeEnd_162 : decode cX8_takeEnd 162 = .ok (.getfield 83, 3) := by decide +kernel
theorem dX8_takeEnd_165 : decode cX8_takeEnd 165 = .ok (.invokevirtual 143, 3) := by decide +kernel
theorem dX8_takeEnd_168 : decode cX8_takeEnd 168 = .ok (.iinc 7 1, 3) := by decide +kernel
theorem dX8_takeEnd_171 : decode cX8_takeEnd 171 = .ok (.goto (-142), 3) := by decide +kernel
theorem dX8_takeEnd_174 : decode cX8_takeEnd 174 = .ok (.iload 6, 2) := by decide +kernel
theorem dX8_takeEnd_176 : decode cX8_takeEnd 176 = .ok (.ifCond .ge 5, 3) := by decide +kernel
theorem dX8_takeEnd_179 : decode cX8_takeEnd 179 = .ok (.iconst 0, 1) := by decide +kernel
theorem dX8_takeEnd_180 : decode cX8_takeEnd 180 = .ok (.ireturn, 1) := by decide +kernel
theorem dX8_takeEnd_181 : decode cX8_takeEnd 181 = .ok (.aload_n 0, 1) := by decide +kernel
theorem dX8_takeEnd_182 : decode cX8_takeEnd 182 = .ok (.getfield 50, 3) := by decide +kernel
theorem dX8_takeEnd_185 : decode cX8_takeEnd 185 = .ok (.iload 5, 2) := by decide +kernel
theorem dX8_takeEnd_187 : decode cX8_takeEnd 187 = .ok (.iload 6, 2) := by decide +kernel
theorem dX8_takeEnd_189 : decode cX8_takeEnd 189 = .ok (.iastore, 1) := by decide +kernel
theorem dX8_takeEnd_190 : decode cX8_takeEnd 190 = .ok (.aload_n 0, 1) := by decide +kernel
theorem dX8_takeEnd_191 : decode cX8_takeEnd 191 = .ok (.getfield 53, 3) := by decide +kernel
theorem dX8_takeEnd_194 : decode cX8_takeEnd 194 = .ok (.iload 5, 2) := by decide +kernel
theorem dX8_takeEnd_196 : decode cX8_takeEnd 196 = .ok (.aload_n 0, 1) := by decide +kernel
theorem dX8_takeEnd_197 : decode cX8_takeEnd 197 = .ok (.getfield 59, 3) := by decide +kernel
theorem dX8_takeEnd_200 : decode cX8_takeEnd 200 = .ok (.iload 6, 2) := by decide +kernel
theorem dX8_takeEnd_202 : decode cX8_takeEnd 202 = .ok (.iaload, 1) := by decide +kernel
theorem dX8_takeEnd_203 : decode cX8_takeEnd 203 = .ok (.iastore, 1) := by decide +kernel
theorem dX8_takeEnd_204 : decode cX8_takeEnd 204 = .ok (.aload_n 0, 1) := by decide +kernel
theorem dX8_takeEnd_205 : decode cX8_takeEnd 205 = .ok (.getfield 59, 3) := by decide +kernel
theorem dX8_takeEnd_208 : decode cX8_takeEnd 208 = .ok (.iload 6, 2) := by decide +kernel
theorem dX8_takeEnd_210 : decode cX8_takeEnd 210 = .ok (.dup2, 1) := by decide +kernel
theorem dX8_takeEnd_211 : decode cX8_takeEnd 211 = .ok (.iaload, 1) := by decide +kernel
theorem dX8_takeEnd_212 : decode cX8_takeEnd 212 = .ok (.iconst 1, 1) := by decide +kernel
theorem dX8_takeEnd_213 : decode cX8_takeEnd 213 = .ok (.iadd, 1) := by decide +kernel
theorem dX8_takeEnd_214 : decode cX8_takeEnd 214 = .ok (.iastore, 1) := by decide +kernel
theorem dX8_takeEnd_215 : decode cX8_takeEnd 215 = .ok (.iconst 1, 1) := by decide +kernel
theorem dX8_takeEnd_216 : decode cX8_takeEnd 216 = .ok (.ireturn, 1) := by decide +kernel
theorem dX8_best_0 : decode cX8_best 0 = .ok (.aload_n 0, 1) := by decide +kernel
theorem dX8_best_1 : decode cX8_best 1 = .ok (.iload_n 1, 1) := by decide +kernel
theorem dX8_best_2 : decode cX8_best 2 = .ok (.invokevirtual 105, 3) := by decide +kernel
theorem dX8_best_5 : decode cX8_best 5 = .ok (.ifCond .eq 13, 3) := by decide +kernel
theorem dX8_best_8 : decode cX8_best 8 = .ok (.iload_n 2, 1) := by decide +kernel
theorem dX8_best_9 : decode cX8_best 9 = .ok (.ifCond .lt 9, 3) := by decide +kernel
theorem dX8_best_12 : decode cX8_best 12 = .ok (.iload_n 2, 1) := by decide +kernel
theorem dX8_best_13 : decode cX8_best 13 = .ok (.bipush 20, 2) := by decide +kernel
theorem dX8_best_15 : decode cX8_best 15 = .ok (.if_icmp .lt 5, 3) := by decide +kernel
theorem dX8_best_18 : decode cX8_best 18 = .ok (.iconst (-1), 1) := by decide +kernel
theorem dX8_best_19 : decode cX8_best 19 = .ok (.ireturn, 1) := by decide +kernel
theorem dX8_best_20 : decode cX8_best 20 = .ok (.aload_n 0, 1) := by decide +kernel
theorem dX8_best_21 : decode cX8_best 21 = .ok (.iload_n 1, 1) := by decide +kernel
theorem dX8_best_22 : decode cX8_best 22 = .ok (.invokevirtual 164, 3) := by decide +kernel
theorem dX8_best_25 : decode cX8_best 25 = .ok (.istore_n 3, 1) := by decide +kernel
theorem dX8_best_26 : decode cX8_best 26 = .ok (.iload_n 3, 1) := by decide +kernel
theorem dX8_best_27 : decode cX8_best 27 = .ok (.ifCond .eq 5, 3) := by decide +kernel
theorem dX8_best_30 : decode cX8_best 30 = .ok (.iload_n 3, 1) := by decide +kernel
theorem dX8_best_31 : decode cX8_best 31 = .ok (.ireturn, 1) := by decide +kernel
theorem dX8_best_32 : decode cX8_best 32 = .ok (.aload_n 0, 1) := by decide +kernel
theorem dX8_best_33 : decode cX8_best 33 = .ok (.iload_n 1, 1) := by decide +kernel
theorem dX8_best_34 : decode cX8_best 34 = .ok (.invokevirtual 186, 3) := by decide +kernel
theorem dX8_best_37 : decode cX8_best 37 = .ok (.iconst 0, 1) := by decide +kernel
theorem dX8_best_38 : decode cX8_best 38 = .ok (.istore 4, 2) := by decide +kernel
theorem dX8_best_40 : decode cX8_best 40 = .ok (.iload 4, 2) := by decide +kernel
theorem dX8_best_42 : decode cX8_best 42 = .ok (.aload_n 0, 1) := by decide +kernel
theorem dX8_best_43 : decode cX8_best 43 = .ok (.getfield 9, 3) := by decide +kernel
theorem dX8_best_46 : decode cX8_best 46 = .ok (.iload_n 1, 1) := by decide +kernel
theorem dX8_best_47 : decode cX8_best 47 = .ok (.iaload, 1) := by decide +kernel
theorem dX8_best_48 : decode cX8_best 48 = .ok (.if_icmp .ge 17, 3) := by decide +kernel
theorem dX8_best_51 : decode cX8_best 51 = .ok (.aload_n 0, 1) := by decide +kernel
theorem dX8_best_52 : decode cX8_best 52 = .ok (.getfield 59, 3) := by decide +kernel
theorem dX8_best_55 : decode cX8_best 55 = .ok (.iload 4, 2) := by decide +kernel
theorem dX8_best_57 : decode cX8_best 57 = .ok (.iconst 0, 1) := by decide +kernel
theorem dX8_best_58 : decode cX8_best 58 = .ok (.iastore, 1) := by decide +kernel
theorem dX8_best_59 : decode cX8_best 59 = .ok (.iinc 4 1, 3) := by decide +kernel
theorem dX8_best_62 : decode cX8_best 62 = .ok (.goto (-22), 3) := by decide +kernel
theorem dX8_best_65 : decode cX8_best 65 = .ok (.iconst (-1), 1) := by decide +kernel
theorem dX8_best_66 : decode cX8_best 66 = .ok (.istore 4, 2) := by decide +kernel
theorem dX8_best_68 : decode cX8_best 68 = .ok (.iconst 0, 1) := by decide +kernel
theorem dX8_best_69 : decode cX8_best 69 = .ok (.istore 5, 2) := by decide +kernel
theorem dX8_best_71 : decode cX8_best 71 = .ok (.iconst 0, 1) := by decide +kernel
theorem dX8_best_72 : decode cX8_best 72 = .ok (.istore 6, 2) := by decide +kernel
theorem dX8_best_74 : decode cX8_best 74 = .ok (.iload 6, 2) := by decide +kernel
theorem dX8_best_76 : decode cX8_best 76 = .ok (.iload_n 2, 1) := by decide +kernel
theorem dX8_best_77 : decode cX8_best 77 = .ok (.if_icmp .gt 177, 3) := by decide +kernel
theorem dX8_best_80 : decode cX8_best 80 = .ok (.iconst (-1), 1) := by decide +kernel
theorem dX8_best_81 : decode cX8_best 81 = .ok (.istore 4, 2) := by decide +kernel
theorem dX8_best_83 : decode cX8_best 83 = .ok (.iconst 0, 1) := by decide +kernel
theorem dX8_best_84 : decode cX8_best 84 = .ok (.istore 7, 2) := by decide +kernel
theorem dX8_best_86 : decode cX8_best 86 = .ok (.iload 7, 2) := by decide +kernel
theorem dX8_best_88 : decode cX8_best 88 = .ok (.aload_n 0, 1) := by decide +kernel
theorem dX8_best_89 : decode cX8_best 89 = .ok (.getfield 9, 3) := by decide +kernel
theorem dX8_best_92 : decode cX8_best 92 = .ok (.iload_n 1, 1) := by decide +kernel
theorem dX8_best_93 : decode cX8_best 93 = .ok (.iaload, 1) := by decide +kernel
theorem dX8_best_94 : decode cX8_best 94 = .ok (.if_icmp .ge 127, 3) := by decide +kernel
theorem dX8_best_97 : decode cX8_best 97 = .ok (.aload_n 0, 1) := by decide +kernel
theorem dX8_best_98 : decode cX8_best 98 = .ok (.getfield 59, 3) := by decide +kernel
theorem dX8_best_101 : decode cX8_best 101 = .ok (.iload 7, 2) := by decide +kernel
theorem dX8_best_103 : decode cX8_best 103 = .ok (.iaload, 1) := by decide +kernel
theorem dX8_best_104 : decode cX8_best 104 = .ok (.aload_n 0, 1) := by decide +kernel
theorem dX8_best_105 : decode cX8_best 105 = .ok (.getfield 56, 3) := by decide +kernel
theorem dX8_best_108 : decode cX8_best 108 = .ok (.iload 7, 2) := by decide +kernel
theorem dX8_best_110 : decode cX8_best 110 = .ok (.iaload, 1) := by decide +kernel
theorem dX8_best_111 : decode cX8_best 111 = .ok (.if_icmp .ge 104, 3) := by decide +kernel
theorem dX8_best_114 : decode cX8_best 114 = .ok (.aload_n 0, 1) := by decide +kernel
theorem dX8_best_115 : decode cX8_best 115 = .ok (.getfield 19, 3) := by decide +kernel
theorem dX8_best_118 : decode cX8_best 118 = .ok (.iload_n 1, 1) := by decide +kernel
theorem dX8_best_119 : decode cX8_best 119 = .ok (.bipush 8, 2) := by decide +kernel
theorem dX8_best_121 : decode cX8_best 121 = .ok (.imul, 1) := by decide +kernel
theorem dX8_best_122 : decode cX8_best 122 = .ok (.iload 7, 2) := by decide +kernel
theorem dX8_best_124 : decode cX8_best 124 = .ok (.iadd, 1) := by decide +kernel
theorem dX8_best_125 : decode cX8_best 125 = .ok (.iaload, 1) := by decide +kernel
theorem dX8_best_126 : decode cX8_best 126 = .ok (.ifCond .ne 6, 3) := by decide +kernel
theorem dX8_best_129 : decode cX8_best 129 = .ok (.goto 86, 3) := by decide +kernel
theorem dX8_best_132 : decode cX8_best 132 = .ok (.aload_n 0, 1) := by decide +kernel
theorem dX8_best_133 : decode cX8_best 133 = .ok (.getfield 98, 3) := by decide +kernel
theorem dX8_best_136 : decode cX8_best 136 = .ok (.aload_n 0, 1) := by decide +kernel
theorem dX8_best_137 : decode cX8_best 137 = .ok (.getfield 19, 3) := by decide +kernel
theorem dX8_best_140 : decode cX8_best 140 = .ok (.iload_n 1, 1) := by decide +kernel
theorem dX8_best_141 : decode cX8_best 141 = .ok (.bipush 8, 2) := by decide +kernel
theorem dX8_best_143 : decode cX8_best 143 = .ok (.imul, 1) := by decide +kernel
theorem dX8_best_144 : decode cX8_best 144 = .ok (.iload 7, 2) := by decide +kernel
theorem dX8_best_146 : decode cX8_best 146 = .ok (.iadd, 1) := by decide +kernel
theorem dX8_best_147 : decode cX8_best 147 = .ok (.iaload, 1) := by decide +kernel
theorem dX8_best_148 : decode cX8_best 148 = .ok (.i2l, 1) := by decide +kernel
theorem dX8_best_149 : decode cX8_best 149 = .ok (.invokevirtual 132, 3) := by decide +kernel
theorem dX8_best_152 : decode cX8_best 152 = .ok (.aload_n 0, 1) := by decide +kernel
theorem dX8_best_153 : decode cX8_best 153 = .ok (.getfield 83, 3) := by decide +kernel
theorem dX8_best_156 : decode cX8_best 156 = .ok (.aload_n 0, 1) := by decide +kernel
theorem dX8_best_157 : decode cX8_best 157 = .ok (.getfield 47, 3) := by decide +kernel
theorem dX8_best_160 : decode cX8_best 160 = .ok (.iload 7, 2) := by decide +kernel
theorem dX8_best_162 : decode cX8_best 162 = .ok (.bipush 20, 2) := by decide +kernel
theorem dX8_best_164 : decode cX8_best 164 = .ok (.imul, 1) := by decide +kernel
theorem dX8_best_165 : decode cX8_best 165 = .ok (.aload_n 0, 1) := by decide +kernel
theorem dX8_best_166 : decode cX8_best 166 = .ok (.getfield 59, 3) := by decide +kernel
theorem dX8_best_169 : decode cX8_best 169 = .ok (.iload 7, 2) := by decide +kernel
theorem dX8_best_171 : decode cX8_best 171 = .ok (.iaload, 1) := by decide +kernel
theorem dX8_best_172 : decode cX8_best 172 = .ok (.iadd, 1) := by decide +kernel
theorem dX8_best_173 : decode cX8_best 173 = .ok (.aaload, 1) := by decide +kernel
theorem dX8_best_174 : decode cX8_best 174 = .ok (.aload_n 0, 1) := by decide +kernel
theorem dX8_best_175 : decode cX8_best 175 = .ok (.getfield 98, 3) := by decide +kernel
theorem dX8_best_178 : decode cX8_best 178 = .ok (.invokevirtual 136, 3) := by decide +kernel
theorem dX8_best_181 : decode cX8_best 181 = .ok (.iload 4, 2) := by decide +kernel
theorem dX8_best_183 : decode cX8_best 183 = .ok (.ifCond .lt 17, 3) := by decide +kernel
theorem dX8_best_186 : decode cX8_best 186 = .ok (.aload_n 0, 1) := by decide +kernel
theorem dX8_best_187 : decode cX8_best 187 = .ok (.getfield 83, 3) := by decide +kernel
theorem dX8_best_190 : decode cX8_best 190 = .ok (.aload_n 0, 1) := by decide +kernel
theorem dX8_best_191 : decode cX8_best 191 = .ok (.getfield 89, 3) := by decide +kernel
theorem dX8_best_194 : decode cX8_best 194 = .ok (.invokevirtual 178, 3) := by decide +kernel
theorem dX8_best_197 : decode cX8_best 197 = .ok (.ifCond .le 18, 3) := by decide +kernel
theorem dX8_best_200 : decode cX8_best 200 = .ok (.iload 7, 2) := by decide +kernel
theorem dX8_best_202 : decode cX8_best 202 = .ok (.istore 4, 2) := by decide +kernel
theorem dX8_best_204 : decode cX8_best 204 = .ok (.aload_n 0, 1) := by decide +kernel
theorem dX8_best_205 : decode cX8_best 205 = .ok (.getfield 89, 3) := by decide +kernel
theorem dX8_best_208 : decode cX8_best 208 = .ok (.aload_n 0, 1) := by decide +kernel
theorem dX8_best_209 : decode cX8_best 209 = .ok (.getfield 83, 3) := by decide +kernel
theorem dX8_best_212 : decode cX8_best 212 = .ok (.invokevirtual 143, 3) := by decide +kernel
theorem dX8_best_215 : decode cX8_best 215 = .ok (.iinc 7 1, 3) := by decide +kernel
theorem dX8_best_218 : decode cX8_best 218 = .ok (.goto (-132), 3) := by decide +kernel
theorem dX8_best_221 : decode cX8_best 221 = .ok (.iload 4, 2) := by decide +kernel
theorem dX8_best_223 : decode cX8_best 223 = .ok (.ifCond .ge 5, 3) := by decide +kernel
theorem dX8_best_226 : decode cX8_best 226 = .ok (.iconst 0, 1) := by decide +kernel
theorem dX8_best_227 : decode cX8_best 227 = .ok (.ireturn, 1) := by decide +kernel
theorem dX8_best_228 : decode cX8_best 228 = .ok (.aload_n 0, 1) := by decide +kernel
theorem dX8_best_229 : decode cX8_best 229 = .ok (.getfield 59, 3) := by decide +kernel
theorem dX8_best_232 : decode cX8_best 232 = .ok (.iload 4, 2) := by decide +kernel
theorem dX8_best_234 : decode cX8_best 234 = .ok (.iaload, 1) := by decide +kernel
theorem dX8_best_235 : decode cX8_best 235 = .ok (.istore 5, 2) := by decide +kernel
theorem dX8_best_237 : decode cX8_best 237 = .ok (.aload_n 0, 1) := by decide +kernel
theorem dX8_best_238 : decode cX8_best 238 = .ok (.getfield 59, 3) := by decide +kernel
theorem dX8_best_241 : decode cX8_best 241 = .ok (.iload 4, 2) := by decide +kernel
theorem dX8_best_243 : decode cX8_best 243 = .ok (.dup2, 1) := by decide +kernel
theorem dX8_best_244 : decode cX8_best 244 = .ok (.iaload, 1) := by decide +kernel
theorem dX8_best_245 : decode cX8_best 245 = .ok (.iconst 1, 1) := by decide +kernel
theorem dX8_best_246 : decode cX8_best 246 = .ok (.iadd, 1) := by decide +kernel
theorem dX8_best_247 : decode cX8_best 247 = .ok (.iastore, 1) := by decide +kernel
theorem dX8_best_248 : decode cX8_best 248 = .ok (.iinc 6 1, 3) := by decide +kernel
theorem dX8_best_251 : decode cX8_best 251 = .ok (.goto (-177), 3) := by decide +kernel
theorem dX8_best_254 : decode cX8_best 254 = .ok (.aload_n 0, 1) := by decide +kernel
theorem dX8_best_255 : decode cX8_best 255 = .ok (.getfield 36, 3) := by decide +kernel
theorem dX8_best_258 : decode cX8_best 258 = .ok (.aload_n 0, 1) := by decide +kernel
theorem dX8_best_259 : decode cX8_best 259 = .ok (.getfield 89, 3) := by decide +kernel
theorem dX8_best_262 : decode cX8_best 262 = .ok (.invokevirtual 143, 3) := by decide +kernel
theorem dX8_best_265 : decode cX8_best 265 = .ok (.aload_n 0, 1) := by decide +kernel
theorem dX8_best_266 : decode cX8_best 266 = .ok (.aload_n 0, 1) := by decide +kernel
theorem dX8_best_267 : decode cX8_best 267 = .ok (.getfield 126, 3) := by decide +kernel
theorem dX8_best_270 : decode cX8_best 270 = .ok (.putfield 189, 3) := by decide +kernel
theorem dX8_best_273 : decode cX8_best 273 = .ok (.iconst 0, 1) := by decide +kernel
theorem dX8_best_274 : decode cX8_best 274 = .ok (.istore 6, 2) := by decide +kernel
theorem dX8_best_276 : decode cX8_best 276 = .ok (.iload 6, 2) := by decide +kernel
theorem dX8_best_278 : decode cX8_best 278 = .ok (.aload_n 0, 1) := by decide +kernel
theorem dX8_best_279 : decode cX8_best 279 = .ok (.getfield 126, 3) := by decide +kernel
theorem dX8_best_282 : decode cX8_best 282 = .ok (.if_icmp .ge 52, 3) := by decide +kernel
theorem dX8_best_285 : decode cX8_best 285 = .ok (.aload_n 0, 1) := by decide +kernel
theorem dX8_best_286 : decode cX8_best 286 = .ok (.getfield 62, 3) := by decide +kernel
theorem dX8_best_289 : decode cX8_best 289 = .ok (.iload 6, 2) := by decide +kernel
theorem dX8_best_291 : decode cX8_best 291 = .ok (.iload 4, 2) := by decide +kernel
theorem dX8_best_293 : decode cX8_best 293 = .ok (.iastore, 1) := by decide +kernel
theorem dX8_best_294 : decode cX8_best 294 = .ok (.iload 6, 2) := by decide +kernel
theorem dX8_best_296 : decode cX8_best 296 = .ok (.bipush 8, 2) := by decide +kernel
theorem dX8_best_298 : decode cX8_best 298 = .ok (.imul, 1) := by decide +kernel
theorem dX8_best_299 : decode cX8_best 299 = .ok (.iload 4, 2) := by decide +kernel
theorem dX8_best_301 : decode cX8_best 301 = .ok (.iadd, 1) := by decide +kernel
theorem dX8_best_302 : decode cX8_best 302 = .ok (.bipush 20, 2) := by decide +kernel
theorem dX8_best_304 : decode cX8_best 304 = .ok (.imul, 1) := by decide +kernel
theorem dX8_best_305 : decode cX8_best 305 = .ok (.iload 5, 2) := by decide +kernel
theorem dX8_best_307 : decode cX8_best 307 = .ok (.iadd, 1) := by decide +kernel
theorem dX8_best_308 : decode cX8_best 308 = .ok (.istore 7, 2) := by decide +kernel
theorem dX8_best_310 : decode cX8_best 310 = .ok (.aload_n 0, 1) := by decide +kernel
theorem dX8_best_311 : decode cX8_best 311 = .ok (.getfield 50, 3) := by decide +kernel
theorem dX8_best_314 : decode cX8_best 314 = .ok (.iload 7, 2) := by decide +kernel
theorem dX8_best_316 : decode cX8_best 316 = .ok (.iaload, 1) := by decide +kernel
theorem dX8_best_317 : decode cX8_best 317 = .ok (.istore 4, 2) := by decide +kernel
theorem dX8_best_319 : decode cX8_best 319 = .ok (.aload_n 0, 1) := by decide +kernel
theorem dX8_best_320 : decode cX8_best 320 = .ok (.getfield 53, 3) := by decide +kernel
theorem dX8_best_323 : decode cX8_best 323 = .ok (.iload 7, 2) := by decide +kernel
theorem dX8_best_325 : decode cX8_best 325 = .ok (.iaload, 1) := by decide +kernel
theorem dX8_best_326 : decode cX8_best 326 = .ok (.istore 5, 2) := by decide +kernel
theorem dX8_best_328 : decode cX8_best 328 = .ok (.iinc 6 1, 3) := by decide +kernel
theorem dX8_best_331 : decode cX8_best 331 = .ok (.goto (-55), 3) := by decide +kernel
theorem dX8_best_334 : decode cX8_best 334 = .ok (.aload_n 0, 1) := by decide +kernel
theorem dX8_best_335 : decode cX8_best 335 = .ok (.invokevirtual 171, 3) := by decide +kernel
theorem dX8_best_338 : decode cX8_best 338 = .ok (.ireturn, 1) := by decide +kernel
theorem dX8_state_0 : decode cX8_state 0 = .ok (.iload_n 1, 1) := by decide +kernel
theorem dX8_state_1 : decode cX8_state 1 = .ok (.ifCond .lt 20, 3) := by decide +kernel
theorem dX8_state_4 : decode cX8_state 4 = .ok (.iload_n 1, 1) := by decide +kernel
theorem dX8_state_5 : decode cX8_state 5 = .ok (.aload_n 0, 1) := by decide +kernel
theorem dX8_state_6 : decode cX8_state 6 = .ok (.getfield 189, 3) := by decide +kernel
theorem dX8_state_9 : decode cX8_state 9 = .ok (.if_icmp .ge 12, 3) := by decide +kernel
theorem dX8_state_12 : decode cX8_state 12 = .ok (.aload_n 0, 1) := by decide +kernel
theorem dX8_state_13 : decode cX8_state 13 = .ok (.getfield 62, 3) := by decide +kernel
theorem dX8_state_16 : decode cX8_state 16 = .ok (.iload_n 1, 1) := by decide +kernel
theorem dX8_state_17 : decode cX8_state 17 = .ok (.iaload, 1) := by decide +kernel
theorem dX8_state_18 : decode cX8_state 18 = .ok (.goto 4, 3) := by decide +kernel
theorem dX8_state_21 : decode cX8_state 21 = .ok (.iconst (-1), 1) := by decide +kernel
theorem dX8_state_22 : decode cX8_state 22 = .ok (.ireturn, 1) := by decide +kernel
theorem dX8_power_0 : decode cX8_power 0 = .ok (.aload_n 3, 1) := by decide +kernel
theorem dX8_power_1 : decode cX8_power 1 = .ok (.lconst 1, 1) := by decide +kernel
theorem dX8_power_2 : decode cX8_power 2 = .ok (.invokevirtual 132, 3) := by decide +kernel
theorem dX8_power_5 : decode cX8_power 5 = .ok (.aload_n 0, 1) := by decide +kernel
theorem dX8_power_6 : decode cX8_power 6 = .ok (.getfield 98, 3) := by decide +kernel
theorem dX8_power_9 : decode cX8_power 9 = .ok (.iload_n 1, 1) := by decide +kernel
theorem dX8_power_10 : decode cX8_power 10 = .ok (.i2l, 1) := by decide +kernel
theorem dX8_power_11 : decode cX8_power 11 = .ok (.invokevirtual 132, 3) := by decide +kernel
theorem dX8_power_14 : decode cX8_power 14 = .ok (.iconst 0, 1) := by decide +kernel
theorem dX8_power_15 : decode cX8_power 15 = .ok (.istore 4, 2) := by decide +kernel
theorem dX8_power_17 : decode cX8_power 17 = .ok (.iload 4, 2) := by decide +kernel
theorem dX8_power_19 : decode cX8_power 19 = .ok (.iload_n 2, 1) := by decide +kernel
theorem dX8_power_20 : decode cX8_power 20 = .ok (.if_icmp .ge 29, 3) := by decide +kernel
theorem dX8_power_23 : decode cX8_power 23 = .ok (.aload_n 0, 1) := by decide +kernel
theorem dX8_power_24 : decode cX8_power 24 = .ok (.getfield 83, 3) := by decide +kernel
theorem dX8_power_27 : decode cX8_power 27 = .ok (.aload_n 3, 1) := by decide +kernel
theorem dX8_power_28 : decode cX8_power 28 = .ok (.aload_n 0, 1) := by decide +kernel
theorem dX8_power_29 : decode cX8_power 29 = .ok (.getfield 98, 3) := by decide +kernel
theorem dX8_power_32 : decode cX8_power 32 = .ok (.invokevirtual 136, 3) := by decide +kernel
theorem dX8_power_35 : decode cX8_power 35 = .ok (.aload_n 3, 1) := by decide +kernel
theorem dX8_power_36 : decode cX8_power 36 = .ok (.aload_n 0, 1) := by decide +kernel
theorem dX8_power_37 : decode cX8_power 37 = .ok (.getfield 83, 3) := by decide +kernel
theorem dX8_power_40 : decode cX8_power 40 = .ok (.invokevirtual 143, 3) := by decide +kernel
theorem dX8_power_43 : decode cX8_power 43 = .ok (.iinc 4 1, 3) := by decide +kernel
theorem dX8_power_46 : decode cX8_power 46 = .ok (.goto (-29), 3) := by decide +kernel
theorem dX8_power_49 : decode cX8_power 49 = .ok (.return_, 1) := by decide +kernel
theorem dX8_compare_0 : decode cX8_compare 0 = .ok (.aload_n 0, 1) := by decide +kernel
theorem dX8_compare_1 : decode cX8_compare 1 = .ok (.iload_n 1, 1) := by decide +kernel
theorem dX8_compare_2 : decode cX8_compare 2 = .ok (.invokevirtual 105, 3) := by decide +kernel
theorem dX8_compare_5 : decode cX8_compare 5 = .ok (.ifCond .eq 27, 3) := by decide +kernel
theorem dX8_compare_8 : decode cX8_compare 8 = .ok (.aload_n 0, 1) := by decide +kernel
theorem dX8_compare_9 : decode cX8_compare 9 = .ok (.iload_n 2, 1) := by decide +kernel
theorem dX8_compare_10 : decode cX8_compare 10 = .ok (.invokevirtual 105, 3) := by decide +kernel
theorem dX8_compare_13 : decode cX8_compare 13 = .ok (.ifCond .eq 19, 3) := by decide +kernel
theorem dX8_compare_16 : decode cX8_compare 16 = .ok (.aload_n 0, 1) := by decide +kernel
theorem dX8_compare_17 : decode cX8_compare 17 = .ok (.iload_n 1, 1) := by decide +kernel
theorem dX8_compare_18 : decode cX8_compare 18 = .ok (.invokevirtual 164, 3) := by decide +kernel
theorem dX8_compare_21 : decode cX8_compare 21 = .ok (.ifCond .ne 11, 3) := by decide +kernel
theorem dX8_compare_24 : decode cX8_compare 24 = .ok (.aload_n 0, 1) := by decide +kernel
theorem dX8_compare_25 : decode cX8_compare 25 = .ok (.iload_n 2, 1) := by decide +kernel
theorem dX8_compare_26 : decode cX8_compare 26 = .ok (.invokevirtual 164, 3) := by decide +kernel
theorem dX8_compare_29 : decode cX8_compare 29 = .ok (.ifCond .eq 6, 3) := by decide +kernel
theorem dX8_compare_32 : decode cX8_compare 32 = .ok (.bipush (-2), 2) := by decide +kernel
theorem dX8_compare_34 : decode cX8_compare 34 = .ok (.ireturn, 1) := by decide +kernel
theorem dX8_compare_35 : decode cX8_compare 35 = .ok (.aload_n 0, 1) := by decide +kernel
theorem dX8_compare_36 : decode cX8_compare 36 = .ok (.iload_n 1, 1) := by decide +kernel
theorem dX8_compare_37 : decode cX8_compare 37 = .ok (.aload_n 0, 1) := by decide +kernel
theorem dX8_compare_38 : decode cX8_compare 38 = .ok (.getfield 89, 3) := by decide +kernel
theorem dX8_compare_41 : decode cX8_compare 41 = .ok (.invokevirtual 167, 3) := by decide +kernel
theorem dX8_compare_44 : decode cX8_compare 44 = .ok (.aload_n 0, 1) := by decide +kernel
theorem dX8_compare_45 : decode cX8_compare 45 = .ok (.aload_n 0, 1) := by decide +kernel
theorem dX8_compare_46 : decode cX8_compare 46 = .ok (.getfield 16, 3) := by decide +kernel
theorem dX8_compare_49 : decode cX8_compare 49 = .ok (.iload_n 2, 1) := by decide +kernel
theorem dX8_compare_50 : decode cX8_compare 50 = .ok (.iaload, 1) := by decide +kernel
theorem dX8_compare_51 : decode cX8_compare 51 = .ok (.iconst 2, 1) := by decide +kernel
theorem dX8_compare_52 : decode cX8_compare 52 = .ok (.aload_n 0, 1) := by decide +kernel
theorem dX8_compare_53 : decode cX8_compare 53 = .ok (.getfield 126, 3) := by decide +kernel
theorem dX8_compare_56 : decode cX8_compare 56 = .ok (.imul, 1) := by decide +kernel
theorem dX8_compare_57 : decode cX8_compare 57 = .ok (.aload_n 0, 1) := by decide +kernel
theorem dX8_compare_58 : decode cX8_compare 58 = .ok (.getfield 92, 3) := by decide +kernel
theorem dX8_compare_61 : decode cX8_compare 61 = .ok (.invokevirtual 192, 3) := by decide +kernel
theorem dX8_compare_64 : decode cX8_compare 64 = .ok (.aload_n 0, 1) := by decide +kernel
theorem dX8_compare_65 : decode cX8_compare 65 = .ok (.getfield 95, 3) := by decide +kernel
theorem dX8_compare_68 : decode cX8_compare 68 = .ok (.aload_n 0, 1) := by decide +kernel
theorem dX8_compare_69 : decode cX8_compare 69 = .ok (.getfield 89, 3) := by decide +kernel
theorem dX8_compare_72 : decode cX8_compare 72 = .ok (.aload_n 0, 1) := by decide +kernel
theorem dX8_compare_73 : decode cX8_compare 73 = .ok (.getfield 92, 3) := by decide +kernel
theorem dX8_compare_76 : decode cX8_compare 76 = .ok (.invokevirtual 136, 3) := by decide +kernel
theorem dX8_compare_79 : decode cX8_compare 79 = .ok (.aload_n 0, 1) := by decide +kernel
theorem dX8_compare_80 : decode cX8_compare 80 = .ok (.iload_n 2, 1) := by decide +kernel
theorem dX8_compare_81 : decode cX8_compare 81 = .ok (.aload_n 0, 1) := by decide +kernel
theorem dX8_compare_82 : decode cX8_compare 82 = .ok (.getfield 89, 3) := by decide +kernel
theorem dX8_compare_85 : decode cX8_compare 85 = .ok (.invokevirtual 167, 3) := by decide +kernel
theorem dX8_compare_88 : decode cX8_compare 88 = .ok (.aload_n 0, 1) := by decide +kernel
theorem dX8_compare_89 : decode cX8_compare 89 = .ok (.aload_n 0, 1) := by decide +kernel
theorem dX8_compare_90 : decode cX8_compare 90 = .ok (.getfield 16, 3) := by decide +kernel
theorem dX8_compare_93 : decode cX8_compare 93 = .ok (.iload_n 1, 1) := by decide +kernel
theorem dX8_compare_94 : decode cX8_compare 94 = .ok (.iaload, 1) := by decide +kernel
theorem dX8_compare_95 : decode cX8_compare 95 = .ok (.iconst 2, 1) := by decide +kernel
theorem dX8_compare_96 : decode cX8_compare 96 = .ok (.aload_n 0, 1) := by decide +kernel
theorem dX8_compare_97 : decode cX8_compare 97 = .ok (.getfield 126, 3) := by decide +kernel
theorem dX8_compare_100 : decode cX8_compare 100 = .ok (.imul, 1) := by decide +kernel
theorem dX8_compare_101 : decode cX8_compare 101 = .ok (.aload_n 0, 1) := by decide +kernel
theorem dX8_compare_102 : decode cX8_compare 102 = .ok (.getfield 92, 3) := by decide +kernel
theorem dX8_compare_105 : decode cX8_compare 105 = .ok (.invokevirtual 192, 3) := by decide +kernel
theorem dX8_compare_108 : decode cX8_compare 108 = .ok (.aload_n 0, 1) := by decide +kernel
theorem dX8_compare_109 : decode cX8_compare 109 = .ok (.getfield 86, 3) := by decide +kernel
theorem dX8_compare_112 : decode cX8_compare 112 = .ok (.aload_n 0, 1) := by decide +kernel
theorem dX8_compare_113 : decode cX8_compare 113 = .ok (.getfield 89, 3) := by decide +kernel
theorem dX8_compare_116 : decode cX8_compare 116 = .ok (.aload_n 0, 1) := by decide +kernel
theorem dX8_compare_117 : decode cX8_compare 117 = .ok (.getfield 92, 3) := by decide +kernel
theorem dX8_compare_120 : decode cX8_compare 120 = .ok (.invokevirtual 136, 3) := by decide +kernel
theorem dX8_compare_123 : decode cX8_compare 123 = .ok (.aload_n 0, 1) := by decide +kernel
theorem dX8_compare_124 : decode cX8_compare 124 = .ok (.getfield 95, 3) := by decide +kernel
theorem dX8_compare_127 : decode cX8_compare 127 = .ok (.aload_n 0, 1) := by decide +kernel
theorem dX8_compare_128 : decode cX8_compare 128 = .ok (.getfield 86, 3) := by decide +kernel
theorem dX8_compare_131 : decode cX8_compare 131 = .ok (.invokevirtual 178, 3) := by decide +kernel
theorem dX8_compare_134 : decode cX8_compare 134 = .ok (.ireturn, 1) := by decide +kernel
theorem dX8_goOn_0 : decode cX8_goOn 0 = .ok (.iconst 0, 1) := by decide +kernel
theorem dX8_goOn_1 : decode cX8_goOn 1 = .ok (.istore 6, 2) := by decide +kernel
theorem dX8_goOn_3 : decode cX8_goOn 3 = .ok (.iload 6, 2) := by decide +kernel
theorem dX8_goOn_5 : decode cX8_goOn 5 = .ok (.bipush 16, 2) := by decide +kernel
theorem dX8_goOn_7 : decode cX8_goOn 7 = .ok (.if_icmp .ge 25, 3) := by decide +kernel
theorem dX8_goOn_10 : decode cX8_goOn 10 = .ok (.aload_n 0, 1) := by decide +kernel
theorem dX8_goOn_11 : decode cX8_goOn 11 = .ok (.getfield 65, 3) := by decide +kernel
theorem dX8_goOn_14 : decode cX8_goOn 14 = .ok (.iload 5, 2) := by decide +kernel
theorem dX8_goOn_16 : decode cX8_goOn 16 = .ok (.bipush 16, 2) := by decide +kernel
theorem dX8_goOn_18 : decode cX8_goOn 18 = .ok (.imul, 1) := by decide +kernel
theorem dX8_goOn_19 : decode cX8_goOn 19 = .ok (.iload 6, 2) := by decide +kernel
theorem dX8_goOn_21 : decode cX8_goOn 21 = .ok (.iadd, 1) := by decide +kernel
theorem dX8_goOn_22 : decode cX8_goOn 22 = .ok (.aaload, 1) := by decide +kernel
theorem dX8_goOn_23 : decode cX8_goOn 23 = .ok (.invokevirtual 147, 3) := by decide +kernel
theorem dX8_goOn_26 : decode cX8_goOn 26 = .ok (.iinc 6 1, 3) := by decide +kernel
theorem dX8_goOn_29 : decode cX8_goOn 29 = .ok (.goto (-26), 3) := by decide +kernel
theorem dX8_goOn_32 : decode cX8_goOn 32 = .ok (.iconst 0, 1) := by decide +kernel
theorem dX8_goOn_33 : decode cX8_goOn 33 = .ok (.istore 6, 2) := by decide +kernel
theorem dX8_goOn_35 : decode cX8_goOn 35 = .ok (.iload 6, 2) := by decide +kernel
theorem dX8_goOn_37 : decode cX8_goOn 37 = .ok (.aload_n 0, 1) := by decide +kernel
theorem dX8_goOn_38 : decode cX8_goOn 38 = .ok (.getfield 9, 3) := by decide +kernel
theorem dX8_goOn_41 : decode cX8_goOn 41 = .ok (.iload_n 1, 1) := by decide +kernel
theorem dX8_goOn_42 : decode cX8_goOn 42 = .ok (.iaload, 1) := by decide +kernel
theorem dX8_goOn_43 : decode cX8_goOn 43 = .ok (.if_icmp .ge 77, 3) := by decide +kernel
theorem dX8_goOn_46 : decode cX8_goOn 46 = .ok (.iconst 0, 1) := by decide +kernel
theorem dX8_goOn_47 : decode cX8_goOn 47 = .ok (.istore 7, 2) := by decide +kernel
theorem dX8_goOn_49 : decode cX8_goOn 49 = .ok (.iload 7, 2) := by decide +kernel
theorem dX8_goOn_51 : decode cX8_goOn 51 = .ok (.aload_n 0, 1) := by decide +kernel
theorem dX8_goOn_52 : decode cX8_goOn 52 = .ok (.getfield 9, 3) := by decide +kernel
theorem dX8_goOn_55 : decode cX8_goOn 55 = .ok (.iload_n 1, 1) := by decide +kernel
theorem dX8_goOn_56 : decode cX8_goOn 56 = .ok (.iaload, 1) := by decide +kernel
theorem dX8_goOn_57 : decode cX8_goOn 57 = .ok (.if_icmp .ge 57, 3) := by decide +kernel
theorem dX8_goOn_60 : decode cX8_goOn 60 = .ok (.aload_n 0, 1) := by decide +kernel
theorem dX8_goOn_61 : decode cX8_goOn 61 = .ok (.aload_n 0, 1) := by decide +kernel
theorem dX8_goOn_62 : decode cX8_goOn 62 = .ok (.getfield 65, 3) := by decide +kernel
theorem dX8_goOn_65 : decode cX8_goOn 65 = .ok (.iload 5, 2) := by decide +kernel
theorem dX8_goOn_67 : decode cX8_goOn 67 = .ok (.bipush 16, 2) := by decide +kernel
theorem dX8_goOn_69 : decode cX8_goOn 69 = .ok (.imul, 1) := by decide +kernel
theorem dX8_goOn_70 : decode cX8_goOn 70 = .ok (.iload 6, 2) := by decide +kernel
theorem dX8_goOn_72 : decode cX8_goOn 72 = .ok (.iadd, 1) := by decide +kernel
theorem dX8_goOn_73 : decode cX8_goOn 73 = .ok (.aaload, 1) := by decide +kernel
theorem dX8_goOn_74 : decode cX8_goOn 74 = .ok (.aload_n 0, 1) := by decide +kernel
theorem dX8_goOn_75 : decode cX8_goOn 75 = .ok (.getfield 65, 3) := by decide +kernel
theorem dX8_goOn_78 : decode cX8_goOn 78 = .ok (.iload_n 3, 1) := by decide +kernel
theorem dX8_goOn_79 : decode cX8_goOn 79 = .ok (.bipush 16, 2) := by decide +kernel
theorem dX8_goOn_81 : decode cX8_goOn 81 = .ok (.imul, 1) := by decide +kernel
theorem dX8_goOn_82 : decode cX8_goOn 82 = .ok (.iload 7, 2) := by decide +kernel
theorem dX8_goOn_84 : decode cX8_goOn 84 = .ok (.iadd, 1) := by decide +kernel
theorem dX8_goOn_85 : decode cX8_goOn 85 = .ok (.aaload, 1) := by decide +kernel
theorem dX8_goOn_86 : decode cX8_goOn 86 = .ok (.aload_n 0, 1) := by decide +kernel
theorem dX8_goOn_87 : decode cX8_goOn 87 = .ok (.iload_n 1, 1) := by decide +kernel
theorem dX8_goOn_88 : decode cX8_goOn 88 = .ok (.iload 7, 2) := by decide +kernel
theorem dX8_goOn_90 : decode cX8_goOn 90 = .ok (.iload 4, 2) := by decide +kernel
theorem dX8_goOn_92 : decode cX8_goOn 92 = .ok (.invokevirtual 120, 3) := by decide +kernel
theorem dX8_goOn_95 : decode cX8_goOn 95 = .ok (.aload_n 0, 1) := by decide +kernel
theorem dX8_goOn_96 : decode cX8_goOn 96 = .ok (.iload_n 1, 1) := by decide +kernel
theorem dX8_goOn_97 : decode cX8_goOn 97 = .ok (.iload 7, 2) := by decide +kernel
theorem dX8_goOn_99 : decode cX8_goOn 99 = .ok (.iload 6, 2) := by decide +kernel
theorem dX8_goOn_101 : decode cX8_goOn 101 = .ok (.invokevirtual 116, 3) := by decide +kernel
theorem dX8_goOn_104 : decode cX8_goOn 104 = .ok (.imul, 1) := by decide +kernel
theorem dX8_goOn_105 : decode cX8_goOn 105 = .ok (.invokevirtual 150, 3) := by decide +kernel
theorem dX8_goOn_108 : decode cX8_goOn 108 = .ok (.iinc 7 1, 3) := by decide +kernel
theorem dX8_goOn_111 : decode cX8_goOn 111 = .ok (.goto (-62), 3) := by decide +kernel
theorem dX8_goOn_114 : decode cX8_goOn 114 = .ok (.iinc 6 1, 3) := by decide +kernel
theorem dX8_goOn_117 : decode cX8_goOn 117 = .ok (.goto (-82), 3) := by decide +kernel
theorem dX8_goOn_120 : decode cX8_goOn 120 = .ok (.iconst 0, 1) := by decide +kernel
theorem dX8_goOn_121 : decode cX8_goOn 121 = .ok (.istore 6, 2) := by decide +kernel
theorem dX8_goOn_123 : decode cX8_goOn 123 = .ok (.iload 6, 2) := by decide +kernel
theorem dX8_goOn_125 : decode cX8_goOn 125 = .ok (.aload_n 0, 1) := by decide +kernel
theorem dX8_goOn_126 : decode cX8_goOn 126 = .ok (.getfield 9, 3) := by decide +kernel
theorem dX8_goOn_129 : decode cX8_goOn 129 = .ok (.iload_n 2, 1) := by decide +kernel
theorem dX8_goOn_130 : decode cX8_goOn 130 = .ok (.iaload, 1) := by decide +kernel
theorem dX8_goOn_131 : decode cX8_goOn 131 = .ok (.if_icmp .ge 83, 3) := by decide +kernel
theorem dX8_goOn_134 : decode cX8_goOn 134 = .ok (.iconst 0, 1) := by decide +kernel
theorem dX8_goOn_135 : decode cX8_goOn 135 = .ok (.istore 7, 2) := by decide +kernel
theorem dX8_goOn_137 : decode cX8_goOn 137 = .ok (.iload 7, 2) := by decide +kernel
theorem dX8_goOn_139 : decode cX8_goOn 139 = .ok (.aload_n 0, 1) := by decide +kernel
theorem dX8_goOn_140 : decode cX8_goOn 140 = .ok (.getfield 9, 3) := by decide +kernel
theorem dX8_goOn_143 : decode cX8_goOn 143 = .ok (.iload_n 2, 1) := by decide +kernel
theorem dX8_goOn_144 : decode cX8_goOn 144 = .ok (.iaload, 1) := by decide +kernel
theorem dX8_goOn_145 : decode cX8_goOn 145 = .ok (.if_icmp .ge 63, 3) := by decide +kernel
theorem dX8_goOn_148 : decode cX8_goOn 148 = .ok (.aload_n 0, 1) := by decide +kernel
theorem dX8_goOn_149 : decode cX8_goOn 149 = .ok (.aload_n 0, 1) := by decide +kernel
theorem dX8_goOn_150 : decode cX8_goOn 150 = .ok (.getfield 65, 3) := by decide +kernel
theorem dX8_goOn_153 : decode cX8_goOn 153 = .ok (.iload 5, 2) := by decide +kernel
theorem dX8_goOn_155 : decode cX8_goOn 155 = .ok (.bipush 16, 2) := by decide +kernel
theorem dX8_goOn_157 : decode cX8_goOn 157 = .ok (.imul, 1) := by decide +kernel
theorem dX8_goOn_158 : decode cX8_goOn 158 = .ok (.bipush 8, 2) := by decide +kernel
theorem dX8_goOn_160 : decode cX8_goOn 160 = .ok (.iadd, 1) := by decide +kernel
theorem dX8_goOn_161 : decode cX8_goOn 161 = .ok (.iload 6, 2) := by decide +kernel
theorem dX8_goOn_163 : decode cX8_goOn 163 = .ok (.iadd, 1) := by decide +kernel
theorem dX8_goOn_164 : decode cX8_goOn 164 = .ok (.aaload, 1) := by decide +kernel
theorem dX8_goOn_165 : decode cX8_goOn 165 = .ok (.aload_n 0, 1) := by decide +kernel
theorem dX8_goOn_166 : decode cX8_goOn 166 = .ok (.getfield 65, 3) := by decide +kernel
theorem dX8_goOn_169 : decode cX8_goOn 169 = .ok (.iload_n 3, 1) := by decide +kernel
theorem dX8_goOn_170 : decode cX8_goOn 170 = .ok (.bipush 16, 2) := by decide +kernel
theorem dX8_goOn_172 : decode cX8_goOn 172 = .ok (.imul, 1) := by decide +kernel
theorem dX8_goOn_173 : decode cX8_goOn 173 = .ok (.bipush 8, 2) := by decide +kernel
theorem dX8_goOn_175 : decode cX8_goOn 175 = .ok (.iadd, 1) := by decide +kernel
theorem dX8_goOn_176 : decode cX8_goOn 176 = .ok (.iload 7, 2) := by decide +kernel
theorem dX8_goOn_178 : decode cX8_goOn 178 = .ok (.iadd, 1) := by decide +kernel
theorem dX8_goOn_179 : decode cX8_goOn 179 = .ok (.aaload, 1) := by decide +kernel
theorem dX8_goOn_180 : decode cX8_goOn 180 = .ok (.aload_n 0, 1) := by decide +kernel
theorem dX8_goOn_181 : decode cX8_goOn 181 = .ok (.iload_n 2, 1) := by decide +kernel
theorem dX8_goOn_182 : decode cX8_goOn 182 = .ok (.iload 7, 2) := by decide +kernel
theorem dX8_goOn_184 : decode cX8_goOn 184 = .ok (.iload 4, 2) := by decide +kernel
theorem dX8_goOn_186 : decode cX8_goOn 186 = .ok (.invokevirtual 120, 3) := by decide +kernel
theorem dX8_goOn_189 : decode cX8_goOn 189 = .ok (.aload_n 0, 1) := by decide +kernel
theorem dX8_goOn_190 : decode cX8_goOn 190 = .ok (.iload_n 2, 1) := by decide +kernel
theorem dX8_goOn_191 : decode cX8_goOn 191 = .ok (.iload 7, 2) := by decide +kernel
theorem dX8_goOn_193 : decode cX8_goOn 193 = .ok (.iload 6, 2) := by decide +kernel
theorem dX8_goOn_195 : decode cX8_goOn 195 = .ok (.invokevirtual 116, 3) := by decide +kernel
theorem dX8_goOn_198 : decode cX8_goOn 198 = .ok (.imul, 1) := by decide +kernel
theorem dX8_goOn_199 : decode cX8_goOn 199 = .ok (.invokevirtual 150, 3) := by decide +kernel
theorem dX8_goOn_202 : decode cX8_goOn 202 = .ok (.iinc 7 1, 3) := by decide +kernel
theorem dX8_goOn_205 : decode cX8_goOn 205 = .ok (.goto (-68), 3) := by decide +kernel
theorem dX8_goOn_208 : decode cX8_goOn 208 = .ok (.iinc 6 1, 3) := by decide +kernel
theorem dX8_goOn_211 : decode cX8_goOn 211 = .ok (.goto (-88), 3) := by decide +kernel
theorem dX8_goOn_214 : decode cX8_goOn 214 = .ok (.return_, 1) := by decide +kernel
theorem dX8_isAlike_0 : decode cX8_isAlike 0 = .ok (.aload_n 0, 1) := by decide +kernel
theorem dX8_isAlike_1 : decode cX8_isAlike 1 = .ok (.getfield 89, 3) := by decide +kernel
theorem dX8_isAlike_4 : decode cX8_isAlike 4 = .ok (.invokevirtual 147, 3) := by decide +kernel
theorem dX8_isAlike_7 : decode cX8_isAlike 7 = .ok (.aload_n 0, 1) := by decide +kernel
theorem dX8_isAlike_8 : decode cX8_isAlike 8 = .ok (.getfield 92, 3) := by decide +kernel
theorem dX8_isAlike_11 : decode cX8_isAlike 11 = .ok (.invokevirtual 147, 3) := by decide +kernel
theorem dX8_isAlike_14 : decode cX8_isAlike 14 = .ok (.iconst 0, 1) := by decide +kernel
theorem dX8_isAlike_15 : decode cX8_isAlike 15 = .ok (.istore_n 2, 1) := by decide +kernel
theorem dX8_isAlike_16 : decode cX8_isAlike 16 = .ok (.iload_n 2, 1) := by decide +kernel
theorem dX8_isAlike_17 : decode cX8_isAlike 17 = .ok (.bipush 8, 2) := by decide +kernel
theorem dX8_isAlike_19 : decode cX8_isAlike 19 = .ok (.if_icmp .ge 78, 3) := by decide +kernel
theorem dX8_isAlike_22 : decode cX8_isAlike 22 = .ok (.aload_n 0, 1) := by decide +kernel
theorem dX8_isAlike_23 : decode cX8_isAlike 23 = .ok (.getfield 83, 3) := by decide +kernel
theorem dX8_isAlike_26 : decode cX8_isAlike 26 = .ok (.aload_n 0, 1) := by decide +kernel
theorem dX8_isAlike_27 : decode cX8_isAlike 27 = .ok (.getfield 89, 3) := by decide +kernel
theorem dX8_isAlike_30 : decode cX8_isAlike 30 = .ok (.aload_n 0, 1) := by decide +kernel
theorem dX8_isAlike_31 : decode cX8_isAlike 31 = .ok (.getfield 65, 3) := by decide +kernel
theorem dX8_isAlike_34 : decode cX8_isAlike 34 = .ok (.iload_n 1, 1) := by decide +kernel
theorem dX8_isAlike_35 : decode cX8_isAlike 35 = .ok (.bipush 16, 2) := by decide +kernel
theorem dX8_isAlike_37 : decode cX8_isAlike 37 = .ok (.imul, 1) := by decide +kernel
theorem dX8_isAlike_38 : decode cX8_isAlike 38 = .ok (.iload_n 2, 1) := by decide +kernel
theorem dX8_isAlike_39 : decode cX8_isAlike 39 = .ok (.iadd, 1) := by decide +kernel
theorem dX8_isAlike_40 : decode cX8_isAlike 40 = .ok (.aaload, 1) := by decide +kernel
theorem dX8_isAlike_41 : decode cX8_isAlike 41 = .ok (.invokevirtual 140, 3) := by decide +kernel
theorem dX8_isAlike_44 : decode cX8_isAlike 44 = .ok (.aload_n 0, 1) := by decide +kernel
theorem dX8_isAlike_45 : decode cX8_isAlike 45 = .ok (.getfield 89, 3) := by decide +kernel
theorem dX8_isAlike_48 : decode cX8_isAlike 48 = .ok (.aload_n 0, 1) := by decide +kernel
theorem dX8_isAlike_49 : decode cX8_isAlike 49 = .ok (.getfield 83, 3) := by decide +kernel
theorem dX8_isAlike_52 : decode cX8_isAlike 52 = .ok (.invokevirtual 143, 3) := by decide +kernel
theorem dX8_isAlike_55 : decode cX8_isAlike 55 = .ok (.aload_n 0, 1) := by decide +kernel
theorem dX8_isAlike_56 : decode cX8_isAlike 56 = .ok (.getfield 83, 3) := by decide +kernel
theorem dX8_isAlike_59 : decode cX8_isAlike 59 = .ok (.aload_n 0, 1) := by decide +kernel
theorem dX8_isAlike_60 : decode cX8_isAlike 60 = .ok (.getfield 92, 3) := by decide +kernel
theorem dX8_isAlike_63 : decode cX8_isAlike 63 = .ok (.aload_n 0, 1) := by decide +kernel
theorem dX8_isAlike_64 : decode cX8_isAlike 64 = .ok (.getfield 65, 3) := by decide +kernel
theorem dX8_isAlike_67 : decode cX8_isAlike 67 = .ok (.iload_n 1, 1) := by decide +kernel
theorem dX8_isAlike_68 : decode cX8_isAlike 68 = .ok (.bipush 16, 2) := by decide +kernel
theorem dX8_isAlike_70 : decode cX8_isAlike 70 = .ok (.imul, 1) := by decide +kernel
theorem dX8_isAlike_71 : decode cX8_isAlike 71 = .ok (.bipush 8, 2) := by decide +kernel
theorem dX8_isAlike_73 : decode cX8_isAlike 73 = .ok (.iadd, 1) := by decide +kernel
theorem dX8_isAlike_74 : decode cX8_isAlike 74 = .ok (.iload_n 2, 1) := by decide +kernel
theorem dX8_isAlike_75 : decode cX8_isAlike 75 = .ok (.iadd, 1) := by decide +kernel
theorem dX8_isAlike_76 : decode cX8_isAlike 76 = .ok (.aaload, 1) := by decide +kernel
theorem dX8_isAlike_77 : decode cX8_isAlike 77 = .ok (.invokevirtual 140, 3) := by decide +kernel
theorem dX8_isAlike_80 : decode cX8_isAlike 80 = .ok (.aload_n 0, 1) := by decide +kernel
theorem dX8_isAlike_81 : decode cX8_isAlike 81 = .ok (.getfield 92, 3) := by decide +kernel
theorem dX8_isAlike_84 : decode cX8_isAlike 84 = .ok (.aload_n 0, 1) := by decide +kernel
theorem dX8_isAlike_85 : decode cX8_isAlike 85 = .ok (.getfield 83, 3) := by decide +kernel
theorem dX8_isAlike_88 : decode cX8_isAlike 88 = .ok (.invokevirtual 143, 3) := by decide +kernel
theorem dX8_isAlike_91 : decode cX8_isAlike 91 = .ok (.iinc 2 1, 3) := by decide +kernel
theorem dX8_isAlike_94 : decode cX8_isAlike 94 = .ok (.goto (-78), 3) := by decide +kernel
theorem dX8_isAlike_97 : decode cX8_isAlike 97 = .ok (.aload_n 0, 1) := by decide +kernel
theorem dX8_isAlike_98 : decode cX8_isAlike 98 = .ok (.getfield 89, 3) := by decide +kernel
theorem dX8_isAlike_101 : decode cX8_isAlike 101 = .ok (.aload_n 0, 1) := by decide +kernel
theorem dX8_isAlike_102 : decode cX8_isAlike 102 = .ok (.getfield 92, 3) := by decide +kernel
theorem dX8_isAlike_105 : decode cX8_isAlike 105 = .ok (.invokevirtual 178, 3) := by decide +kernel
theorem dX8_isAlike_108 : decode cX8_isAlike 108 = .ok (.ifCond .ne 7, 3) := by decide +kernel
theorem dX8_isAlike_111 : decode cX8_isAlike 111 = .ok (.iconst 1, 1) := by decide +kernel
theorem dX8_isAlike_112 : decode cX8_isAlike 112 = .ok (.goto 4, 3) := by decide +kernel
theorem dX8_isAlike_115 : decode cX8_isAlike 115 = .ok (.iconst 0, 1) := by decide +kernel
theorem dX8_isAlike_116 : decode cX8_isAlike 116 = .ok (.ireturn, 1) := by decide +kernel
theorem dX8_shorten_0 : decode cX8_shorten 0 = .ok (.aload_n 0, 1) := by decide +kernel
theorem dX8_shorten_1 : decode cX8_shorten 1 = .ok (.getfield 95, 3) := by decide +kernel
theorem dX8_shorten_4 : decode cX8_shorten 4 = .ok (.invokevirtual 147, 3) := by decide +kernel
theorem dX8_shorten_7 : decode cX8_shorten 7 = .ok (.iconst 0, 1) := by decide +kernel
theorem dX8_shorten_8 : decode cX8_shorten 8 = .ok (.istore_n 1, 1) := by decide +kernel
theorem dX8_shorten_9 : decode cX8_shorten 9 = .ok (.iload_n 1, 1) := by decide +kernel
theorem dX8_shorten_10 : decode cX8_shorten 10 = .ok (.bipush 16, 2) := by decide +kernel
theorem dX8_shorten_12 : decode cX8_shorten 12 = .ok (.if_icmp .ge 98, 3) := by decide +kernel
theorem dX8_shorten_15 : decode cX8_shorten 15 = .ok (.aload_n 0, 1) := by decide +kernel
theorem dX8_shorten_16 : decode cX8_shorten 16 = .ok (.getfield 89, 3) := by decide +kernel
theorem dX8_shorten_19 : decode cX8_shorten 19 = .ok (.aload_n 0, 1) := by decide +kernel
theorem dX8_shorten_20 : decode cX8_shorten 20 = .ok (.getfield 80, 3) := by decide +kernel
theorem dX8_shorten_23 : decode cX8_shorten 23 = .ok (.iload_n 1, 1) := by decide +kernel
theorem dX8_shorten_24 : decode cX8_shorten 24 = .ok (.aaload, 1) := by decide +kernel
theorem dX8_shorten_25 : decode cX8_shorten 25 = .ok (.invokevirtual 143, 3) := by decide +kernel
theorem dX8_shorten_28 : decode cX8_shorten 28 = .ok (.aload_n 0, 1) := by decide +kernel
theorem dX8_shorten_29 : decode cX8_shorten 29 = .ok (.getfield 89, 3) := by decide +kernel
theorem dX8_shorten_32 : decode cX8_shorten 32 = .ok (.aload_n 0, 1) := by decide +kernel
theorem dX8_shorten_33 : decode cX8_shorten 33 = .ok (.getfield 89, 3) := by decide +kernel
theorem dX8_shorten_36 : decode cX8_shorten 36 = .ok (.getfield 157, 3) := by decide +kernel
theorem dX8_shorten_39 : decode cX8_shorten 39 = .ok (.ifCond .ne 7, 3) := by decide +kernel
theorem dX8_shorten_42 : decode cX8_shorten 42 = .ok (.iconst 0, 1) := by decide +kernel
theorem dX8_shorten_43 : decode cX8_shorten 43 = .ok (.goto 4, 3) := by decide +kernel
theorem dX8_shorten_46 : decode cX8_shorten 46 = .ok (.iconst 1, 1) := by decide +kernel
theorem dX8_shorten_47 : decode cX8_shorten 47 = .ok (.putfield 157, 3) := by decide +kernel
theorem dX8_shorten_50 : decode cX8_shorten 50 = .ok (.aload_n 0, 1) := by decide +kernel
theorem dX8_shorten_51 : decode cX8_shorten 51 = .ok (.getfield 89, 3) := by decide +kernel
theorem dX8_shorten_54 : decode cX8_shorten 54 = .ok (.getfield 157, 3) := by decide +kernel
theorem dX8_shorten_57 : decode cX8_shorten 57 = .ok (.ifCond .eq 47, 3) := by decide +kernel
theorem dX8_shorten_60 : decode cX8_shorten 60 = .ok (.aload_n 0, 1) := by decide +kernel
theorem dX8_shorten_61 : decode cX8_shorten 61 = .ok (.getfield 83, 3) := by decide +kernel
theorem dX8_shorten_64 : decode cX8_shorten 64 = .ok (.aload_n 0, 1) := by decide +kernel
theorem dX8_shorten_65 : decode cX8_shorten 65 = .ok (.getfield 95, 3) := by decide +kernel
theorem dX8_shorten_68 : decode cX8_shorten 68 = .ok (.aload_n 0, 1) := by decide +kernel
theorem dX8_shorten_69 : decode cX8_shorten 69 = .ok (.getfield 89, 3) := by decide +kernel
theorem dX8_shorten_72 : decode cX8_shorten 72 = .ok (.aload_n 0, 1) := by decide +kernel
theorem dX8_shorten_73 : decode cX8_shorten 73 = .ok (.getfield 86, 3) := by decide +kernel
theorem dX8_shorten_76 : decode cX8_shorten 76 = .ok (.invokevirtual 196, 3) := by decide +kernel
theorem dX8_shorten_79 : decode cX8_shorten 79 = .ok (.aload_n 0, 1) := by decide +kernel
theorem dX8_shorten_80 : decode cX8_shorten 80 = .ok (.getfield 95, 3) := by decide +kernel
theorem dX8_shorten_83 : decode cX8_shorten 83 = .ok (.aload_n 0, 1) := by decide +kernel
theorem dX8_shorten_84 : decode cX8_shorten 84 = .ok (.getfield 89, 3) := by decide +kernel
theorem dX8_shorten_87 : decode cX8_shorten 87 = .ok (.invokevirtual 143, 3) := by decide +kernel
theorem dX8_shorten_90 : decode cX8_shorten 90 = .ok (.aload_n 0, 1) := by decide +kernel
theorem dX8_shorten_91 : decode cX8_shorten 91 = .ok (.getfield 89, 3) := by decide +kernel
theorem dX8_shorten_94 : decode cX8_shorten 94 = .ok (.aload_n 0, 1) := by decide +kernel
theorem dX8_shorten_95 : decode cX8_shorten 95 = .ok (.getfield 86, 3) := by decide +kernel
theorem dX8_shorten_98 : decode cX8_shorten 98 = .ok (.invokevirtual 143, 3) := by decide +kernel
theorem dX8_shorten_101 : decode cX8_shorten 101 = .ok (.goto (-51), 3) := by decide +kernel
theorem dX8_shorten_104 : decode cX8_shorten 104 = .ok (.iinc 1 1, 3) := by decide +kernel
theorem dX8_shorten_107 : decode cX8_shorten 107 = .ok (.goto (-98), 3) := by decide +kernel
theorem dX8_shorten_110 : decode cX8_shorten 110 = .ok (.aload_n 0, 1) := by decide +kernel
theorem dX8_shorten_111 : decode cX8_shorten 111 = .ok (.getfield 95, 3) := by decide +kernel
theorem dX8_shorten_114 : decode cX8_shorten 114 = .ok (.invokevirtual 200, 3) := by decide +kernel
theorem dX8_shorten_117 : decode cX8_shorten 117 = .ok (.iconst 2, 1) := by decide +kernel
theorem dX8_shorten_118 : decode cX8_shorten 118 = .ok (.if_icmp .ge 4, 3) := by decide +kernel
theorem dX8_shorten_121 : decode cX8_shorten 121 = .ok (.return_, 1) := by decide +kernel
theorem dX8_shorten_122 : decode cX8_shorten 122 = .ok (.iconst 0, 1) := by decide +kernel
theorem dX8_shorten_123 : decode cX8_shorten 123 = .ok (.istore_n 1, 1) := by decide +kernel
theorem dX8_shorten_124 : decode cX8_shorten 124 = .ok (.iload_n 1, 1) := by decide +kernel
theorem dX8_shorten_125 : decode cX8_shorten 125 = .ok (.bipush 16, 2) := by decide +kernel
theorem dX8_shorten_127 : decode cX8_shorten 127 = .ok (.if_icmp .ge 43, 3) := by decide +kernel
theorem dX8_shorten_130 : decode cX8_shorten 130 = .ok (.aload_n 0, 1) := by decide +kernel
theorem dX8_shorten_131 : decode cX8_shorten 131 = .ok (.getfield 83, 3) := by decide +kernel
theorem dX8_shorten_134 : decode cX8_shorten 134 = .ok (.aload_n 0, 1) := by decide +kernel
theorem dX8_shorten_135 : decode cX8_shorten 135 = .ok (.getfield 80, 3) := by decide +kernel
theorem dX8_shorten_138 : decode cX8_shorten 138 = .ok (.iload_n 1, 1) := by decide +kernel
theorem dX8_shorten_139 : decode cX8_shorten 139 = .ok (.aaload, 1) := by decide +kernel
theorem dX8_shorten_140 : decode cX8_shorten 140 = .ok (.aload_n 0, 1) := by decide +kernel
theorem dX8_shorten_141 : decode cX8_shorten 141 = .ok (.getfield 95, 3) := by decide +kernel
theorem dX8_shorten_144 : decode cX8_shorten 144 = .ok (.aload_n 0, 1) := by decide +kernel
theorem dX8_shorten_145 : decode cX8_shorten 145 = .ok (.getfield 86, 3) := by decide +kernel
theorem dX8_shorten_148 : decode cX8_shorten 148 = .ok (.invokevirtual 196, 3) := by decide +kernel
theorem dX8_shorten_151 : decode cX8_shorten 151 = .ok (.aload_n 0, 1) := by decide +kernel
theorem dX8_shorten_152 : decode cX8_shorten 152 = .ok (.getfield 80, 3) := by decide +kernel
theorem dX8_shorten_155 : decode cX8_shorten 155 = .ok (.iload_n 1, 1) := by decide +kernel
theorem dX8_shorten_156 : decode cX8_shorten 156 = .ok (.aaload, 1) := by decide +kernel
theorem dX8_shorten_157 : decode cX8_shorten 157 = .ok (.aload_n 0, 1) := by decide +kernel
theorem dX8_shorten_158 : decode cX8_shorten 158 = .ok (.getfield 83, 3) := by decide +kernel
theorem dX8_shorten_161 : decode cX8_shorten 161 = .ok (.invokevirtual 143, 3) := by decide +kernel
theorem dX8_shorten_164 : decode cX8_shorten 164 = .ok (.iinc 1 1, 3) := by decide +kernel
theorem dX8_shorten_167 : decode cX8_shorten 167 = .ok (.goto (-43), 3) := by decide +kernel
theorem dX8_shorten_170 : decode cX8_shorten 170 = .ok (.return_, 1) := by decide +kernel
theorem dX8_isFree_0 : decode cX8_isFree 0 = .ok (.iconst 0, 1) := by decide +kernel
theorem dX8_isFree_1 : decode cX8_isFree 1 = .ok (.istore_n 3, 1) := by decide +kernel
theorem dX8_isFree_2 : decode cX8_isFree 2 = .ok (.iload_n 3, 1) := by decide +kernel
theorem dX8_isFree_3 : decode cX8_isFree 3 = .ok (.bipush 16, 2) := by decide +kernel
theorem dX8_isFree_5 : decode cX8_isFree 5 = .ok (.if_icmp .ge 29, 3) := by decide +kernel
theorem dX8_isFree_8 : decode cX8_isFree 8 = .ok (.aload_n 0, 1) := by decide +kernel
theorem dX8_isFree_9 : decode cX8_isFree 9 = .ok (.getfield 80, 3) := by decide +kernel
theorem dX8_isFree_12 : decode cX8_isFree 12 = .ok (.iload_n 3, 1) := by decide +kernel
theorem dX8_isFree_13 : decode cX8_isFree 13 = .ok (.aaload, 1) := by decide +kernel
theorem dX8_isFree_14 : decode cX8_isFree 14 = .ok (.aload_n 0, 1) := by decide +kernel
theorem dX8_isFree_15 : decode cX8_isFree 15 = .ok (.getfield 65, 3) := by decide +kernel
theorem dX8_isFree_18 : decode cX8_isFree 18 = .ok (.iload_n 1, 1) := by decide +kernel
theorem dX8_isFree_19 : decode cX8_isFree 19 = .ok (.bipush 16, 2) := by decide +kernel
theorem dX8_isFree_21 : decode cX8_isFree 21 = .ok (.imul, 1) := by decide +kernel
theorem dX8_isFree_22 : decode cX8_isFree 22 = .ok (.iload_n 3, 1) := by decide +kernel
theorem dX8_isFree_23 : decode cX8_isFree 23 = .ok (.iadd, 1) := by decide +kernel
theorem dX8_isFree_24 : decode cX8_isFree 24 = .ok (.aaload, 1) := by decide +kernel
theorem dX8_isFree_25 : decode cX8_isFree 25 = .ok (.invokevirtual 143, 3) := by decide +kernel
theorem dX8_isFree_28 : decode cX8_isFree 28 = .ok (.iinc 3 1, 3) := by decide +kernel
theorem dX8_isFree_31 : decode cX8_isFree 31 = .ok (.goto (-29), 3) := by decide +kernel
theorem dX8_isFree_34 : decode cX8_isFree 34 = .ok (.aload_n 0, 1) := by decide +kernel
theorem dX8_isFree_35 : decode cX8_isFree 35 = .ok (.invokevirtual 203, 3) := by decide +kernel
theorem dX8_isFree_38 : decode cX8_isFree 38 = .ok (.iconst 0, 1) := by decide +kernel
theorem dX8_isFree_39 : decode cX8_isFree 39 = .ok (.istore_n 3, 1) := by decide +kernel
theorem dX8_isFree_40 : decode cX8_isFree 40 = .ok (.iload_n 3, 1) := by decide +kernel
theorem dX8_isFree_41 : decode cX8_isFree 41 = .ok (.iload_n 2, 1) := by decide +kernel
theorem dX8_isFree_42 : decode cX8_isFree 42 = .ok (.if_icmp .ge 134, 3) := by decide +kernel
theorem dX8_isFree_45 : decode cX8_isFree 45 = .ok (.aload_n 0, 1) := by decide +kernel
theorem dX8_isFree_46 : decode cX8_isFree 46 = .ok (.getfield 71, 3) := by decide +kernel
theorem dX8_isFree_49 : decode cX8_isFree 49 = .ok (.iload_n 3, 1) := by decide +kernel
theorem dX8_isFree_50 : decode cX8_isFree 50 = .ok (.iaload, 1) := by decide +kernel
theorem dX8_isFree_51 : decode cX8_isFree 51 = .ok (.istore 4, 2) := by decide +kernel
theorem dX8_isFree_53 : decode cX8_isFree 53 = .ok (.aload_n 0, 1) := by decide +kernel
theorem dX8_isFree_54 : decode cX8_isFree 54 = .ok (.getfield 80, 3) := by decide +kernel
theorem dX8_isFree_57 : decode cX8_isFree 57 = .ok (.iload 4, 2) := by decide +kernel
theorem dX8_isFree_59 : decode cX8_isFree 59 = .ok (.aaload, 1) := by decide +kernel
theorem dX8_isFree_60 : decode cX8_isFree 60 = .ok (.getfield 157, 3) := by decide +kernel
theorem dX8_isFree_63 : decode cX8_isFree 63 = .ok (.ifCond .ne 6, 3) := by decide +kernel
theorem dX8_isFree_66 : decode cX8_isFree 66 = .ok (.goto 104, 3) := by decide +kernel
theorem dX8_isFree_69 : decode cX8_isFree 69 = .ok (.aload_n 0, 1) := by decide +kernel
theorem dX8_isFree_70 : decode cX8_isFree 70 = .ok (.getfield 92, 3) := by decide +kernel
theorem dX8_isFree_73 : decode cX8_isFree 73 = .ok (.aload_n 0, 1) := by decide +kernel
theorem dX8_isFree_74 : decode cX8_isFree 74 = .ok (.getfield 80, 3) := by decide +kernel
theorem dX8_isFree_77 : decode cX8_isFree 77 = .ok (.iload 4, 2) := by decide +kernel
theorem dX8_isFree_79 : decode cX8_isFree 79 = .ok (.aaload, 1) := by decide +kernel
theorem dX8_isFree_80 : decode cX8_isFree 80 = .ok (.invokevirtual 143, 3) := by decide +kernel
theorem dX8_isFree_83 : decode cX8_isFree 83 = .ok (.iconst 0, 1) := by decide +kernel
theorem dX8_isFree_84 : decode cX8_isFree 84 = .ok (.istore 5, 2) := by decide +kernel
theorem dX8_isFree_86 : decode cX8_isFree 86 = .ok (.iload 5, 2) := by decide +kernel
theorem dX8_isFree_88 : decode cX8_isFree 88 = .ok (.bipush 16, 2) := by decide +kernel
theorem dX8_isFree_90 : decode cX8_isFree 90 = .ok (.if_icmp .ge 76, 3) := by decide +kernel
theorem dX8_isFree_93 : decode cX8_isFree 93 = .ok (.aload_n 0, 1) := by decide +kernel
theorem dX8_isFree_94 : decode cX8_isFree 94 = .ok (.getfield 83, 3) := by decide +kernel
theorem dX8_isFree_97 : decode cX8_isFree 97 = .ok (.aload_n 0, 1) := by decide +kernel
theorem dX8_isFree_98 : decode cX8_isFree 98 = .ok (.getfield 80, 3) := by decide +kernel
theorem dX8_isFree_101 : decode cX8_isFree 101 = .ok (.iload 5, 2) := by decide +kernel
theorem dX8_isFree_103 : decode cX8_isFree 103 = .ok (.aaload, 1) := by decide +kernel
theorem dX8_isFree_104 : decode cX8_isFree 104 = .ok (.aload_n 0, 1) := by decide +kernel
theorem dX8_isFree_105 : decode cX8_isFree 105 = .ok (.getfield 68, 3) := by decide +kernel
theorem dX8_isFree_108 : decode cX8_isFree 108 = .ok (.iload_n 3, 1) := by decide +kernel
theorem dX8_isFree_109 : decode cX8_isFree 109 = .ok (.bipush 16, 2) := by decide +kernel
theorem dX8_isFree_111 : decode cX8_isFree 111 = .ok (.imul, 1) := by decide +kernel
theorem dX8_isFree_112 : decode cX8_isFree 112 = .ok (.iload 4, 2) := by decide +kernel
theorem dX8_isFree_114 : decode cX8_isFree 114 = .ok (.iadd, 1) := by decide +kernel
theorem dX8_isFree_115 : decode cX8_isFree 115 = .ok (.aaload, 1) := by decide +kernel
theorem dX8_isFree_116 : decode cX8_isFree 116 = .ok (.invokevirtual 136, 3) := by decide +kernel
theorem dX8_isFree_119 : decode cX8_isFree 119 = .ok (.aload_n 0, 1) := by decide +kernel
theorem dX8_isFree_120 : decode cX8_isFree 120 = .ok (.getfield 86, 3) := by decide +kernel
theorem dX8_isFree_123 : decode cX8_isFree 123 = .ok (.aload_n 0, 1) := by decide +kernel
theorem dX8_isFree_124 : decode cX8_isFree 124 = .ok (.getfield 68, 3) := by decide +kernel
theorem dX8_isFree_127 : decode cX8_isFree 127 = .ok (.iload_n 3, 1) := by decide +kernel
theorem dX8_isFree_128 : decode cX8_isFree 128 = .ok (.bipush 16, 2) := by decide +kernel
theorem dX8_isFree_130 : decode cX8_isFree 130 = .ok (.imul, 1) := by decide +kernel
theorem dX8_isFree_131 : decode cX8_isFree 131 = .ok (.iload 5, 2) := by decide +kernel
theorem dX8_isFree_133 : decode cX8_isFree 133 = .ok (.iadd, 1) := by decide +kernel
theorem dX8_isFree_134 : decode cX8_isFree 134 = .ok (.aaload, 1) := by decide +kernel
theorem dX8_isFree_135 : decode cX8_isFree 135 = .ok (.aload_n 0, 1) := by decide +kernel
theorem dX8_isFree_136 : decode cX8_isFree 136 = .ok (.getfield 92, 3) := by decide +kernel
theorem dX8_isFree_139 : decode cX8_isFree 139 = .ok (.invokevirtual 136, 3) := by decide +kernel
theorem dX8_isFree_142 : decode cX8_isFree 142 = .ok (.aload_n 0, 1) := by decide +kernel
theorem dX8_isFree_143 : decode cX8_isFree 143 = .ok (.getfield 80, 3) := by decide +kernel
theorem dX8_isFree_146 : decode cX8_isFree 146 = .ok (.iload 5, 2) := by decide +kernel
theorem dX8_isFree_148 : decode cX8_isFree 148 = .ok (.aaload, 1) := by decide +kernel
theorem dX8_isFree_149 : decode cX8_isFree 149 = .ok (.aload_n 0, 1) := by decide +kernel
theorem dX8_isFree_150 : decode cX8_isFree 150 = .ok (.getfield 83, 3) := by decide +kernel
theorem dX8_isFree_153 : decode cX8_isFree 153 = .ok (.aload_n 0, 1) := by decide +kernel
theorem dX8_isFree_154 : decode cX8_isFree 154 = .ok (.getfield 86, 3) := by decide +kernel
theorem dX8_isFree_157 : decode cX8_isFree 157 = .ok (.invokevirtual 206, 3) := by decide +kernel
theorem dX8_isFree_160 : decode cX8_isFree 160 = .ok (.iinc 5 1, 3) := by decide +kernel
theorem dX8_isFree_163 : decode cX8_isFree 163 = .ok (.goto (-77), 3) := by decide +kernel
theorem dX8_isFree_166 : decode cX8_isFree 166 = .ok (.aload_n 0, 1) := by decide +kernel
theorem dX8_isFree_167 : decode cX8_isFree 167 = .ok (.invokevirtual 203, 3) := by decide +kernel
theorem dX8_isFree_170 : decode cX8_isFree 170 = .ok (.iinc 3 1, 3) := by decide +kernel
theorem dX8_isFree_173 : decode cX8_isFree 173 = .ok (.goto (-133), 3) := by decide +kernel
theorem dX8_isFree_176 : decode cX8_isFree 176 = .ok (.iconst 0, 1) := by decide +kernel
theorem dX8_isFree_177 : decode cX8_isFree 177 = .ok (.istore_n 3, 1) := by decide +kernel
theorem dX8_isFree_178 : decode cX8_isFree 178 = .ok (.iload_n 3, 1) := by decide +kernel
theorem dX8_isFree_179 : decode cX8_isFree 179 = .ok (.bipush 16, 2) := by decide +kernel
theorem dX8_isFree_181 : decode cX8_isFree 181 = .ok (.if_icmp .ge 21, 3) := by decide +kernel
theorem dX8_isFree_184 : decode cX8_isFree 184 = .ok (.aload_n 0, 1) := by decide +kernel
theorem dX8_isFree_185 : decode cX8_isFree 185 = .ok (.getfield 80, 3) := by decide +kernel
theorem dX8_isFree_188 : decode cX8_isFree 188 = .ok (.iload_n 3, 1) := by decide +kernel
theorem dX8_isFree_189 : decode cX8_isFree 189 = .ok (.aaload, 1) := by decide +kernel
theorem dX8_isFree_190 : decode cX8_isFree 190 = .ok (.getfield 157, 3) := by decide +kernel
theorem dX8_isFree_193 : decode cX8_isFree 193 = .ok (.ifCond .ne 9, 3) := by decide +kernel
theorem dX8_isFree_196 : decode cX8_isFree 196 = .ok (.iinc 3 1, 3) := by decide +kernel
theorem dX8_isFree_199 : decode cX8_isFree 199 = .ok (.goto (-21), 3) := by decide +kernel
theorem dX8_isFree_202 : decode cX8_isFree 202 = .ok (.iload_n 3, 1) := by decide +kernel
theorem dX8_isFree_203 : decode cX8_isFree 203 = .ok (.bipush 16, 2) := by decide +kernel
theorem dX8_isFree_205 : decode cX8_isFree 205 = .ok (.if_icmp .ne 5, 3) := by decide +kernel
theorem dX8_isFree_208 : decode cX8_isFree 208 = .ok (.iconst 0, 1) := by decide +kernel
theorem dX8_isFree_209 : decode cX8_isFree 209 = .ok (.ireturn, 1) := by decide +kernel
theorem dX8_isFree_210 : decode cX8_isFree 210 = .ok (.aload_n 0, 1) := by decide +kernel
theorem dX8_isFree_211 : decode cX8_isFree 211 = .ok (.getfield 71, 3) := by decide +kernel
theorem dX8_isFree_214 : decode cX8_isFree 214 = .ok (.iload_n 2, 1) := by decide +kernel
theorem dX8_isFree_215 : decode cX8_isFree 215 = .ok (.iload_n 3, 1) := by decide +kernel
theorem dX8_isFree_216 : decode cX8_isFree 216 = .ok (.iastore, 1) := by decide +kernel
theorem dX8_isFree_217 : decode cX8_isFree 217 = .ok (.iconst 0, 1) := by decide +kernel
theorem dX8_isFree_218 : decode cX8_isFree 218 = .ok (.istore 4, 2) := by decide +kernel
theorem dX8_isFree_220 : decode cX8_isFree 220 = .ok (.iload 4, 2) := by decide +kernel
theorem dX8_isFree_222 : decode cX8_isFree 222 = .ok (.bipush 16, 2) := by decide +kernel
theorem dX8_isFree_224 : decode cX8_isFree 224 = .ok (.if_icmp .ge 31, 3) := by decide +kernel
theorem dX8_isFree_227 : decode cX8_isFree 227 = .ok (.aload_n 0, 1) := by decide +kernel
theorem dX8_isFree_228 : decode cX8_isFree 228 = .ok (.getfield 68, 3) := by decide +kernel
theorem dX8_isFree_231 : decode cX8_isFree 231 = .ok (.iload_n 2, 1) := by decide +kernel
theorem dX8_isFree_232 : decode cX8_isFree 232 = .ok (.bipush 16, 2) := by decide +kernel
theorem dX8_isFree_234 : decode cX8_isFree 234 = .ok (.imul, 1) := by decide +kernel
theorem dX8_isFree_235 : decode cX8_isFree 235 = .ok (.iload 4, 2) := by decide +kernel
theorem dX8_isFree_237 : decode cX8_isFree 237 = .ok (.iadd, 1) := by decide +kernel
theorem dX8_isFree_238 : decode cX8_isFree 238 = .ok (.aaload, 1) := by decide +kernel
theorem dX8_isFree_239 : decode cX8_isFree 239 = .ok (.aload_n 0, 1) := by decide +kernel
theorem dX8_isFree_240 : decode cX8_isFree 240 = .ok (.getfield 80, 3) := by decide +kernel
theorem dX8_isFree_243 : decode cX8_isFree 243 = .ok (.iload 4, 2) := by decide +kernel
theorem dX8_isFree_245 : decode cX8_isFree 245 = .ok (.aaload, 1) := by decide +kernel
theorem dX8_isFree_246 : decode cX8_isFree 246 = .ok (.invokevirtual 143, 3) := by decide +kernel
theorem dX8_isFree_249 : decode cX8_isFree 249 = .ok (.iinc 4 1, 3) := by decide +kernel
theorem dX8_isFree_252 : decode cX8_isFree 252 = .ok (.goto (-32), 3) := by decide +kernel
theorem dX8_isFree_255 : decode cX8_isFree 255 = .ok (.iconst 1, 1) := by decide +kernel
theorem dX8_isFree_256 : decode cX8_isFree 256 = .ok (.ireturn, 1) := by decide +kernel
theorem dX8_tellApart_0 : decode cX8_tellApart 0 = .ok (.aload_n 0, 1) := by decide +kernel
theorem dX8_tellApart_1 : decode cX8_tellApart 1 = .ok (.iconst 0, 1) := by decide +kernel
theorem dX8_tellApart_2 : decode cX8_tellApart 2 = .ok (.iconst 0, 1) := by decide +kernel
theorem dX8_tellApart_3 : decode cX8_tellApart 3 = .ok (.invokevirtual 209, 3) := by decide +kernel
theorem dX8_tellApart_6 : decode cX8_tellApart 6 = .ok (.ifCond .eq 7, 3) := by decide +kernel
theorem dX8_tellApart_9 : decode cX8_tellApart 9 = .ok (.iconst 1, 1) := by decide +kernel
theorem dX8_tellApart_10 : decode cX8_tellApart 10 = .ok (.goto 4, 3) := by decide +kernel
theorem dX8_tellApart_13 : decode cX8_tellApart 13 = .ok (.iconst 0, 1) := by decide +kernel
theorem dX8_tellApart_14 : decode cX8_tellApart 14 = .ok (.istore_n 3, 1) := by decide +kernel
theorem dX8_tellApart_15 : decode cX8_tellApart 15 = .ok (.iconst 0, 1) := by decide +kernel
theorem dX8_tellApart_16 : decode cX8_tellApart 16 = .ok (.istore 4, 2) := by decide +kernel
theorem dX8_tellApart_18 : decode cX8_tellApart 18 = .ok (.iload 4, 2) := by decide +kernel
theorem dX8_tellApart_20 : decode cX8_tellApart 20 = .ok (.iload_n 3, 1) := by decide +kernel
theorem dX8_tellApart_21 : decode cX8_tellApart 21 = .ok (.if_icmp .ge 78, 3) := by decide +kernel
theorem dX8_tellApart_24 : decode cX8_tellApart 24 = .ok (.iconst 0, 1) := by decide +kernel
theorem dX8_tellApart_25 : decode cX8_tellApart 25 = .ok (.istore 5, 2) := by decide +kernel
theorem dX8_tellApart_27 : decode cX8_tellApart 27 = .ok (.iload 5, 2) := by decide +kernel
theorem dX8_tellApart_29 : decode cX8_tellApart 29 = .ok (.aload_n 0, 1) := by decide +kernel
theorem dX8_tellApart_30 : decode cX8_tellApart 30 = .ok (.getfield 13, 3) := by decide +kernel
theorem dX8_tellApart_33 : decode cX8_tellApart 33 = .ok (.iload_n 1, 1) := by decide +kernel
theorem dX8_tellApart_34 : decode cX8_tellApart 34 = .ok (.iaload, 1) := by decide +kernel
theorem dX8_tellApart_35 : decode cX8_tellApart 35 = .ok (.if_icmp .ge 58, 3) := by decide +kernel
theorem dX8_tellApart_38 : decode cX8_tellApart 38 = .ok (.aload_n 0, 1) := by decide +kernel
theorem dX8_tellApart_39 : decode cX8_tellApart 39 = .ok (.iload_n 1, 1) := by decide +kernel
theorem dX8_tellApart_40 : decode cX8_tellApart 40 = .ok (.iload_n 2, 1) := by decide +kernel
theorem dX8_tellApart_41 : decode cX8_tellApart 41 = .ok (.iload 4, 2) := by decide +kernel
theorem dX8_tellApart_43 : decode cX8_tellApart 43 = .ok (.iload 5, 2) := by decide +kernel
theorem dX8_tellApart_45 : decode cX8_tellApart 45 = .ok (.iload_n 3, 1) := by decide +kernel
theorem dX8_tellApart_46 : decode cX8_tellApart 46 = .ok (.invokevirtual 212, 3) := by decide +kernel
theorem dX8_tellApart_49 : decode cX8_tellApart 49 = .ok (.aload_n 0, 1) := by decide +kernel
theorem dX8_tellApart_50 : decode cX8_tellApart 50 = .ok (.getfield 74, 3) := by decide +kernel
theorem dX8_tellApart_53 : decode cX8_tellApart 53 = .ok (.iload_n 3, 1) := by decide +kernel
theorem dX8_tellApart_54 : decode cX8_tellApart 54 = .ok (.iload 4, 2) := by decide +kernel
theorem dX8_tellApart_56 : decode cX8_tellApart 56 = .ok (.iastore, 1) := by decide +kernel
theorem dX8_tellApart_57 : decode cX8_tellApart 57 = .ok (.aload_n 0, 1) := by decide +kernel
theorem dX8_tellApart_58 : decode cX8_tellApart 58 = .ok (.getfield 77, 3) := by decide +kernel
theorem dX8_tellApart_61 : decode cX8_tellApart 61 = .ok (.iload_n 3, 1) := by decide +kernel
theorem dX8_tellApart_62 : decode cX8_tellApart 62 = .ok (.iload 5, 2) := by decide +kernel
theorem dX8_tellApart_64 : decode cX8_tellApart 64 = .ok (.iastore, 1) := by decide +kernel
theorem dX8_tellApart_65 : decode cX8_tellApart 65 = .ok (.aload_n 0, 1) := by decide +kernel
theorem dX8_tellApart_66 : decode cX8_tellApart 66 = .ok (.iload_n 3, 1) := by decide +kernel
theorem dX8_tellApart_67 : decode cX8_tellApart 67 = .ok (.invokevirtual 216, 3) := by decide +kernel
theorem dX8_tellApart_70 : decode cX8_tellApart 70 = .ok (.ifCond .ne 5, 3) := by decide +kernel
theorem dX8_tellApart_73 : decode cX8_tellApart 73 = .ok (.iload_n 3, 1) := by decide +kernel
theorem dX8_tellApart_74 : decode cX8_tellApart 74 = .ok (.ireturn, 1) := by decide +kernel
theorem dX8_tellApart_75 : decode cX8_tellApart 75 = .ok (.aload_n 0, 1) := by decide +kernel
theorem dX8_tellApart_76 : decode cX8_tellApart 76 = .ok (.iload_n 3, 1) := by decide +kernel
theorem dX8_tellApart_77 : decode cX8_tellApart 77 = .ok (.iload_n 3, 1) := by decide +kernel
theorem dX8_tellApart_78 : decode cX8_tellApart 78 = .ok (.invokevirtual 209, 3) := by decide +kernel
theorem dX8_tellApart_81 : decode cX8_tellApart 81 = .ok (.ifCond .eq 6, 3) := by decide +kernel
theorem dX8_tellApart_84 : decode cX8_tellApart 84 = .ok (.iinc 3 1, 3) := by decide +kernel
theorem dX8_tellApart_87 : decode cX8_tellApart 87 = .ok (.iinc 5 1, 3) := by decide +kernel
theorem dX8_tellApart_90 : decode cX8_tellApart 90 = .ok (.goto (-63), 3) := by decide +kernel
theorem dX8_tellApart_93 : decode cX8_tellApart 93 = .ok (.iinc 4 1, 3) := by decide +kernel
theorem dX8_tellApart_96 : decode cX8_tellApart 96 = .ok (.goto (-78), 3) := by decide +kernel
theorem dX8_tellApart_99 : decode cX8_tellApart 99 = .ok (.iconst (-1), 1) := by decide +kernel
theorem dX8_tellApart_100 : decode cX8_tellApart 100 = .ok (.ireturn, 1) := by decide +kernel
theorem dX8_refusalOfTwo_0 : decode cX8_refusalOfTwo 0 = .ok (.aload_n 0, 1) := by decide +kernel
theorem dX8_refusalOfTwo_1 : decode cX8_refusalOfTwo 1 = .ok (.iload_n 1, 1) := by decide +kernel
theorem dX8_refusalOfTwo_2 : decode cX8_refusalOfTwo 2 = .ok (.invokevirtual 105, 3) := by decide +kernel
theorem dX8_refusalOfTwo_5 : decode cX8_refusalOfTwo 5 = .ok (.ifCond .eq 11, 3) := by decide +kernel
theorem dX8_refusalOfTwo_8 : decode cX8_refusalOfTwo 8 = .ok (.aload_n 0, 1) := by decide +kernel
theorem dX8_refusalOfTwo_9 : decode cX8_refusalOfTwo 9 = .ok (.iload_n 2, 1) := by decide +kernel
theorem dX8_refusalOfTwo_10 : decode cX8_refusalOfTwo 10 = .ok (.invokevirtual 105, 3) := by decide +kernel
theorem dX8_refusalOfTwo_13 : decode cX8_refusalOfTwo 13 = .ok (.ifCond .ne 5, 3) := by decide +kernel
theorem dX8_refusalOfTwo_16 : decode cX8_refusalOfTwo 16 = .ok (.iconst (-1), 1) := by decide +kernel
theorem dX8_refusalOfTwo_17 : decode cX8_refusalOfTwo 17 = .ok (.ireturn, 1) := by decide +kernel
theorem dX8_refusalOfTwo_18 : decode cX8_refusalOfTwo 18 = .ok (.aload_n 0, 1) := by decide +kernel
theorem dX8_refusalOfTwo_19 : decode cX8_refusalOfTwo 19 = .ok (.iload_n 1, 1) := by decide +kernel
theorem dX8_refusalOfTwo_20 : decode cX8_refusalOfTwo 20 = .ok (.invokevirtual 123, 3) := by decide +kernel
theorem dX8_refusalOfTwo_23 : decode cX8_refusalOfTwo 23 = .ok (.ifCond .eq 11, 3) := by decide +kernel
theorem dX8_refusalOfTwo_26 : decode cX8_refusalOfTwo 26 = .ok (.aload_n 0, 1) := by decide +kernel
theorem dX8_refusalOfTwo_27 : decode cX8_refusalOfTwo 27 = .ok (.iload_n 2, 1) := by decide +kernel
theorem dX8_refusalOfTwo_28 : decode cX8_refusalOfTwo 28 = .ok (.invokevirtual 123, 3) := by decide +kernel
theorem dX8_refusalOfTwo_31 : decode cX8_refusalOfTwo 31 = .ok (.ifCond .ne 6, 3) := by decide +kernel
theorem dX8_refusalOfTwo_34 : decode cX8_refusalOfTwo 34 = .ok (.bipush (-3), 2) := by decide +kernel
theorem dX8_refusalOfTwo_36 : decode cX8_refusalOfTwo 36 = .ok (.ireturn, 1) := by decide +kernel
theorem dX8_refusalOfTwo_37 : decode cX8_refusalOfTwo 37 = .ok (.aload_n 0, 1) := by decide +kernel
theorem dX8_refusalOfTwo_38 : decode cX8_refusalOfTwo 38 = .ok (.getfield 13, 3) := by decide +kernel
theorem dX8_refusalOfTwo_41 : decode cX8_refusalOfTwo 41 = .ok (.iload_n 1, 1) := by decide +kernel
theorem dX8_refusalOfTwo_42 : decode cX8_refusalOfTwo 42 = .ok (.iaload, 1) := by decide +kernel
theorem dX8_refusalOfTwo_43 : decode cX8_refusalOfTwo 43 = .ok (.aload_n 0, 1) := by decide +kernel
theorem dX8_refusalOfTwo_44 : decode cX8_refusalOfTwo 44 = .ok (.getfield 13, 3) := by decide +kernel
theorem dX8_refusalOfTwo_47 : decode cX8_refusalOfTwo 47 = .ok (.iload_n 2, 1) := by decide +kernel
theorem dX8_refusalOfTwo_48 : decode cX8_refusalOfTwo 48 = .ok (.iaload, 1) := by decide +kernel
theorem dX8_refusalOfTwo_49 : decode cX8_refusalOfTwo 49 = .ok (.if_icmp .ne 18, 3) := by decide +kernel
theorem dX8_refusalOfTwo_52 : decode cX8_refusalOfTwo 52 = .ok (.aload_n 0, 1) := by decide +kernel
theorem dX8_refusalOfTwo_53 : decode cX8_refusalOfTwo 53 = .ok (.getfield 16, 3) := by decide +kernel
theorem dX8_refusalOfTwo_56 : decode cX8_refusalOfTwo 56 = .ok (.iload_n 1, 1) := by decide +kernel
theorem dX8_refusalOfTwo_57 : decode cX8_refusalOfTwo 57 = .ok (.iaload, 1) := by decide +kernel
theorem dX8_refusalOfTwo_58 : decode cX8_refusalOfTwo 58 = .ok (.aload_n 0, 1) := by decide +kernel
theorem dX8_refusalOfTwo_59 : decode cX8_refusalOfTwo 59 = .ok (.getfield 16, 3) := by decide +kernel
theorem dX8_refusalOfTwo_62 : decode cX8_refusalOfTwo 62 = .ok (.iload_n 2, 1) := by decide +kernel
theorem dX8_refusalOfTwo_63 : decode cX8_refusalOfTwo 63 = .ok (.iaload, 1) := by decide +kernel
theorem dX8_refusalOfTwo_64 : decode cX8_refusalOfTwo 64 = .ok (.if_icmp .eq 8, 3) := by decide +kernel
theorem dX8_refusalOfTwo_67 : decode cX8_refusalOfTwo 67 = .ok (.bipush (-4), 2) := by decide +kernel
theorem dX8_refusalOfTwo_69 : decode cX8_refusalOfTwo 69 = .ok (.goto 4, 3) := by decide +kernel
theorem dX8_refusalOfTwo_72 : decode cX8_refusalOfTwo 72 = .ok (.iconst 0, 1) := by decide +kernel
theorem dX8_refusalOfTwo_73 : decode cX8_refusalOfTwo 73 = .ok (.ireturn, 1) := by decide +kernel
theorem dX8_partsOf_0 : decode cX8_partsOf 0 = .ok (.iconst 0, 1) := by decide +kernel
theorem dX8_partsOf_1 : decode cX8_partsOf 1 = .ok (.istore_n 3, 1) := by decide +kernel
theorem dX8_partsOf_2 : decode cX8_partsOf 2 = .ok (.iload_n 3, 1) := by decide +kernel
theorem dX8_partsOf_3 : decode cX8_partsOf 3 = .ok (.bipush 8, 2) := by decide +kernel
theorem dX8_partsOf_5 : decode cX8_partsOf 5 = .ok (.if_icmp .ge 82, 3) := by decide +kernel
theorem dX8_partsOf_8 : decode cX8_partsOf 8 = .ok (.aload_n 0, 1) := by decide +kernel
theorem dX8_partsOf_9 : decode cX8_partsOf 9 = .ok (.getfield 65, 3) := by decide +kernel
theorem dX8_partsOf_12 : decode cX8_partsOf 12 = .ok (.iload_n 3, 1) := by decide +kernel
theorem dX8_partsOf_13 : decode cX8_partsOf 13 = .ok (.aaload, 1) := by decide +kernel
theorem dX8_partsOf_14 : decode cX8_partsOf 14 = .ok (.iload_n 3, 1) := by decide +kernel
theorem dX8_partsOf_15 : decode cX8_partsOf 15 = .ok (.aload_n 0, 1) := by decide +kernel
theorem dX8_partsOf_16 : decode cX8_partsOf 16 = .ok (.getfield 9, 3) := by decide +kernel
theorem dX8_partsOf_19 : decode cX8_partsOf 19 = .ok (.iload_n 1, 1) := by decide +kernel
theorem dX8_partsOf_20 : decode cX8_partsOf 20 = .ok (.iaload, 1) := by decide +kernel
theorem dX8_partsOf_21 : decode cX8_partsOf 21 = .ok (.if_icmp .ge 18, 3) := by decide +kernel
theorem dX8_partsOf_24 : decode cX8_partsOf 24 = .ok (.aload_n 0, 1) := by decide +kernel
theorem dX8_partsOf_25 : decode cX8_partsOf 25 = .ok (.getfield 19, 3) := by decide +kernel
theorem dX8_partsOf_28 : decode cX8_partsOf 28 = .ok (.iload_n 1, 1) := by decide +kernel
theorem dX8_partsOf_29 : decode cX8_partsOf 29 = .ok (.bipush 8, 2) := by decide +kernel
theorem dX8_partsOf_31 : decode cX8_partsOf 31 = .ok (.imul, 1) := by decide +kernel
theorem dX8_partsOf_32 : decode cX8_partsOf 32 = .ok (.iload_n 3, 1) := by decide +kernel
theorem dX8_partsOf_33 : decode cX8_partsOf 33 = .ok (.iadd, 1) := by decide +kernel
theorem dX8_partsOf_34 : decode cX8_partsOf 34 = .ok (.iaload, 1) := by decide +kernel
theorem dX8_partsOf_35 : decode cX8_partsOf 35 = .ok (.i2l, 1) := by decide +kernel
theorem dX8_partsOf_36 : decode cX8_partsOf 36 = .ok (.goto 4, 3) := by decide +kernel
theorem dX8_partsOf_39 : decode cX8_partsOf 39 = .ok (.lconst 0, 1) := by decide +kernel
theorem dX8_partsOf_40 : decode cX8_partsOf 40 = .ok (.invokevirtual 132, 3) := by decide +kernel
theorem dX8_partsOf_43 : decode cX8_partsOf 43 = .ok (.aload_n 0, 1) := by decide +kernel
theorem dX8_partsOf_44 : decode cX8_partsOf 44 = .ok (.getfield 65, 3) := by decide +kernel
theorem dX8_partsOf_47 : decode cX8_partsOf 47 = .ok (.bipush 8, 2) := by decide +kernel
theorem dX8_partsOf_49 : decode cX8_partsOf 49 = .ok (.iload_n 3, 1) := by decide +kernel
theorem dX8_partsOf_50 : decode cX8_partsOf 50 = .ok (.iadd, 1) := by decide +kernel
theorem dX8_partsOf_51 : decode cX8_partsOf 51 = .ok (.aaload, 1) := by decide +kernel
theorem dX8_partsOf_52 : decode cX8_partsOf 52 = .ok (.iload_n 3, 1) := by decide +kernel
theorem dX8_partsOf_53 : decode cX8_partsOf 53 = .ok (.aload_n 0, 1) := by decide +kernel
theorem dX8_partsOf_54 : decode cX8_partsOf 54 = .ok (.getfield 9, 3) := by decide +kernel
theorem dX8_partsOf_57 : decode cX8_partsOf 57 = .ok (.iload_n 2, 1) := by decide +kernel
theorem dX8_partsOf_58 : decode cX8_partsOf 58 = .ok (.iaload, 1) := by decide +kernel
theorem dX8_partsOf_59 : decode cX8_partsOf 59 = .ok (.if_icmp .ge 18, 3) := by decide +kernel
theorem dX8_partsOf_62 : decode cX8_partsOf 62 = .ok (.aload_n 0, 1) := by decide +kernel
theorem dX8_partsOf_63 : decode cX8_partsOf 63 = .ok (.getfield 19, 3) := by decide +kernel
theorem dX8_partsOf_66 : decode cX8_partsOf 66 = .ok (.iload_n 2, 1) := by decide +kernel
theorem dX8_partsOf_67 : decode cX8_partsOf 67 = .ok (.bipush 8, 2) := by decide +kernel
theorem dX8_partsOf_69 : decode cX8_partsOf 69 = .ok (.imul, 1) := by decide +kernel
theorem dX8_partsOf_70 : decode cX8_partsOf 70 = .ok (.iload_n 3, 1) := by decide +kernel
theorem dX8_partsOf_71 : decode cX8_partsOf 71 = .ok (.iadd, 1) := by decide +kernel
theorem dX8_partsOf_72 : decode cX8_partsOf 72 = .ok (.iaload, 1) := by decide +kernel
theorem dX8_partsOf_73 : decode cX8_partsOf 73 = .ok (.i2l, 1) := by decide +kernel
theorem dX8_partsOf_74 : decode cX8_partsOf 74 = .ok (.goto 4, 3) := by decide +kernel
theorem dX8_partsOf_77 : decode cX8_partsOf 77 = .ok (.lconst 0, 1) := by decide +kernel
theorem dX8_partsOf_78 : decode cX8_partsOf 78 = .ok (.invokevirtual 132, 3) := by decide +kernel
theorem dX8_partsOf_81 : decode cX8_partsOf 81 = .ok (.iinc 3 1, 3) := by decide +kernel
theorem dX8_partsOf_84 : decode cX8_partsOf 84 = .ok (.goto (-82), 3) := by decide +kernel
theorem dX8_partsOf_87 : decode cX8_partsOf 87 = .ok (.aload_n 0, 1) := by decide +kernel
theorem dX8_partsOf_88 : decode cX8_partsOf 88 = .ok (.iload_n 1, 1) := by decide +kernel
theorem dX8_partsOf_89 : decode cX8_partsOf 89 = .ok (.iload_n 2, 1) := by decide +kernel
theorem dX8_partsOf_90 : decode cX8_partsOf 90 = .ok (.invokevirtual 219, 3) := by decide +kernel
theorem dX8_partsOf_93 : decode cX8_partsOf 93 = .ok (.ireturn, 1) := by decide +kernel
theorem dX8_same_0 : decode cX8_same 0 = .ok (.aload_n 0, 1) := by decide +kernel
theorem dX8_same_1 : decode cX8_same 1 = .ok (.iload_n 1, 1) := by decide +kernel
theorem dX8_same_2 : decode cX8_same 2 = .ok (.iload_n 2, 1) := by decide +kernel
theorem dX8_same_3 : decode cX8_same 3 = .ok (.invokevirtual 223, 3) := by decide +kernel
theorem dX8_same_6 : decode cX8_same 6 = .ok (.istore_n 3, 1) := by decide +kernel
theorem dX8_same_7 : decode cX8_same 7 = .ok (.iload_n 3, 1) := by decide +kernel
theorem dX8_same_8 : decode cX8_same 8 = .ok (.ifCond .eq 7, 3) := by decide +kernel
theorem dX8_same_11 : decode cX8_same 11 = .ok (.iload_n 3, 1) := by decide +kernel
theorem dX8_same_12 : decode cX8_same 12 = .ok (.goto 17, 3) := by decide +kernel
theorem dX8_same_15 : decode cX8_same 15 = .ok (.aload_n 0, 1) := by decide +kernel
theorem dX8_same_16 : decode cX8_same 16 = .ok (.iload_n 1, 1) := by decide +kernel
theorem dX8_same_17 : decode cX8_same 17 = .ok (.iload_n 2, 1) := by decide +kernel
theorem dX8_same_18 : decode cX8_same 18 = .ok (.invokevirtual 226, 3) := by decide +kernel
theorem dX8_same_21 : decode cX8_same 21 = .ok (.ifCond .ge 7, 3) := by decide +kernel
theorem dX8_same_24 : decode cX8_same 24 = .ok (.iconst 1, 1) := by decide +kernel
theorem dX8_same_25 : decode cX8_same 25 = .ok (.goto 4, 3) := by decide +kernel
theorem dX8_same_28 : decode cX8_same 28 = .ok (.iconst 0, 1) := by decide +kernel
theorem dX8_same_29 : decode cX8_same 29 = .ok (.ireturn, 1) := by decide +kernel
theorem dX8_apart_0 : decode cX8_apart 0 = .ok (.aload_n 0, 1) := by decide +kernel
theorem dX8_apart_1 : decode cX8_apart 1 = .ok (.iload_n 1, 1) := by decide +kernel
theorem dX8_apart_2 : decode cX8_apart 2 = .ok (.iload_n 2, 1) := by decide +kernel
theorem dX8_apart_3 : decode cX8_apart 3 = .ok (.invokevirtual 223, 3) := by decide +kernel
theorem dX8_apart_6 : decode cX8_apart 6 = .ok (.istore_n 3, 1) := by decide +kernel
theorem dX8_apart_7 : decode cX8_apart 7 = .ok (.iload_n 3, 1) := by decide +kernel
theorem dX8_apart_8 : decode cX8_apart 8 = .ok (.ifCond .eq 5, 3) := by decide +kernel
theorem dX8_apart_11 : decode cX8_apart 11 = .ok (.iload_n 3, 1) := by decide +kernel
theorem dX8_apart_12 : decode cX8_apart 12 = .ok (.ireturn, 1) := by decide +kernel
theorem dX8_apart_13 : decode cX8_apart 13 = .ok (.aload_n 0, 1) := by decide +kernel
theorem dX8_apart_14 : decode cX8_apart 14 = .ok (.iload_n 1, 1) := by decide +kernel
theorem dX8_apart_15 : decode cX8_apart 15 = .ok (.iload_n 2, 1) := by decide +kernel
theorem dX8_apart_16 : decode cX8_apart 16 = .ok (.invokevirtual 226, 3) := by decide +kernel
theorem dX8_apart_19 : decode cX8_apart 19 = .ok (.istore 4, 2) := by decide +kernel
theorem dX8_apart_21 : decode cX8_apart 21 = .ok (.iconst 0, 1) := by decide +kernel
theorem dX8_apart_22 : decode cX8_apart 22 = .ok (.istore 5, 2) := by decide +kernel
theorem dX8_apart_24 : decode cX8_apart 24 = .ok (.iload 4, 2) := by decide +kernel
theorem dX8_apart_26 : decode cX8_apart 26 = .ok (.istore 6, 2) := by decide +kernel
theorem dX8_apart_28 : decode cX8_apart 28 = .ok (.iload 6, 2) := by decide +kernel
theorem dX8_apart_30 : decode cX8_apart 30 = .ok (.ifCond .le 18, 3) := by decide +kernel
theorem dX8_apart_33 : decode cX8_apart 33 = .ok (.iinc 5 1, 3) := by decide +kernel
theorem dX8_apart_36 : decode cX8_apart 36 = .ok (.aload_n 0, 1) := by decide +kernel
theorem dX8_apart_37 : decode cX8_apart 37 = .ok (.getfield 74, 3) := by decide +kernel
theorem dX8_apart_40 : decode cX8_apart 40 = .ok (.iload 6, 2) := by decide +kernel
theorem dX8_apart_42 : decode cX8_apart 42 = .ok (.iaload, 1) := by decide +kernel
theorem dX8_apart_43 : decode cX8_apart 43 = .ok (.istore 6, 2) := by decide +kernel
theorem dX8_apart_45 : decode cX8_apart 45 = .ok (.goto (-17), 3) := by decide +kernel
theorem dX8_apart_48 : decode cX8_apart 48 = .ok (.aload_n 0, 1) := by decide +kernel
theorem dX8_apart_49 : decode cX8_apart 49 = .ok (.iload 5, 2) := by decide +kernel
theorem dX8_apart_51 : decode cX8_apart 51 = .ok (.putfield 126, 3) := by decide +kernel
theorem dX8_apart_54 : decode cX8_apart 54 = .ok (.iload 4, 2) := by decide +kernel
theorem dX8_apart_56 : decode cX8_apart 56 = .ok (.istore 6, 2) := by decide +kernel
theorem dX8_apart_58 : decode cX8_apart 58 = .ok (.iload 6, 2) := by decide +kernel
theorem dX8_apart_60 : decode cX8_apart 60 = .ok (.ifCond .le 32, 3) := by decide +kernel
theorem dX8_apart_63 : decode cX8_apart 63 = .ok (.iinc 5 (-1), 3) := by decide +kernel
theorem dX8_apart_66 : decode cX8_apart 66 = .ok (.aload_n 0, 1) := by decide +kernel
theorem dX8_apart_67 : decode cX8_apart 67 = .ok (.getfield 28, 3) := by decide +kernel
theorem dX8_apart_70 : decode cX8_apart 70 = .ok (.iload 5, 2) := by decide +kernel
theorem dX8_apart_72 : decode cX8_apart 72 = .ok (.aload_n 0, 1) := by decide +kernel
theorem dX8_apart_73 : decode cX8_apart 73 = .ok (.getfield 77, 3) := by decide +kernel
theorem dX8_apart_76 : decode cX8_apart 76 = .ok (.iload 6, 2) := by decide +kernel
theorem dX8_apart_78 : decode cX8_apart 78 = .ok (.iaload, 1) := by decide +kernel
theorem dX8_apart_79 : decode cX8_apart 79 = .ok (.iastore, 1) := by decide +kernel
theorem dX8_apart_80 : decode cX8_apart 80 = .ok (.aload_n 0, 1) := by decide +kernel
theorem dX8_apart_81 : decode cX8_apart 81 = .ok (.getfield 74, 3) := by decide +kernel
theorem dX8_apart_84 : decode cX8_apart 84 = .ok (.iload 6, 2) := by decide +kernel
theorem dX8_apart_86 : decode cX8_apart 86 = .ok (.iaload, 1) := by decide +kernel
theorem dX8_apart_87 : decode cX8_apart 87 = .ok (.istore 6, 2) := by decide +kernel
theorem dX8_apart_89 : decode cX8_apart 89 = .ok (.goto (-31), 3) := by decide +kernel
theorem dX8_apart_92 : decode cX8_apart 92 = .ok (.aload_n 0, 1) := by decide +kernel
theorem dX8_apart_93 : decode cX8_apart 93 = .ok (.getfield 126, 3) := by decide +kernel
theorem dX8_apart_96 : decode cX8_apart 96 = .ok (.ireturn, 1) := by decide +kernel
theorem dX8_twins_0 : decode cX8_twins 0 = .ok (.aload_n 0, 1) := by decide +kernel
theorem dX8_twins_1 : decode cX8_twins 1 = .ok (.iload_n 1, 1) := by decide +kernel
theorem dX8_twins_2 : decode cX8_twins 2 = .ok (.invokevirtual 105, 3) := by decide +kernel
theorem dX8_twins_5 : decode cX8_twins 5 = .ok (.ifCond .eq 21, 3) := by decide +kernel
theorem dX8_twins_8 : decode cX8_twins 8 = .ok (.aload_n 0, 1) := by decide +kernel
theorem dX8_twins_9 : decode cX8_twins 9 = .ok (.iload_n 1, 1) := by decide +kernel
theorem dX8_twins_10 : decode cX8_twins 10 = .ok (.iload_n 2, 1) := by decide +kernel
theorem dX8_twins_11 : decode cX8_twins 11 = .ok (.invokevirtual 109, 3) := by decide +kernel
theorem dX8_twins_14 : decode cX8_twins 14 = .ok (.ifCond .eq 12, 3) := by decide +kernel
theorem dX8_twins_17 : decode cX8_twins 17 = .ok (.aload_n 0, 1) := by decide +kernel
theorem dX8_twins_18 : decode cX8_twins 18 = .ok (.iload_n 1, 1) := by decide +kernel
theorem dX8_twins_19 : decode cX8_twins 19 = .ok (.iload_n 3, 1) := by decide +kernel
theorem dX8_twins_20 : decode cX8_twins 20 = .ok (.invokevirtual 109, 3) := by decide +kernel
theorem dX8_twins_23 : decode cX8_twins 23 = .ok (.ifCond .ne 5, 3) := by decide +kernel
theorem dX8_twins_26 : decode cX8_twins 26 = .ok (.iconst (-1), 1) := by decide +kernel
theorem dX8_twins_27 : decode cX8_twins 27 = .ok (.ireturn, 1) := by decide +kernel
theorem dX8_twins_28 : decode cX8_twins 28 = .ok (.aload_n 0, 1) := by decide +kernel
theorem dX8_twins_29 : decode cX8_twins 29 = .ok (.iload_n 1, 1) := by decide +kernel
theorem dX8_twins_30 : decode cX8_twins 30 = .ok (.invokevirtual 123, 3) := by decide +kernel
theorem dX8_twins_33 : decode cX8_twins 33 = .ok (.ifCond .ne 6, 3) := by decide +kernel
theorem dX8_twins_36 : decode cX8_twins 36 = .ok (.bipush (-3), 2) := by decide +kernel
theorem dX8_twins_38 : decode cX8_twins 38 = .ok (.ireturn, 1) := by decide +kernel
theorem dX8_twins_39 : decode cX8_twins 39 = .ok (.iconst 0, 1) := by decide +kernel
theorem dX8_twins_40 : decode cX8_twins 40 = .ok (.istore 4, 2) := by decide +kernel
theorem dX8_twins_42 : decode cX8_twins 42 = .ok (.iload 4, 2) := by decide +kernel
theorem dX8_twins_44 : decode cX8_twins 44 = .ok (.bipush 8, 2) := by decide +kernel
theorem dX8_twins_46 : decode cX8_twins 46 = .ok (.if_icmp .ge 54, 3) := by decide +kernel
theorem dX8_twins_49 : decode cX8_twins 49 = .ok (.aload_n 0, 1) := by decide +kernel
theorem dX8_twins_50 : decode cX8_twins 50 = .ok (.getfield 65, 3) := by decide +kernel
theorem dX8_twins_53 : decode cX8_twins 53 = .ok (.iload 4, 2) := by decide +kernel
theorem dX8_twins_55 : decode cX8_twins 55 = .ok (.aaload, 1) := by decide +kernel
theorem dX8_twins_56 : decode cX8_twins 56 = .ok (.iload 4, 2) := by decide +kernel
theorem dX8_twins_58 : decode cX8_twins 58 = .ok (.iload_n 2, 1) := by decide +kernel
theorem dX8_twins_59 : decode cX8_twins 59 = .ok (.if_icmp .ne 7, 3) := by decide +kernel
theorem dX8_twins_62 : decode cX8_twins 62 = .ok (.lconst 1, 1) := by decide +kernel
theorem dX8_twins_63 : decode cX8_twins 63 = .ok (.goto 4, 3) := by decide +kernel
theorem dX8_twins_66 : decode cX8_twins 66 = .ok (.lconst 0, 1) := by decide +kernel
theorem dX8_twins_67 : decode cX8_twins 67 = .ok (.invokevirtual 132, 3) := by decide +kernel
theorem dX8_twins_70 : decode cX8_twins 70 = .ok (.aload_n 0, 1) := by decide +kernel
theorem dX8_twins_71 : decode cX8_twins 71 = .ok (.getfield 65, 3) := by decide +kernel
theorem dX8_twins_74 : decode cX8_twins 74 = .ok (.bipush 8, 2) := by decide +kernel
theorem dX8_twins_76 : decode cX8_twins 76 = .ok (.iload 4, 2) := by decide +kernel
theorem dX8_twins_78 : decode cX8_twins 78 = .ok (.iadd, 1) := by decide +kernel
theorem dX8_twins_79 : decode cX8_twins 79 = .ok (.aaload, 1) := by decide +kernel
theorem dX8_twins_80 : decode cX8_twins 80 = .ok (.iload 4, 2) := by decide +kernel
theorem dX8_twins_82 : decode cX8_twins 82 = .ok (.iload_n 3, 1) := by decide +kernel
theorem dX8_twins_83 : decode cX8_twins 83 = .ok (.if_icmp .ne 7, 3) := by decide +kernel
theorem dX8_twins_86 : decode cX8_twins 86 = .ok (.lconst 1, 1) := by decide +kernel
theorem dX8_twins_87 : decode cX8_twins 87 = .ok (.goto 4, 3) := by decide +kernel
theorem dX8_twins_90 : decode cX8_twins 90 = .ok (.lconst 0, 1) := by decide +kernel
theorem dX8_twins_91 : decode cX8_twins 91 = .ok (.invokevirtual 132, 3) := by decide +kernel
theorem dX8_twins_94 : decode cX8_twins 94 = .ok (.iinc 4 1, 3) := by decide +kernel
theorem dX8_twins_97 : decode cX8_twins 97 = .ok (.goto (-55), 3) := by decide +kernel
theorem dX8_twins_100 : decode cX8_twins 100 = .ok (.aload_n 0, 1) := by decide +kernel
theorem dX8_twins_101 : decode cX8_twins 101 = .ok (.iload_n 1, 1) := by decide +kernel
theorem dX8_twins_102 : decode cX8_twins 102 = .ok (.iload_n 1, 1) := by decide +kernel
theorem dX8_twins_103 : decode cX8_twins 103 = .ok (.invokevirtual 219, 3) := by decide +kernel
theorem dX8_twins_106 : decode cX8_twins 106 = .ok (.ifCond .ge 7, 3) := by decide +kernel
theorem dX8_twins_109 : decode cX8_twins 109 = .ok (.iconst 1, 1) := by decide +kernel
theorem dX8_twins_110 : decode cX8_twins 110 = .ok (.goto 4, 3) := by decide +kernel
theorem dX8_twins_113 : decode cX8_twins 113 = .ok (.iconst 0, 1) := by decide +kernel
theorem dX8_twins_114 : decode cX8_twins 114 = .ok (.ireturn, 1) := by decide +kernel
theorem dX8_part_0 : decode cX8_part 0 = .ok (.iload_n 1, 1) := by decide +kernel
theorem dX8_part_1 : decode cX8_part 1 = .ok (.ifCond .lt 9, 3) := by decide +kernel
theorem dX8_part_4 : decode cX8_part 4 = .ok (.iload_n 1, 1) := by decide +kernel
theorem dX8_part_5 : decode cX8_part 5 = .ok (.bipush 25, 2) := by decide +kernel
theorem dX8_part_7 : decode cX8_part 7 = .ok (.if_icmp .le 7, 3) := by decide +kernel
theorem dX8_part_10 : decode cX8_part 10 = .ok (.ldc2_w 229, 3) := by decide +kernel
theorem dX8_part_13 : decode cX8_part 13 = .ok (.lreturn, 1) := by decide +kernel
theorem dX8_part_14 : decode cX8_part 14 = .ok (.aload_n 0, 1) := by decide +kernel
theorem dX8_part_15 : decode cX8_part 15 = .ok (.getfield 83, 3) := by decide +kernel
theorem dX8_part_18 : decode cX8_part 18 = .ok (.aload_n 0, 1) := by decide +kernel
theorem dX8_part_19 : decode cX8_part 19 = .ok (.getfield 36, 3) := by decide +kernel
theorem dX8_part_22 : decode cX8_part 22 = .ok (.invokevirtual 143, 3) := by decide +kernel
theorem dX8_part_25 : decode cX8_part 25 = .ok (.lconst 0, 1) := by decide +kernel
theorem dX8_part_26 : decode cX8_part 26 = .ok (.lstore_n 2, 1) := by decide +kernel
theorem dX8_part_27 : decode cX8_part 27 = .ok (.iconst 0, 1) := by decide +kernel
theorem dX8_part_28 : decode cX8_part 28 = .ok (.istore 4, 2) := by decide +kernel
theorem dX8_part_30 : decode cX8_part 30 = .ok (.iload 4, 2) := by decide +kernel
theorem dX8_part_32 : decode cX8_part 32 = .ok (.iload_n 1, 1) := by decide +kernel
theorem dX8_part_33 : decode cX8_part 33 = .ok (.if_icmp .gt 43, 3) := by decide +kernel
theorem dX8_part_36 : decode cX8_part 36 = .ok (.aload_n 0, 1) := by decide +kernel
theorem dX8_part_37 : decode cX8_part 37 = .ok (.getfield 83, 3) := by decide +kernel
theorem dX8_part_40 : decode cX8_part 40 = .ok (.ldc 231, 2) := by decide +kernel
theorem dX8_part_42 : decode cX8_part 42 = .ok (.invokevirtual 160, 3) := by decide +kernel
theorem dX8_part_45 : decode cX8_part 45 = .ok (.istore 5, 2) := by decide +kernel
theorem dX8_part_47 : decode cX8_part 47 = .ok (.aload_n 0, 1) := by decide +kernel
theorem dX8_part_48 : decode cX8_part 48 = .ok (.getfield 83, 3) := by decide +kernel
theorem dX8_part_51 : decode cX8_part 51 = .ok (.ldc 231, 2) := by decide +kernel
theorem dX8_part_53 : decode cX8_part 53 = .ok (.invokevirtual 160, 3) := by decide +kernel
theorem dX8_part_56 : decode cX8_part 56 = .ok (.istore 6, 2) := by decide +kernel
theorem dX8_part_58 : decode cX8_part 58 = .ok (.iload 6, 2) := by decide +kernel
theorem dX8_part_60 : decode cX8_part 60 = .ok (.i2l, 1) := by decide +kernel
theorem dX8_part_61 : decode cX8_part 61 = .ok (.ldc2_w 232, 3) := by decide +kernel
theorem dX8_part_64 : decode cX8_part 64 = .ok (.lmul, 1) := by decide +kernel
theorem dX8_part_65 : decode cX8_part 65 = .ok (.iload 5, 2) := by decide +kernel
theorem dX8_part_67 : decode cX8_part 67 = .ok (.i2l, 1) := by decide +kernel
theorem dX8_part_68 : decode cX8_part 68 = .ok (.ladd, 1) := by decide +kernel
theorem dX8_part_69 : decode cX8_part 69 = .ok (.lstore_n 2, 1) := by decide +kernel
theorem dX8_part_70 : decode cX8_part 70 = .ok (.iinc 4 1, 3) := by decide +kernel
theorem dX8_part_73 : decode cX8_part 73 = .ok (.goto (-43), 3) := by decide +kernel
theorem dX8_part_76 : decode cX8_part 76 = .ok (.lload_n 2, 1) := by decide +kernel
theorem dX8_part_77 : decode cX8_part 77 = .ok (.lreturn, 1) := by decide +kernel
theorem dX8_count_0 : decode cX8_count 0 = .ok (.iload_n 1, 1) := by decide +kernel
theorem dX8_count_1 : decode cX8_count 1 = .ok (.ifCond .ne 10, 3) := by decide +kernel
theorem dX8_count_4 : decode cX8_count 4 = .ok (.aload_n 0, 1) := by decide +kernel
theorem dX8_count_5 : decode cX8_count 5 = .ok (.getfield 101, 3) := by decide +kernel
theorem dX8_count_8 : decode cX8_count 8 = .ok (.goto 16, 3) := by decide +kernel
theorem dX8_count_11 : decode cX8_count 11 = .ok (.iload_n 1, 1) := by decide +kernel
theorem dX8_count_12 : decode cX8_count 12 = .ok (.iconst 1, 1) := by decide +kernel
theorem dX8_count_13 : decode cX8_count 13 = .ok (.if_icmp .ne 10, 3) := by decide +kernel
theorem dX8_count_16 : decode cX8_count 16 = .ok (.aload_n 0, 1) := by decide +kernel
theorem dX8_count_17 : decode cX8_count 17 = .ok (.getfield 126, 3) := by decide +kernel
theorem dX8_count_20 : decode cX8_count 20 = .ok (.goto 4, 3) := by decide +kernel
theorem dX8_count_23 : decode cX8_count 23 = .ok (.iconst (-1), 1) := by decide +kernel
theorem dX8_count_24 : decode cX8_count 24 = .ok (.ireturn, 1) := by decide +kernel
theorem dX8_remove_0 : decode cX8_remove 0 = .ok (.aload_n 0, 1) := by decide +kernel
theorem dX8_remove_1 : decode cX8_remove 1 = .ok (.getfield 101, 3) := by decide +kernel
theorem dX8_remove_4 : decode cX8_remove 4 = .ok (.ifCond .ne 5, 3) := by decide +kernel
theorem dX8_remove_7 : decode cX8_remove 7 = .ok (.iconst (-1), 1) := by decide +kernel
theorem dX8_remove_8 : decode cX8_remove 8 = .ok (.ireturn, 1) := by decide +kernel
theorem dX8_remove_9 : decode cX8_remove 9 = .ok (.aload_n 0, 1) := by decide +kernel
theorem dX8_remove_10 : decode cX8_remove 10 = .ok (.dup, 1) := by decide +kernel
theorem dX8_remove_11 : decode cX8_remove 11 = .ok (.getfield 101, 3) := by decide +kernel
theorem dX8_remove_14 : decode cX8_remove 14 = .ok (.iconst 1, 1) := by decide +kernel
theorem dX8_remove_15 : decode cX8_remove 15 = .ok (.isub, 1) := by decide +kernel
theorem dX8_remove_16 : decode cX8_remove 16 = .ok (.putfield 101, 3) := by decide +kernel
theorem dX8_remove_19 : decode cX8_remove 19 = .ok (.aload_n 0, 1) := by decide +kernel
theorem dX8_remove_20 : decode cX8_remove 20 = .ok (.getfield 101, 3) := by decide +kernel
theorem dX8_remove_23 : decode cX8_remove 23 = .ok (.ireturn, 1) := by decide +kernel
