theorem dX9_mayBegin_44 : decode cX9_mayBegin 44 = .ok (.iconst 1, 1) := by decide +kernel
theorem dX9_mayBegin_45 : decode cX9_mayBegin 45 = .ok (.goto 4, 3) := by decide +kernel
theorem dX9_mayBegin_48 : decode cX9_mayBegin 48 = .ok (.iconst 0, 1) := by decide +kernel
theorem dX9_mayBegin_49 : decode cX9_mayBegin 49 = .ok (.ireturn, 1) := by decide +kernel
theorem dX9_mayBegin_50 : decode cX9_mayBegin 50 = .ok (.aload_n 0, 1) := by decide +kernel
theorem dX9_mayBegin_51 : decode cX9_mayBegin 51 = .ok (.getfield 98, 3) := by decide +kernel
theorem dX9_mayBegin_54 : decode cX9_mayBegin 54 = .ok (.bipush 115, 2) := by decide +kernel
theorem dX9_mayBegin_56 : decode cX9_mayBegin 56 = .ok (.if_icmp .ne 23, 3) := by decide +kernel
theorem dX9_mayBegin_59 : decode cX9_mayBegin 59 = .ok (.aload_n 0, 1) := by decide +kernel
theorem dX9_mayBegin_60 : decode cX9_mayBegin 60 = .ok (.getfield 13, 3) := by decide +kernel
theorem dX9_mayBegin_63 : decode cX9_mayBegin 63 = .ok (.bipush 8, 2) := by decide +kernel
theorem dX9_mayBegin_65 : decode cX9_mayBegin 65 = .ok (.iaload, 1) := by decide +kernel
theorem dX9_mayBegin_66 : decode cX9_mayBegin 66 = .ok (.bipush 6, 2) := by decide +kernel
theorem dX9_mayBegin_68 : decode cX9_mayBegin 68 = .ok (.if_icmp .ge 7, 3) := by decide +kernel
theorem dX9_mayBegin_71 : decode cX9_mayBegin 71 = .ok (.iconst 1, 1) := by decide +kernel
theorem dX9_mayBegin_72 : decode cX9_mayBegin 72 = .ok (.goto 27, 3) := by decide +kernel
theorem dX9_mayBegin_75 : decode cX9_mayBegin 75 = .ok (.iconst 0, 1) := by decide +kernel
theorem dX9_mayBegin_76 : decode cX9_mayBegin 76 = .ok (.goto 23, 3) := by decide +kernel
theorem dX9_mayBegin_79 : decode cX9_mayBegin 79 = .ok (.aload_n 0, 1) := by decide +kernel
theorem dX9_mayBegin_80 : decode cX9_mayBegin 80 = .ok (.getfield 119, 3) := by decide +kernel
theorem dX9_mayBegin_83 : decode cX9_mayBegin 83 = .ok (.aload_n 0, 1) := by decide +kernel
theorem dX9_mayBegin_84 : decode cX9_mayBegin 84 = .ok (.getfield 98, 3) := by decide +kernel
theorem dX9_mayBegin_87 : decode cX9_mayBegin 87 = .ok (.invokestatic 122, 3) := by decide +kernel
theorem dX9_mayBegin_90 : decode cX9_mayBegin 90 = .ok (.iand, 1) := by decide +kernel
theorem dX9_mayBegin_91 : decode cX9_mayBegin 91 = .ok (.ifCond .ne 7, 3) := by decide +kernel
theorem dX9_mayBegin_94 : decode cX9_mayBegin 94 = .ok (.iconst 1, 1) := by decide +kernel
theorem dX9_mayBegin_95 : decode cX9_mayBegin 95 = .ok (.goto 4, 3) := by decide +kernel
theorem dX9_mayBegin_98 : decode cX9_mayBegin 98 = .ok (.iconst 0, 1) := by decide +kernel
theorem dX9_mayBegin_99 : decode cX9_mayBegin 99 = .ok (.ireturn, 1) := by decide +kernel
theorem dX9_readsItem_0 : decode cX9_readsItem 0 = .ok (.iload_n 1, 1) := by decide +kernel
theorem dX9_readsItem_1 : decode cX9_readsItem 1 = .ok (.bipush 114, 2) := by decide +kernel
theorem dX9_readsItem_3 : decode cX9_readsItem 3 = .ok (.if_icmp .ne 67, 3) := by decide +kernel
theorem dX9_readsItem_6 : decode cX9_readsItem 6 = .ok (.aload_n 0, 1) := by decide +kernel
theorem dX9_readsItem_7 : decode cX9_readsItem 7 = .ok (.getfield 13, 3) := by decide +kernel
theorem dX9_readsItem_10 : decode cX9_readsItem 10 = .ok (.bipush 6, 2) := by decide +kernel
theorem dX9_readsItem_12 : decode cX9_readsItem 12 = .ok (.iaload, 1) := by decide +kernel
theorem dX9_readsItem_13 : decode cX9_readsItem 13 = .ok (.istore_n 2, 1) := by decide +kernel
theorem dX9_readsItem_14 : decode cX9_readsItem 14 = .ok (.aload_n 0, 1) := by decide +kernel
theorem dX9_readsItem_15 : decode cX9_readsItem 15 = .ok (.getfield 16, 3) := by decide +kernel
theorem dX9_readsItem_18 : decode cX9_readsItem 18 = .ok (.iload_n 2, 1) := by decide +kernel
theorem dX9_readsItem_19 : decode cX9_readsItem 19 = .ok (.aload_n 0, 1) := by decide +kernel
theorem dX9_readsItem_20 : decode cX9_readsItem 20 = .ok (.iconst 0, 1) := by decide +kernel
theorem dX9_readsItem_21 : decode cX9_readsItem 21 = .ok (.bipush 30, 2) := by decide +kernel
theorem dX9_readsItem_23 : decode cX9_readsItem 23 = .ok (.invokevirtual 125, 3) := by decide +kernel
theorem dX9_readsItem_26 : decode cX9_readsItem 26 = .ok (.iastore, 1) := by decide +kernel
theorem dX9_readsItem_27 : decode cX9_readsItem 27 = .ok (.aload_n 0, 1) := by decide +kernel
theorem dX9_readsItem_28 : decode cX9_readsItem 28 = .ok (.getfield 19, 3) := by decide +kernel
theorem dX9_readsItem_31 : decode cX9_readsItem 31 = .ok (.iconst 5, 1) := by decide +kernel
theorem dX9_readsItem_32 : decode cX9_readsItem 32 = .ok (.iload_n 2, 1) := by decide +kernel
theorem dX9_readsItem_33 : decode cX9_readsItem 33 = .ok (.iadd, 1) := by decide +kernel
theorem dX9_readsItem_34 : decode cX9_readsItem 34 = .ok (.aload_n 0, 1) := by decide +kernel
theorem dX9_readsItem_35 : decode cX9_readsItem 35 = .ok (.iconst 0, 1) := by decide +kernel
theorem dX9_readsItem_36 : decode cX9_readsItem 36 = .ok (.iconst 3, 1) := by decide +kernel
theorem dX9_readsItem_37 : decode cX9_readsItem 37 = .ok (.invokevirtual 125, 3) := by decide +kernel
theorem dX9_readsItem_40 : decode cX9_readsItem 40 = .ok (.iastore, 1) := by decide +kernel
theorem dX9_readsItem_41 : decode cX9_readsItem 41 = .ok (.aload_n 0, 1) := by decide +kernel
theorem dX9_readsItem_42 : decode cX9_readsItem 42 = .ok (.getfield 22, 3) := by decide +kernel
theorem dX9_readsItem_45 : decode cX9_readsItem 45 = .ok (.iconst 5, 1) := by decide +kernel
theorem dX9_readsItem_46 : decode cX9_readsItem 46 = .ok (.iload_n 2, 1) := by decide +kernel
theorem dX9_readsItem_47 : decode cX9_readsItem 47 = .ok (.iadd, 1) := by decide +kernel
theorem dX9_readsItem_48 : decode cX9_readsItem 48 = .ok (.aload_n 0, 1) := by decide +kernel
theorem dX9_readsItem_49 : decode cX9_readsItem 49 = .ok (.iconst 0, 1) := by decide +kernel
theorem dX9_readsItem_50 : decode cX9_readsItem 50 = .ok (.bipush 99, 2) := by decide +kernel
theorem dX9_readsItem_52 : decode cX9_readsItem 52 = .ok (.invokevirtual 125, 3) := by decide +kernel
theorem dX9_readsItem_55 : decode cX9_readsItem 55 = .ok (.iastore, 1) := by decide +kernel
theorem dX9_readsItem_56 : decode cX9_readsItem 56 = .ok (.aload_n 0, 1) := by decide +kernel
theorem dX9_readsItem_57 : decode cX9_readsItem 57 = .ok (.getfield 13, 3) := by decide +kernel
theorem dX9_readsItem_60 : decode cX9_readsItem 60 = .ok (.bipush 6, 2) := by decide +kernel
theorem dX9_readsItem_62 : decode cX9_readsItem 62 = .ok (.dup2, 1) := by decide +kernel
theorem dX9_readsItem_63 : decode cX9_readsItem 63 = .ok (.iaload, 1) := by decide +kernel
theorem dX9_readsItem_64 : decode cX9_readsItem 64 = .ok (.iconst 1, 1) := by decide +kernel
theorem dX9_readsItem_65 : decode cX9_readsItem 65 = .ok (.iadd, 1) := by decide +kernel
theorem dX9_readsItem_66 : decode cX9_readsItem 66 = .ok (.iastore, 1) := by decide +kernel
theorem dX9_readsItem_67 : decode cX9_readsItem 67 = .ok (.goto 182, 3) := by decide +kernel
theorem dX9_readsItem_70 : decode cX9_readsItem 70 = .ok (.iload_n 1, 1) := by decide +kernel
theorem dX9_readsItem_71 : decode cX9_readsItem 71 = .ok (.bipush 100, 2) := by decide +kernel
theorem dX9_readsItem_73 : decode cX9_readsItem 73 = .ok (.if_icmp .ne 53, 3) := by decide +kernel
theorem dX9_readsItem_76 : decode cX9_readsItem 76 = .ok (.iconst 5, 1) := by decide +kernel
theorem dX9_readsItem_77 : decode cX9_readsItem 77 = .ok (.aload_n 0, 1) := by decide +kernel
theorem dX9_readsItem_78 : decode cX9_readsItem 78 = .ok (.getfield 13, 3) := by decide +kernel
theorem dX9_readsItem_81 : decode cX9_readsItem 81 = .ok (.bipush 7, 2) := by decide +kernel
theorem dX9_readsItem_83 : decode cX9_readsItem 83 = .ok (.iaload, 1) := by decide +kernel
theorem dX9_readsItem_84 : decode cX9_readsItem 84 = .ok (.iadd, 1) := by decide +kernel
theorem dX9_readsItem_85 : decode cX9_readsItem 85 = .ok (.istore_n 2, 1) := by decide +kernel
theorem dX9_readsItem_86 : decode cX9_readsItem 86 = .ok (.aload_n 0, 1) := by decide +kernel
theorem dX9_readsItem_87 : decode cX9_readsItem 87 = .ok (.getfield 25, 3) := by decide +kernel
theorem dX9_readsItem_90 : decode cX9_readsItem 90 = .ok (.iload_n 2, 1) := by decide +kernel
theorem dX9_readsItem_91 : decode cX9_readsItem 91 = .ok (.aload_n 0, 1) := by decide +kernel
theorem dX9_readsItem_92 : decode cX9_readsItem 92 = .ok (.iconst 0, 1) := by decide +kernel
theorem dX9_readsItem_93 : decode cX9_readsItem 93 = .ok (.bipush 9, 2) := by decide +kernel
theorem dX9_readsItem_95 : decode cX9_readsItem 95 = .ok (.invokevirtual 125, 3) := by decide +kernel
theorem dX9_readsItem_98 : decode cX9_readsItem 98 = .ok (.iastore, 1) := by decide +kernel
theorem dX9_readsItem_99 : decode cX9_readsItem 99 = .ok (.aload_n 0, 1) := by decide +kernel
theorem dX9_readsItem_100 : decode cX9_readsItem 100 = .ok (.getfield 28, 3) := by decide +kernel
theorem dX9_readsItem_103 : decode cX9_readsItem 103 = .ok (.iload_n 2, 1) := by decide +kernel
theorem dX9_readsItem_104 : decode cX9_readsItem 104 = .ok (.aload_n 0, 1) := by decide +kernel
theorem dX9_readsItem_105 : decode cX9_readsItem 105 = .ok (.iconst 1, 1) := by decide +kernel
theorem dX9_readsItem_106 : decode cX9_readsItem 106 = .ok (.bipush 30, 2) := by decide +kernel
theorem dX9_readsItem_108 : decode cX9_readsItem 108 = .ok (.invokevirtual 125, 3) := by decide +kernel
theorem dX9_readsItem_111 : decode cX9_readsItem 111 = .ok (.iastore, 1) := by decide +kernel
theorem dX9_readsItem_112 : decode cX9_readsItem 112 = .ok (.aload_n 0, 1) := by decide +kernel
theorem dX9_readsItem_113 : decode cX9_readsItem 113 = .ok (.getfield 13, 3) := by decide +kernel
theorem dX9_readsItem_116 : decode cX9_readsItem 116 = .ok (.bipush 7, 2) := by decide +kernel
theorem dX9_readsItem_118 : decode cX9_readsItem 118 = .ok (.dup2, 1) := by decide +kernel
theorem dX9_readsItem_119 : decode cX9_readsItem 119 = .ok (.iaload, 1) := by decide +kernel
theorem dX9_readsItem_120 : decode cX9_readsItem 120 = .ok (.iconst 1, 1) := by decide +kernel
theorem dX9_readsItem_121 : decode cX9_readsItem 121 = .ok (.iadd, 1) := by decide +kernel
theorem dX9_readsItem_122 : decode cX9_readsItem 122 = .ok (.iastore, 1) := by decide +kernel
theorem dX9_readsItem_123 : decode cX9_readsItem 123 = .ok (.goto 126, 3) := by decide +kernel
theorem dX9_readsItem_126 : decode cX9_readsItem 126 = .ok (.iload_n 1, 1) := by decide +kernel
theorem dX9_readsItem_127 : decode cX9_readsItem 127 = .ok (.bipush 115, 2) := by decide +kernel
theorem dX9_readsItem_129 : decode cX9_readsItem 129 = .ok (.if_icmp .ne 39, 3) := by decide +kernel
theorem dX9_readsItem_132 : decode cX9_readsItem 132 = .ok (.aload_n 0, 1) := by decide +kernel
theorem dX9_readsItem_133 : decode cX9_readsItem 133 = .ok (.getfield 31, 3) := by decide +kernel
theorem dX9_readsItem_136 : decode cX9_readsItem 136 = .ok (.bipush 6, 2) := by decide +kernel
theorem dX9_readsItem_138 : decode cX9_readsItem 138 = .ok (.aload_n 0, 1) := by decide +kernel
theorem dX9_readsItem_139 : decode cX9_readsItem 139 = .ok (.getfield 13, 3) := by decide +kernel
theorem dX9_readsItem_142 : decode cX9_readsItem 142 = .ok (.bipush 8, 2) := by decide +kernel
theorem dX9_readsItem_144 : decode cX9_readsItem 144 = .ok (.iaload, 1) := by decide +kernel
theorem dX9_readsItem_145 : decode cX9_readsItem 145 = .ok (.iadd, 1) := by decide +kernel
theorem dX9_readsItem_146 : decode cX9_readsItem 146 = .ok (.aload_n 0, 1) := by decide +kernel
theorem dX9_readsItem_147 : decode cX9_readsItem 147 = .ok (.iconst 0, 1) := by decide +kernel
theorem dX9_readsItem_148 : decode cX9_readsItem 148 = .ok (.bipush 31, 2) := by decide +kernel
theorem dX9_readsItem_150 : decode cX9_readsItem 150 = .ok (.invokevirtual 125, 3) := by decide +kernel
theorem dX9_readsItem_153 : decode cX9_readsItem 153 = .ok (.iastore, 1) := by decide +kernel
theorem dX9_readsItem_154 : decode cX9_readsItem 154 = .ok (.aload_n 0, 1) := by decide +kernel
theorem dX9_readsItem_155 : decode cX9_readsItem 155 = .ok (.getfield 13, 3) := by decide +kernel
theorem dX9_readsItem_158 : decode cX9_readsItem 158 = .ok (.bipush 8, 2) := by decide +kernel
theorem dX9_readsItem_160 : decode cX9_readsItem 160 = .ok (.dup2, 1) := by decide +kernel
theorem dX9_readsItem_161 : decode cX9_readsItem 161 = .ok (.iaload, 1) := by decide +kernel
theorem dX9_readsItem_162 : decode cX9_readsItem 162 = .ok (.iconst 1, 1) := by decide +kernel
theorem dX9_readsItem_163 : decode cX9_readsItem 163 = .ok (.iadd, 1) := by decide +kernel
theorem dX9_readsItem_164 : decode cX9_readsItem 164 = .ok (.iastore, 1) := by decide +kernel
theorem dX9_readsItem_165 : decode cX9_readsItem 165 = .ok (.goto 84, 3) := by decide +kernel
theorem dX9_readsItem_168 : decode cX9_readsItem 168 = .ok (.iload_n 1, 1) := by decide +kernel
theorem dX9_readsItem_169 : decode cX9_readsItem 169 = .ok (.bipush 99, 2) := by decide +kernel
theorem dX9_readsItem_171 : decode cX9_readsItem 171 = .ok (.if_icmp .ne 27, 3) := by decide +kernel
theorem dX9_readsItem_174 : decode cX9_readsItem 174 = .ok (.aload_n 0, 1) := by decide +kernel
theorem dX9_readsItem_175 : decode cX9_readsItem 175 = .ok (.getfield 13, 3) := by decide +kernel
theorem dX9_readsItem_178 : decode cX9_readsItem 178 = .ok (.bipush 9, 2) := by decide +kernel
theorem dX9_readsItem_180 : decode cX9_readsItem 180 = .ok (.aload_n 0, 1) := by decide +kernel
theorem dX9_readsItem_181 : decode cX9_readsItem 181 = .ok (.iconst 0, 1) := by decide +kernel
theorem dX9_readsItem_182 : decode cX9_readsItem 182 = .ok (.aload_n 0, 1) := by decide +kernel
theorem dX9_readsItem_183 : decode cX9_readsItem 183 = .ok (.getfield 13, 3) := by decide +kernel
theorem dX9_readsItem_186 : decode cX9_readsItem 186 = .ok (.bipush 8, 2) := by decide +kernel
theorem dX9_readsItem_188 : decode cX9_readsItem 188 = .ok (.iaload, 1) := by decide +kernel
theorem dX9_readsItem_189 : decode cX9_readsItem 189 = .ok (.iconst 1, 1) := by decide +kernel
theorem dX9_readsItem_190 : decode cX9_readsItem 190 = .ok (.isub, 1) := by decide +kernel
theorem dX9_readsItem_191 : decode cX9_readsItem 191 = .ok (.invokevirtual 125, 3) := by decide +kernel
theorem dX9_readsItem_194 : decode cX9_readsItem 194 = .ok (.iastore, 1) := by decide +kernel
theorem dX9_readsItem_195 : decode cX9_readsItem 195 = .ok (.goto 41, 3) := by decide +kernel
theorem dX9_readsItem_198 : decode cX9_readsItem 198 = .ok (.iload_n 1, 1) := by decide +kernel
theorem dX9_readsItem_199 : decode cX9_readsItem 199 = .ok (.bipush 119, 2) := by decide +kernel
theorem dX9_readsItem_201 : decode cX9_readsItem 201 = .ok (.if_icmp .ne 20, 3) := by decide +kernel
theorem dX9_readsItem_204 : decode cX9_readsItem 204 = .ok (.aload_n 0, 1) := by decide +kernel
theorem dX9_readsItem_205 : decode cX9_readsItem 205 = .ok (.getfield 13, 3) := by decide +kernel
theorem dX9_readsItem_208 : decode cX9_readsItem 208 = .ok (.bipush 10, 2) := by decide +kernel
theorem dX9_readsItem_210 : decode cX9_readsItem 210 = .ok (.aload_n 0, 1) := by decide +kernel
theorem dX9_readsItem_211 : decode cX9_readsItem 211 = .ok (.iconst 0, 1) := by decide +kernel
theorem dX9_readsItem_212 : decode cX9_readsItem 212 = .ok (.bipush 9, 2) := by decide +kernel
theorem dX9_readsItem_214 : decode cX9_readsItem 214 = .ok (.invokevirtual 125, 3) := by decide +kernel
theorem dX9_readsItem_217 : decode cX9_readsItem 217 = .ok (.iastore, 1) := by decide +kernel
theorem dX9_readsItem_218 : decode cX9_readsItem 218 = .ok (.goto 18, 3) := by decide +kernel
theorem dX9_readsItem_221 : decode cX9_readsItem 221 = .ok (.aload_n 0, 1) := by decide +kernel
theorem dX9_readsItem_222 : decode cX9_readsItem 222 = .ok (.getfield 13, 3) := by decide +kernel
theorem dX9_readsItem_225 : decode cX9_readsItem 225 = .ok (.bipush 11, 2) := by decide +kernel
theorem dX9_readsItem_227 : decode cX9_readsItem 227 = .ok (.aload_n 0, 1) := by decide +kernel
theorem dX9_readsItem_228 : decode cX9_readsItem 228 = .ok (.iconst 1, 1) := by decide +kernel
theorem dX9_readsItem_229 : decode cX9_readsItem 229 = .ok (.sipush 500, 3) := by decide +kernel
theorem dX9_readsItem_232 : decode cX9_readsItem 232 = .ok (.invokevirtual 125, 3) := by decide +kernel
theorem dX9_readsItem_235 : decode cX9_readsItem 235 = .ok (.iastore, 1) := by decide +kernel
theorem dX9_readsItem_236 : decode cX9_readsItem 236 = .ok (.aload_n 0, 1) := by decide +kernel
theorem dX9_readsItem_237 : decode cX9_readsItem 237 = .ok (.dup, 1) := by decide +kernel
theorem dX9_readsItem_238 : decode cX9_readsItem 238 = .ok (.getfield 119, 3) := by decide +kernel
theorem dX9_readsItem_241 : decode cX9_readsItem 241 = .ok (.iload_n 1, 1) := by decide +kernel
theorem dX9_readsItem_242 : decode cX9_readsItem 242 = .ok (.invokestatic 122, 3) := by decide +kernel
theorem dX9_readsItem_245 : decode cX9_readsItem 245 = .ok (.ior, 1) := by decide +kernel
theorem dX9_readsItem_246 : decode cX9_readsItem 246 = .ok (.putfield 119, 3) := by decide +kernel
theorem dX9_readsItem_249 : decode cX9_readsItem 249 = .ok (.return_, 1) := by decide +kernel
theorem dX9_house_0 : decode cX9_house 0 = .ok (.aload_n 0, 1) := by decide +kernel
theorem dX9_house_1 : decode cX9_house 1 = .ok (.iconst 0, 1) := by decide +kernel
theorem dX9_house_2 : decode cX9_house 2 = .ok (.putfield 74, 3) := by decide +kernel
theorem dX9_house_5 : decode cX9_house 5 = .ok (.aload_n 0, 1) := by decide +kernel
theorem dX9_house_6 : decode cX9_house 6 = .ok (.iconst (-1), 1) := by decide +kernel
theorem dX9_house_7 : decode cX9_house 7 = .ok (.putfield 105, 3) := by decide +kernel
theorem dX9_house_10 : decode cX9_house 10 = .ok (.aload_n 0, 1) := by decide +kernel
theorem dX9_house_11 : decode cX9_house 11 = .ok (.iconst 0, 1) := by decide +kernel
theorem dX9_house_12 : decode cX9_house 12 = .ok (.putfield 85, 3) := by decide +kernel
theorem dX9_house_15 : decode cX9_house 15 = .ok (.aload_n 0, 1) := by decide +kernel
theorem dX9_house_16 : decode cX9_house 16 = .ok (.invokevirtual 68, 3) := by decide +kernel
theorem dX9_house_19 : decode cX9_house 19 = .ok (.iconst 0, 1) := by decide +kernel
theorem dX9_house_20 : decode cX9_house 20 = .ok (.istore_n 1, 1) := by decide +kernel
theorem dX9_house_21 : decode cX9_house 21 = .ok (.aload_n 0, 1) := by decide +kernel
theorem dX9_house_22 : decode cX9_house 22 = .ok (.invokevirtual 112, 3) := by decide +kernel
theorem dX9_house_25 : decode cX9_house 25 = .ok (.aload_n 0, 1) := by decide +kernel
theorem dX9_house_26 : decode cX9_house 26 = .ok (.invokevirtual 108, 3) := by decide +kernel
theorem dX9_house_29 : decode cX9_house 29 = .ok (.ifCond .eq 71, 3) := by decide +kernel
theorem dX9_house_32 : decode cX9_house 32 = .ok (.aload_n 0, 1) := by decide +kernel
theorem dX9_house_33 : decode cX9_house 33 = .ok (.getfield 95, 3) := by decide +kernel
theorem dX9_house_36 : decode cX9_house 36 = .ok (.ifCond .eq 64, 3) := by decide +kernel
theorem dX9_house_39 : decode cX9_house 39 = .ok (.aload_n 0, 1) := by decide +kernel
theorem dX9_house_40 : decode cX9_house 40 = .ok (.aload_n 0, 1) := by decide +kernel
theorem dX9_house_41 : decode cX9_house 41 = .ok (.getfield 95, 3) := by decide +kernel
theorem dX9_house_44 : decode cX9_house 44 = .ok (.iconst 1, 1) := by decide +kernel
theorem dX9_house_45 : decode cX9_house 45 = .ok (.if_icmp .ne 14, 3) := by decide +kernel
theorem dX9_house_48 : decode cX9_house 48 = .ok (.aload_n 0, 1) := by decide +kernel
theorem dX9_house_49 : decode cX9_house 49 = .ok (.invokevirtual 129, 3) := by decide +kernel
theorem dX9_house_52 : decode cX9_house 52 = .ok (.ifCond .eq 7, 3) := by decide +kernel
theorem dX9_house_55 : decode cX9_house 55 = .ok (.iconst 1, 1) := by decide +kernel
theorem dX9_house_56 : decode cX9_house 56 = .ok (.goto 4, 3) := by decide +kernel
theorem dX9_house_59 : decode cX9_house 59 = .ok (.iconst 0, 1) := by decide +kernel
theorem dX9_house_60 : decode cX9_house 60 = .ok (.invokevirtual 115, 3) := by decide +kernel
theorem dX9_house_63 : decode cX9_house 63 = .ok (.istore_n 2, 1) := by decide +kernel
theorem dX9_house_64 : decode cX9_house 64 = .ok (.aload_n 0, 1) := by decide +kernel
theorem dX9_house_65 : decode cX9_house 65 = .ok (.invokevirtual 108, 3) := by decide +kernel
theorem dX9_house_68 : decode cX9_house 68 = .ok (.ifCond .eq 8, 3) := by decide +kernel
theorem dX9_house_71 : decode cX9_house 71 = .ok (.aload_n 0, 1) := by decide +kernel
theorem dX9_house_72 : decode cX9_house 72 = .ok (.iload_n 2, 1) := by decide +kernel
theorem dX9_house_73 : decode cX9_house 73 = .ok (.invokevirtual 132, 3) := by decide +kernel
theorem dX9_house_76 : decode cX9_house 76 = .ok (.aload_n 0, 1) := by decide +kernel
theorem dX9_house_77 : decode cX9_house 77 = .ok (.aload_n 0, 1) := by decide +kernel
theorem dX9_house_78 : decode cX9_house 78 = .ok (.getfield 95, 3) := by decide +kernel
theorem dX9_house_81 : decode cX9_house 81 = .ok (.iconst 3, 1) := by decide +kernel
theorem dX9_house_82 : decode cX9_house 82 = .ok (.if_icmp .ne 7, 3) := by decide +kernel
theorem dX9_house_85 : decode cX9_house 85 = .ok (.iconst 1, 1) := by decide +kernel
theorem dX9_house_86 : decode cX9_house 86 = .ok (.goto 4, 3) := by decide +kernel
theorem dX9_house_89 : decode cX9_house 89 = .ok (.iconst 0, 1) := by decide +kernel
theorem dX9_house_90 : decode cX9_house 90 = .ok (.invokevirtual 115, 3) := by decide +kernel
theorem dX9_house_93 : decode cX9_house 93 = .ok (.pop, 1) := by decide +kernel
theorem dX9_house_94 : decode cX9_house 94 = .ok (.iinc 1 1, 3) := by decide +kernel
theorem dX9_house_97 : decode cX9_house 97 = .ok (.goto (-72), 3) := by decide +kernel
theorem dX9_house_100 : decode cX9_house 100 = .ok (.aload_n 0, 1) := by decide +kernel
theorem dX9_house_101 : decode cX9_house 101 = .ok (.invokevirtual 108, 3) := by decide +kernel
theorem dX9_house_104 : decode cX9_house 104 = .ok (.ifCond .ne 11, 3) := by decide +kernel
theorem dX9_house_107 : decode cX9_house 107 = .ok (.bipush (-10), 2) := by decide +kernel
theorem dX9_house_109 : decode cX9_house 109 = .ok (.aload_n 0, 1) := by decide +kernel
theorem dX9_house_110 : decode cX9_house 110 = .ok (.getfield 105, 3) := by decide +kernel
theorem dX9_house_113 : decode cX9_house 113 = .ok (.isub, 1) := by decide +kernel
theorem dX9_house_114 : decode cX9_house 114 = .ok (.ireturn, 1) := by decide +kernel
theorem dX9_house_115 : decode cX9_house 115 = .ok (.aload_n 0, 1) := by decide +kernel
theorem dX9_house_116 : decode cX9_house 116 = .ok (.invokevirtual 71, 3) := by decide +kernel
theorem dX9_house_119 : decode cX9_house 119 = .ok (.iload_n 1, 1) := by decide +kernel
theorem dX9_house_120 : decode cX9_house 120 = .ok (.ireturn, 1) := by decide +kernel
theorem dX9_settles_0 : decode cX9_settles 0 = .ok (.iconst 0, 1) := by decide +kernel
theorem dX9_settles_1 : decode cX9_settles 1 = .ok (.istore_n 1, 1) := by decide +kernel
theorem dX9_settles_2 : decode cX9_settles 2 = .ok (.iload_n 1, 1) := by decide +kernel
theorem dX9_settles_3 : decode cX9_settles 3 = .ok (.bipush 6, 2) := by decide +kernel
theorem dX9_settles_5 : decode cX9_settles 5 = .ok (.if_icmp .ge 39, 3) := by decide +kernel
theorem dX9_settles_8 : decode cX9_settles 8 = .ok (.aload_n 0, 1) := by decide +kernel
theorem dX9_settles_9 : decode cX9_settles 9 = .ok (.getfield 13, 3) := by decide +kernel
theorem dX9_settles_12 : decode cX9_settles 12 = .ok (.iload_n 1, 1) := by decide +kernel
theorem dX9_settles_13 : decode cX9_settles 13 = .ok (.aload_n 0, 1) := by decide +kernel
theorem dX9_settles_14 : decode cX9_settles 14 = .ok (.getfield 13, 3) := by decide +kernel
theorem dX9_settles_17 : decode cX9_settles 17 = .ok (.bipush 6, 2) := by decide +kernel
theorem dX9_settles_19 : decode cX9_settles 19 = .ok (.iload_n 1, 1) := by decide +kernel
theorem dX9_settles_20 : decode cX9_settles 20 = .ok (.iadd, 1) := by decide +kernel
theorem dX9_settles_21 : decode cX9_settles 21 = .ok (.iaload, 1) := by decide +kernel
theorem dX9_settles_22 : decode cX9_settles 22 = .ok (.iastore, 1) := by decide +kernel
theorem dX9_settles_23 : decode cX9_settles 23 = .ok (.aload_n 0, 1) := by decide +kernel
theorem dX9_settles_24 : decode cX9_settles 24 = .ok (.getfield 31, 3) := by decide +kernel
theorem dX9_settles_27 : decode cX9_settles 27 = .ok (.iload_n 1, 1) := by decide +kernel
theorem dX9_settles_28 : decode cX9_settles 28 = .ok (.aload_n 0, 1) := by decide +kernel
theorem dX9_settles_29 : decode cX9_settles 29 = .ok (.getfield 31, 3) := by decide +kernel
theorem dX9_settles_32 : decode cX9_settles 32 = .ok (.bipush 6, 2) := by decide +kernel
theorem dX9_settles_34 : decode cX9_settles 34 = .ok (.iload_n 1, 1) := by decide +kernel
theorem dX9_settles_35 : decode cX9_settles 35 = .ok (.iadd, 1) := by decide +kernel
theorem dX9_settles_36 : decode cX9_settles 36 = .ok (.iaload, 1) := by decide +kernel
theorem dX9_settles_37 : decode cX9_settles 37 = .ok (.iastore, 1) := by decide +kernel
theorem dX9_settles_38 : decode cX9_settles 38 = .ok (.iinc 1 1, 3) := by decide +kernel
theorem dX9_settles_41 : decode cX9_settles 41 = .ok (.goto (-39), 3) := by decide +kernel
theorem dX9_settles_44 : decode cX9_settles 44 = .ok (.iconst 0, 1) := by decide +kernel
theorem dX9_settles_45 : decode cX9_settles 45 = .ok (.istore_n 1, 1) := by decide +kernel
theorem dX9_settles_46 : decode cX9_settles 46 = .ok (.iload_n 1, 1) := by decide +kernel
theorem dX9_settles_47 : decode cX9_settles 47 = .ok (.bipush 15, 2) := by decide +kernel
theorem dX9_settles_49 : decode cX9_settles 49 = .ok (.if_icmp .ge 16, 3) := by decide +kernel
theorem dX9_settles_52 : decode cX9_settles 52 = .ok (.aload_n 0, 1) := by decide +kernel
theorem dX9_settles_53 : decode cX9_settles 53 = .ok (.getfield 34, 3) := by decide +kernel
theorem dX9_settles_56 : decode cX9_settles 56 = .ok (.iload_n 1, 1) := by decide +kernel
theorem dX9_settles_57 : decode cX9_settles 57 = .ok (.iconst 0, 1) := by decide +kernel
theorem dX9_settles_58 : decode cX9_settles 58 = .ok (.iastore, 1) := by decide +kernel
theorem dX9_settles_59 : decode cX9_settles 59 = .ok (.iinc 1 1, 3) := by decide +kernel
theorem dX9_settles_62 : decode cX9_settles 62 = .ok (.goto (-16), 3) := by decide +kernel
theorem dX9_settles_65 : decode cX9_settles 65 = .ok (.iconst 0, 1) := by decide +kernel
theorem dX9_settles_66 : decode cX9_settles 66 = .ok (.istore_n 1, 1) := by decide +kernel
theorem dX9_settles_67 : decode cX9_settles 67 = .ok (.iload_n 1, 1) := by decide +kernel
theorem dX9_settles_68 : decode cX9_settles 68 = .ok (.iconst 5, 1) := by decide +kernel
theorem dX9_settles_69 : decode cX9_settles 69 = .ok (.if_icmp .ge 93, 3) := by decide +kernel
theorem dX9_settles_72 : decode cX9_settles 72 = .ok (.aload_n 0, 1) := by decide +kernel
theorem dX9_settles_73 : decode cX9_settles 73 = .ok (.getfield 19, 3) := by decide +kernel
theorem dX9_settles_76 : decode cX9_settles 76 = .ok (.iload_n 1, 1) := by decide +kernel
theorem dX9_settles_77 : decode cX9_settles 77 = .ok (.aload_n 0, 1) := by decide +kernel
theorem dX9_settles_78 : decode cX9_settles 78 = .ok (.getfield 19, 3) := by decide +kernel
theorem dX9_settles_81 : decode cX9_settles 81 = .ok (.iconst 5, 1) := by decide +kernel
theorem dX9_settles_82 : decode cX9_settles 82 = .ok (.iload_n 1, 1) := by decide +kernel
theorem dX9_settles_83 : decode cX9_settles 83 = .ok (.iadd, 1) := by decide +kernel
theorem dX9_settles_84 : decode cX9_settles 84 = .ok (.iaload, 1) := by decide +kernel
theorem dX9_settles_85 : decode cX9_settles 85 = .ok (.iastore, 1) := by decide +kernel
theorem dX9_settles_86 : decode cX9_settles 86 = .ok (.aload_n 0, 1) := by decide +kernel
theorem dX9_settles_87 : decode cX9_settles 87 = .ok (.getfield 22, 3) := by decide +kernel
theorem dX9_settles_90 : decode cX9_settles 90 = .ok (.iload_n 1, 1) := by decide +kernel
theorem dX9_settles_91 : decode cX9_settles 91 = .ok (.aload_n 0, 1) := by decide +kernel
theorem dX9_settles_92 : decode cX9_settles 92 = .ok (.getfield 22, 3) := by decide +kernel
theorem dX9_settles_95 : decode cX9_settles 95 = .ok (.iconst 5, 1) := by decide +kernel
theorem dX9_settles_96 : decode cX9_settles 96 = .ok (.iload_n 1, 1) := by decide +kernel
theorem dX9_settles_97 : decode cX9_settles 97 = .ok (.iadd, 1) := by decide +kernel
theorem dX9_settles_98 : decode cX9_settles 98 = .ok (.iaload, 1) := by decide +kernel
theorem dX9_settles_99 : decode cX9_settles 99 = .ok (.iastore, 1) := by decide +kernel
theorem dX9_settles_100 : decode cX9_settles 100 = .ok (.aload_n 0, 1) := by decide +kernel
theorem dX9_settles_101 : decode cX9_settles 101 = .ok (.getfield 25, 3) := by decide +kernel
theorem dX9_settles_104 : decode cX9_settles 104 = .ok (.iload_n 1, 1) := by decide +kernel
theorem dX9_settles_105 : decode cX9_settles 105 = .ok (.aload_n 0, 1) := by decide +kernel
theorem dX9_settles_106 : decode cX9_settles 106 = .ok (.getfield 25, 3) := by decide +kernel
theorem dX9_settles_109 : decode cX9_settles 109 = .ok (.iconst 5, 1) := by decide +kernel
theorem dX9_settles_110 : decode cX9_settles 110 = .ok (.iload_n 1, 1) := by decide +kernel
theorem dX9_settles_111 : decode cX9_settles 111 = .ok (.iadd, 1) := by decide +kernel
theorem dX9_settles_112 : decode cX9_settles 112 = .ok (.iaload, 1) := by decide +kernel
theorem dX9_settles_113 : decode cX9_settles 113 = .ok (.iastore, 1) := by decide +kernel
theorem dX9_settles_114 : decode cX9_settles 114 = .ok (.aload_n 0, 1) := by decide +kernel
theorem dX9_settles_115 : decode cX9_settles 115 = .ok (.getfield 28, 3) := by decide +kernel
theorem dX9_settles_118 : decode cX9_settles 118 = .ok (.iload_n 1, 1) := by decide +kernel
theorem dX9_settles_119 : decode cX9_settles 119 = .ok (.aload_n 0, 1) := by decide +kernel
theorem dX9_settles_120 : decode cX9_settles 120 = .ok (.getfield 28, 3) := by decide +kernel
theorem dX9_settles_123 : decode cX9_settles 123 = .ok (.iconst 5, 1) := by decide +kernel
theorem dX9_settles_124 : decode cX9_settles 124 = .ok (.iload_n 1, 1) := by decide +kernel
theorem dX9_settles_125 : decode cX9_settles 125 = .ok (.iadd, 1) := by decide +kernel
theorem dX9_settles_126 : decode cX9_settles 126 = .ok (.iaload, 1) := by decide +kernel
theorem dX9_settles_127 : decode cX9_settles 127 = .ok (.iastore, 1) := by decide +kernel
theorem dX9_settles_128 : decode cX9_settles 128 = .ok (.aload_n 0, 1) := by decide +kernel
theorem dX9_settles_129 : decode cX9_settles 129 = .ok (.getfield 34, 3) := by decide +kernel
theorem dX9_settles_132 : decode cX9_settles 132 = .ok (.iconst 5, 1) := by decide +kernel
theorem dX9_settles_133 : decode cX9_settles 133 = .ok (.iload_n 1, 1) := by decide +kernel
theorem dX9_settles_134 : decode cX9_settles 134 = .ok (.iadd, 1) := by decide +kernel
theorem dX9_settles_135 : decode cX9_settles 135 = .ok (.iload_n 1, 1) := by decide +kernel
theorem dX9_settles_136 : decode cX9_settles 136 = .ok (.aload_n 0, 1) := by decide +kernel
theorem dX9_settles_137 : decode cX9_settles 137 = .ok (.getfield 13, 3) := by decide +kernel
theorem dX9_settles_140 : decode cX9_settles 140 = .ok (.iconst 0, 1) := by decide +kernel
theorem dX9_settles_141 : decode cX9_settles 141 = .ok (.iaload, 1) := by decide +kernel
theorem dX9_settles_142 : decode cX9_settles 142 = .ok (.if_icmp .ge 12, 3) := by decide +kernel
theorem dX9_settles_145 : decode cX9_settles 145 = .ok (.aload_n 0, 1) := by decide +kernel
theorem dX9_settles_146 : decode cX9_settles 146 = .ok (.getfield 16, 3) := by decide +kernel
theorem dX9_settles_149 : decode cX9_settles 149 = .ok (.iload_n 1, 1) := by decide +kernel
theorem dX9_settles_150 : decode cX9_settles 150 = .ok (.iaload, 1) := by decide +kernel
theorem dX9_settles_151 : decode cX9_settles 151 = .ok (.goto 4, 3) := by decide +kernel
theorem dX9_settles_154 : decode cX9_settles 154 = .ok (.iconst 0, 1) := by decide +kernel
theorem dX9_settles_155 : decode cX9_settles 155 = .ok (.iastore, 1) := by decide +kernel
theorem dX9_settles_156 : decode cX9_settles 156 = .ok (.iinc 1 1, 3) := by decide +kernel
theorem dX9_settles_159 : decode cX9_settles 159 = .ok (.goto (-92), 3) := by decide +kernel
theorem dX9_settles_162 : decode cX9_settles 162 = .ok (.aload_n 0, 1) := by decide +kernel
theorem dX9_settles_163 : decode cX9_settles 163 = .ok (.iconst 0, 1) := by decide +kernel
theorem dX9_settles_164 : decode cX9_settles 164 = .ok (.putfield 82, 3) := by decide +kernel
theorem dX9_settles_167 : decode cX9_settles 167 = .ok (.aload_n 0, 1) := by decide +kernel
theorem dX9_settles_168 : decode cX9_settles 168 = .ok (.iconst 0, 1) := by decide +kernel
theorem dX9_settles_169 : decode cX9_settles 169 = .ok (.putfield 136, 3) := by decide +kernel
theorem dX9_settles_172 : decode cX9_settles 172 = .ok (.aload_n 0, 1) := by decide +kernel
theorem dX9_settles_173 : decode cX9_settles 173 = .ok (.iconst 0, 1) := by decide +kernel
theorem dX9_settles_174 : decode cX9_settles 174 = .ok (.putfield 139, 3) := by decide +kernel
theorem dX9_settles_177 : decode cX9_settles 177 = .ok (.aload_n 0, 1) := by decide +kernel
theorem dX9_settles_178 : decode cX9_settles 178 = .ok (.getfield 40, 3) := by decide +kernel
theorem dX9_settles_181 : decode cX9_settles 181 = .ok (.iconst 0, 1) := by decide +kernel
theorem dX9_settles_182 : decode cX9_settles 182 = .ok (.iconst 0, 1) := by decide +kernel
theorem dX9_settles_183 : decode cX9_settles 183 = .ok (.bastore, 1) := by decide +kernel
theorem dX9_settles_184 : decode cX9_settles 184 = .ok (.aload_n 0, 1) := by decide +kernel
theorem dX9_settles_185 : decode cX9_settles 185 = .ok (.getfield 40, 3) := by decide +kernel
theorem dX9_settles_188 : decode cX9_settles 188 = .ok (.iconst 1, 1) := by decide +kernel
theorem dX9_settles_189 : decode cX9_settles 189 = .ok (.iconst 0, 1) := by decide +kernel
theorem dX9_settles_190 : decode cX9_settles 190 = .ok (.bastore, 1) := by decide +kernel
theorem dX9_settles_191 : decode cX9_settles 191 = .ok (.return_, 1) := by decide +kernel
theorem dX9_isRoom_0 : decode cX9_isRoom 0 = .ok (.iload_n 1, 1) := by decide +kernel
theorem dX9_isRoom_1 : decode cX9_isRoom 1 = .ok (.iconst 0, 1) := by decide +kernel
theorem dX9_isRoom_2 : decode cX9_isRoom 2 = .ok (.aload_n 0, 1) := by decide +kernel
theorem dX9_isRoom_3 : decode cX9_isRoom 3 = .ok (.getfield 13, 3) := by decide +kernel
theorem dX9_isRoom_6 : decode cX9_isRoom 6 = .ok (.iconst 0, 1) := by decide +kernel
theorem dX9_isRoom_7 : decode cX9_isRoom 7 = .ok (.iaload, 1) := by decide +kernel
theorem dX9_isRoom_8 : decode cX9_isRoom 8 = .ok (.iconst 1, 1) := by decide +kernel
theorem dX9_isRoom_9 : decode cX9_isRoom 9 = .ok (.isub, 1) := by decide +kernel
theorem dX9_isRoom_10 : decode cX9_isRoom 10 = .ok (.invokestatic 78, 3) := by decide +kernel
theorem dX9_isRoom_13 : decode cX9_isRoom 13 = .ok (.ireturn, 1) := by decide +kernel
theorem dX9_isDoing_0 : decode cX9_isDoing 0 = .ok (.iload_n 1, 1) := by decide +kernel
theorem dX9_isDoing_1 : decode cX9_isDoing 1 = .ok (.iconst 0, 1) := by decide +kernel
theorem dX9_isDoing_2 : decode cX9_isDoing 2 = .ok (.aload_n 0, 1) := by decide +kernel
theorem dX9_isDoing_3 : decode cX9_isDoing 3 = .ok (.getfield 13, 3) := by decide +kernel
theorem dX9_isDoing_6 : decode cX9_isDoing 6 = .ok (.iconst 1, 1) := by decide +kernel
theorem dX9_isDoing_7 : decode cX9_isDoing 7 = .ok (.iaload, 1) := by decide +kernel
theorem dX9_isDoing_8 : decode cX9_isDoing 8 = .ok (.iconst 1, 1) := by decide +kernel
theorem dX9_isDoing_9 : decode cX9_isDoing 9 = .ok (.isub, 1) := by decide +kernel
theorem dX9_isDoing_10 : decode cX9_isDoing 10 = .ok (.invokestatic 78, 3) := by decide +kernel
theorem dX9_isDoing_13 : decode cX9_isDoing 13 = .ok (.ireturn, 1) := by decide +kernel
theorem dX9_isSolved_0 : decode cX9_isSolved 0 = .ok (.aload_n 0, 1) := by decide +kernel
theorem dX9_isSolved_1 : decode cX9_isSolved 1 = .ok (.getfield 34, 3) := by decide +kernel
theorem dX9_isSolved_4 : decode cX9_isSolved 4 = .ok (.iconst 3, 1) := by decide +kernel
theorem dX9_isSolved_5 : decode cX9_isSolved 5 = .ok (.iaload, 1) := by decide +kernel
theorem dX9_isSolved_6 : decode cX9_isSolved 6 = .ok (.iload_n 1, 1) := by decide +kernel
theorem dX9_isSolved_7 : decode cX9_isSolved 7 = .ok (.ishr, 1) := by decide +kernel
theorem dX9_isSolved_8 : decode cX9_isSolved 8 = .ok (.iconst 1, 1) := by decide +kernel
theorem dX9_isSolved_9 : decode cX9_isSolved 9 = .ok (.iand, 1) := by decide +kernel
theorem dX9_isSolved_10 : decode cX9_isSolved 10 = .ok (.iconst 1, 1) := by decide +kernel
theorem dX9_isSolved_11 : decode cX9_isSolved 11 = .ok (.if_icmp .ne 7, 3) := by decide +kernel
theorem dX9_isSolved_14 : decode cX9_isSolved 14 = .ok (.iconst 1, 1) := by decide +kernel
theorem dX9_isSolved_15 : decode cX9_isSolved 15 = .ok (.goto 4, 3) := by decide +kernel
theorem dX9_isSolved_18 : decode cX9_isSolved 18 = .ok (.iconst 0, 1) := by decide +kernel
theorem dX9_isSolved_19 : decode cX9_isSolved 19 = .ok (.ireturn, 1) := by decide +kernel
theorem dX9_room_0 : decode cX9_room 0 = .ok (.aload_n 0, 1) := by decide +kernel
theorem dX9_room_1 : decode cX9_room 1 = .ok (.iconst 0, 1) := by decide +kernel
theorem dX9_room_2 : decode cX9_room 2 = .ok (.putfield 74, 3) := by decide +kernel
theorem dX9_room_5 : decode cX9_room 5 = .ok (.aload_n 0, 1) := by decide +kernel
theorem dX9_room_6 : decode cX9_room 6 = .ok (.iload_n 1, 1) := by decide +kernel
theorem dX9_room_7 : decode cX9_room 7 = .ok (.invokevirtual 142, 3) := by decide +kernel
theorem dX9_room_10 : decode cX9_room 10 = .ok (.ifCond .eq 12, 3) := by decide +kernel
theorem dX9_room_13 : decode cX9_room 13 = .ok (.iload_n 2, 1) := by decide +kernel
theorem dX9_room_14 : decode cX9_room 14 = .ok (.iconst 0, 1) := by decide +kernel
theorem dX9_room_15 : decode cX9_room 15 = .ok (.iconst 4, 1) := by decide +kernel
theorem dX9_room_16 : decode cX9_room 16 = .ok (.invokestatic 78, 3) := by decide +kernel
theorem dX9_room_19 : decode cX9_room 19 = .ok (.ifCond .ne 6, 3) := by decide +kernel
theorem dX9_room_22 : decode cX9_room 22 = .ok (.ldc 145, 2) := by decide +kernel
theorem dX9_room_24 : decode cX9_room 24 = .ok (.ireturn, 1) := by decide +kernel
theorem dX9_room_25 : decode cX9_room 25 = .ok (.iload_n 2, 1) := by decide +kernel
theorem dX9_room_26 : decode cX9_room 26 = .ok (.iconst 3, 1) := by decide +kernel
theorem dX9_room_27 : decode cX9_room 27 = .ok (.if_icmp .ge 39, 3) := by decide +kernel
theorem dX9_room_30 : decode cX9_room 30 = .ok (.iload_n 2, 1) := by decide +kernel
theorem dX9_room_31 : decode cX9_room 31 = .ok (.ifCond .ne 14, 3) := by decide +kernel
theorem dX9_room_34 : decode cX9_room 34 = .ok (.aload_n 0, 1) := by decide +kernel
theorem dX9_room_35 : decode cX9_room 35 = .ok (.getfield 34, 3) := by decide +kernel
theorem dX9_room_38 : decode cX9_room 38 = .ok (.iconst 5, 1) := by decide +kernel
theorem dX9_room_39 : decode cX9_room 39 = .ok (.iload_n 1, 1) := by decide +kernel
theorem dX9_room_40 : decode cX9_room 40 = .ok (.iadd, 1) := by decide +kernel
theorem dX9_room_41 : decode cX9_room 41 = .ok (.iaload, 1) := by decide +kernel
theorem dX9_room_42 : decode cX9_room 42 = .ok (.goto 23, 3) := by decide +kernel
theorem dX9_room_45 : decode cX9_room 45 = .ok (.iload_n 2, 1) := by decide +kernel
theorem dX9_room_46 : decode cX9_room 46 = .ok (.iconst 1, 1) := by decide +kernel
theorem dX9_room_47 : decode cX9_room 47 = .ok (.if_icmp .ne 12, 3) := by decide +kernel
theorem dX9_room_50 : decode cX9_room 50 = .ok (.aload_n 0, 1) := by decide +kernel
theorem dX9_room_51 : decode cX9_room 51 = .ok (.getfield 19, 3) := by decide +kernel
theorem dX9_room_54 : decode cX9_room 54 = .ok (.iload_n 1, 1) := by decide +kernel
theorem dX9_room_55 : decode cX9_room 55 = .ok (.iaload, 1) := by decide +kernel
theorem dX9_room_56 : decode cX9_room 56 = .ok (.goto 9, 3) := by decide +kernel
theorem dX9_room_59 : decode cX9_room 59 = .ok (.aload_n 0, 1) := by decide +kernel
theorem dX9_room_60 : decode cX9_room 60 = .ok (.getfield 22, 3) := by decide +kernel
theorem dX9_room_63 : decode cX9_room 63 = .ok (.iload_n 1, 1) := by decide +kernel
theorem dX9_room_64 : decode cX9_room 64 = .ok (.iaload, 1) := by decide +kernel
theorem dX9_room_65 : decode cX9_room 65 = .ok (.ireturn, 1) := by decide +kernel
theorem dX9_room_66 : decode cX9_room 66 = .ok (.iload_n 2, 1) := by decide +kernel
theorem dX9_room_67 : decode cX9_room 67 = .ok (.iconst 3, 1) := by decide +kernel
theorem dX9_room_68 : decode cX9_room 68 = .ok (.if_icmp .ne 19, 3) := by decide +kernel
theorem dX9_room_71 : decode cX9_room 71 = .ok (.aload_n 0, 1) := by decide +kernel
theorem dX9_room_72 : decode cX9_room 72 = .ok (.iload_n 1, 1) := by decide +kernel
theorem dX9_room_73 : decode cX9_room 73 = .ok (.invokevirtual 146, 3) := by decide +kernel
theorem dX9_room_76 : decode cX9_room 76 = .ok (.ifCond .eq 7, 3) := by decide +kernel
theorem dX9_room_79 : decode cX9_room 79 = .ok (.iconst 1, 1) := by decide +kernel
theorem dX9_room_80 : decode cX9_room 80 = .ok (.goto 35, 3) := by decide +kernel
theorem dX9_room_83 : decode cX9_room 83 = .ok (.iconst 0, 1) := by decide +kernel
theorem dX9_room_84 : decode cX9_room 84 = .ok (.goto 31, 3) := by decide +kernel
theorem dX9_room_87 : decode cX9_room 87 = .ok (.aload_n 0, 1) := by decide +kernel
theorem dX9_room_88 : decode cX9_room 88 = .ok (.getfield 34, 3) := by decide +kernel
theorem dX9_room_91 : decode cX9_room 91 = .ok (.bipush 10, 2) := by decide +kernel
theorem dX9_room_93 : decode cX9_room 93 = .ok (.iload_n 1, 1) := by decide +kernel
theorem dX9_room_94 : decode cX9_room 94 = .ok (.iadd, 1) := by decide +kernel
theorem dX9_room_95 : decode cX9_room 95 = .ok (.iaload, 1) := by decide +kernel
theorem dX9_room_96 : decode cX9_room 96 = .ok (.ifCond .ne 8, 3) := by decide +kernel
theorem dX9_room_99 : decode cX9_room 99 = .ok (.bipush (-9), 2) := by decide +kernel
theorem dX9_room_101 : decode cX9_room 101 = .ok (.goto 14, 3) := by decide +kernel
theorem dX9_room_104 : decode cX9_room 104 = .ok (.aload_n 0, 1) := by decide +kernel
theorem dX9_room_105 : decode cX9_room 105 = .ok (.getfield 34, 3) := by decide +kernel
theorem dX9_room_108 : decode cX9_room 108 = .ok (.bipush 10, 2) := by decide +kernel
theorem dX9_room_110 : decode cX9_room 110 = .ok (.iload_n 1, 1) := by decide +kernel
theorem dX9_room_111 : decode cX9_room 111 = .ok (.iadd, 1) := by decide +kernel
theorem dX9_room_112 : decode cX9_room 112 = .ok (.iaload, 1) := by decide +kernel
theorem dX9_room_113 : decode cX9_room 113 = .ok (.iconst 1, 1) := by decide +kernel
theorem dX9_room_114 : decode cX9_room 114 = .ok (.isub, 1) := by decide +kernel
theorem dX9_room_115 : decode cX9_room 115 = .ok (.ireturn, 1) := by decide +kernel
theorem dX9_doing_0 : decode cX9_doing 0 = .ok (.aload_n 0, 1) := by decide +kernel
theorem dX9_doing_1 : decode cX9_doing 1 = .ok (.iconst 0, 1) := by decide +kernel
theorem dX9_doing_2 : decode cX9_doing 2 = .ok (.putfield 74, 3) := by decide +kernel
theorem dX9_doing_5 : decode cX9_doing 5 = .ok (.aload_n 0, 1) := by decide +kernel
theorem dX9_doing_6 : decode cX9_doing 6 = .ok (.iload_n 1, 1) := by decide +kernel
theorem dX9_doing_7 : decode cX9_doing 7 = .ok (.invokevirtual 149, 3) := by decide +kernel
theorem dX9_doing_10 : decode cX9_doing 10 = .ok (.ifCond .eq 12, 3) := by decide +kernel
theorem dX9_doing_13 : decode cX9_doing 13 = .ok (.iload_n 2, 1) := by decide +kernel
theorem dX9_doing_14 : decode cX9_doing 14 = .ok (.iconst 0, 1) := by decide +kernel
theorem dX9_doing_15 : decode cX9_doing 15 = .ok (.iconst 1, 1) := by decide +kernel
theorem dX9_doing_16 : decode cX9_doing 16 = .ok (.invokestatic 78, 3) := by decide +kernel
theorem dX9_doing_19 : decode cX9_doing 19 = .ok (.ifCond .ne 7, 3) := by decide +kernel
theorem dX9_doing_22 : decode cX9_doing 22 = .ok (.iconst (-1), 1) := by decide +kernel
theorem dX9_doing_23 : decode cX9_doing 23 = .ok (.goto 22, 3) := by decide +kernel
theorem dX9_doing_26 : decode cX9_doing 26 = .ok (.iload_n 2, 1) := by decide +kernel
theorem dX9_doing_27 : decode cX9_doing 27 = .ok (.ifCond .ne 12, 3) := by decide +kernel
theorem dX9_doing_30 : decode cX9_doing 30 = .ok (.aload_n 0, 1) := by decide +kernel
theorem dX9_doing_31 : decode cX9_doing 31 = .ok (.getfield 25, 3) := by decide +kernel
theorem dX9_doing_34 : decode cX9_doing 34 = .ok (.iload_n 1, 1) := by decide +kernel
theorem dX9_doing_35 : decode cX9_doing 35 = .ok (.iaload, 1) := by decide +kernel
theorem dX9_doing_36 : decode cX9_doing 36 = .ok (.goto 9, 3) := by decide +kernel
theorem dX9_doing_39 : decode cX9_doing 39 = .ok (.aload_n 0, 1) := by decide +kernel
theorem dX9_doing_40 : decode cX9_doing 40 = .ok (.getfield 28, 3) := by decide +kernel
theorem dX9_doing_43 : decode cX9_doing 43 = .ok (.iload_n 1, 1) := by decide +kernel
theorem dX9_doing_44 : decode cX9_doing 44 = .ok (.iaload, 1) := by decide +kernel
theorem dX9_doing_45 : decode cX9_doing 45 = .ok (.ireturn, 1) := by decide +kernel
theorem dX9_suspect_0 : decode cX9_suspect 0 = .ok (.aload_n 0, 1) := by decide +kernel
theorem dX9_suspect_1 : decode cX9_suspect 1 = .ok (.iconst 0, 1) := by decide +kernel
theorem dX9_suspect_2 : decode cX9_suspect 2 = .ok (.putfield 74, 3) := by decide +kernel
theorem dX9_suspect_5 : decode cX9_suspect 5 = .ok (.iload_n 1, 1) := by decide +kernel
theorem dX9_suspect_6 : decode cX9_suspect 6 = .ok (.iconst 0, 1) := by decide +kernel
theorem dX9_suspect_7 : decode cX9_suspect 7 = .ok (.aload_n 0, 1) := by decide +kernel
theorem dX9_suspect_8 : decode cX9_suspect 8 = .ok (.getfield 13, 3) := by decide +kernel
theorem dX9_suspect_11 : decode cX9_suspect 11 = .ok (.iconst 2, 1) := by decide +kernel
theorem dX9_suspect_12 : decode cX9_suspect 12 = .ok (.iaload, 1) := by decide +kernel
theorem dX9_suspect_13 : decode cX9_suspect 13 = .ok (.iconst 1, 1) := by decide +kernel
theorem dX9_suspect_14 : decode cX9_suspect 14 = .ok (.isub, 1) := by decide +kernel
theorem dX9_suspect_15 : decode cX9_suspect 15 = .ok (.invokestatic 78, 3) := by decide +kernel
theorem dX9_suspect_18 : decode cX9_suspect 18 = .ok (.ifCond .eq 12, 3) := by decide +kernel
theorem dX9_suspect_21 : decode cX9_suspect 21 = .ok (.aload_n 0, 1) := by decide +kernel
theorem dX9_suspect_22 : decode cX9_suspect 22 = .ok (.getfield 31, 3) := by decide +kernel
theorem dX9_suspect_25 : decode cX9_suspect 25 = .ok (.iload_n 1, 1) := by decide +kernel
theorem dX9_suspect_26 : decode cX9_suspect 26 = .ok (.iaload, 1) := by decide +kernel
theorem dX9_suspect_27 : decode cX9_suspect 27 = .ok (.goto 4, 3) := by decide +kernel
theorem dX9_suspect_30 : decode cX9_suspect 30 = .ok (.iconst (-1), 1) := by decide +kernel
theorem dX9_suspect_31 : decode cX9_suspect 31 = .ok (.ireturn, 1) := by decide +kernel
theorem dX9_earned_0 : decode cX9_earned 0 = .ok (.iconst 0, 1) := by decide +kernel
theorem dX9_earned_1 : decode cX9_earned 1 = .ok (.istore_n 1, 1) := by decide +kernel
theorem dX9_earned_2 : decode cX9_earned 2 = .ok (.iconst 0, 1) := by decide +kernel
theorem dX9_earned_3 : decode cX9_earned 3 = .ok (.istore_n 2, 1) := by decide +kernel
theorem dX9_earned_4 : decode cX9_earned 4 = .ok (.iload_n 2, 1) := by decide +kernel
theorem dX9_earned_5 : decode cX9_earned 5 = .ok (.aload_n 0, 1) := by decide +kernel
theorem dX9_earned_6 : decode cX9_earned 6 = .ok (.getfield 13, 3) := by decide +kernel
theorem dX9_earned_9 : decode cX9_earned 9 = .ok (.iconst 0, 1) := by decide +kernel
theorem dX9_earned_10 : decode cX9_earned 10 = .ok (.iaload, 1) := by decide +kernel
theorem dX9_earned_11 : decode cX9_earned 11 = .ok (.if_icmp .ge 30, 3) := by decide +kernel
theorem dX9_earned_14 : decode cX9_earned 14 = .ok (.iload_n 1, 1) := by decide +kernel
theorem dX9_earned_15 : decode cX9_earned 15 = .ok (.aload_n 0, 1) := by decide +kernel
theorem dX9_earned_16 : decode cX9_earned 16 = .ok (.iload_n 2, 1) := by decide +kernel
theorem dX9_earned_17 : decode cX9_earned 17 = .ok (.invokevirtual 146, 3) := by decide +kernel
theorem dX9_earned_20 : decode cX9_earned 20 = .ok (.ifCond .eq 12, 3) := by decide +kernel
theorem dX9_earned_23 : decode cX9_earned 23 = .ok (.aload_n 0, 1) := by decide +kernel
theorem dX9_earned_24 : decode cX9_earned 24 = .ok (.getfield 22, 3) := by decide +kernel
theorem dX9_earned_27 : decode cX9_earned 27 = .ok (.iload_n 2, 1) := by decide +kernel
theorem dX9_earned_28 : decode cX9_earned 28 = .ok (.iaload, 1) := by decide +kernel
theorem dX9_earned_29 : decode cX9_earned 29 = .ok (.goto 4, 3) := by decide +kernel
theorem dX9_earned_32 : decode cX9_earned 32 = .ok (.iconst 0, 1) := by decide +kernel
theorem dX9_earned_33 : decode cX9_earned 33 = .ok (.iadd, 1) := by decide +kernel
theorem dX9_earned_34 : decode cX9_earned 34 = .ok (.istore_n 1, 1) := by decide +kernel
theorem dX9_earned_35 : decode cX9_earned 35 = .ok (.iinc 2 1, 3) := by decide +kernel
theorem dX9_earned_38 : decode cX9_earned 38 = .ok (.goto (-34), 3) := by decide +kernel
theorem dX9_earned_41 : decode cX9_earned 41 = .ok (.iload_n 1, 1) := by decide +kernel
theorem dX9_earned_42 : decode cX9_earned 42 = .ok (.ireturn, 1) := by decide +kernel
theorem dX9_left_0 : decode cX9_left 0 = .ok (.iconst 0, 1) := by decide +kernel
theorem dX9_left_1 : decode cX9_left 1 = .ok (.istore_n 1, 1) := by decide +kernel
theorem dX9_left_2 : decode cX9_left 2 = .ok (.iconst 0, 1) := by decide +kernel
theorem dX9_left_3 : decode cX9_left 3 = .ok (.istore_n 2, 1) := by decide +kernel
theorem dX9_left_4 : decode cX9_left 4 = .ok (.iload_n 2, 1) := by decide +kernel
theorem dX9_left_5 : decode cX9_left 5 = .ok (.aload_n 0, 1) := by decide +kernel
theorem dX9_left_6 : decode cX9_left 6 = .ok (.getfield 13, 3) := by decide +kernel
theorem dX9_left_9 : decode cX9_left 9 = .ok (.iconst 2, 1) := by decide +kernel
theorem dX9_left_10 : decode cX9_left 10 = .ok (.iaload, 1) := by decide +kernel
theorem dX9_left_11 : decode cX9_left 11 = .ok (.if_icmp .ge 47, 3) := by decide +kernel
theorem dX9_left_14 : decode cX9_left 14 = .ok (.iload_n 1, 1) := by decide +kernel
theorem dX9_left_15 : decode cX9_left 15 = .ok (.aload_n 0, 1) := by decide +kernel
theorem dX9_left_16 : decode cX9_left 16 = .ok (.getfield 31, 3) := by decide +kernel
theorem dX9_left_19 : decode cX9_left 19 = .ok (.iload_n 2, 1) := by decide +kernel
theorem dX9_left_20 : decode cX9_left 20 = .ok (.iaload, 1) := by decide +kernel
theorem dX9_left_21 : decode cX9_left 21 = .ok (.aload_n 0, 1) := by decide +kernel
theorem dX9_left_22 : decode cX9_left 22 = .ok (.getfield 31, 3) := by decide +kernel
theorem dX9_left_25 : decode cX9_left 25 = .ok (.aload_n 0, 1) := by decide +kernel
theorem dX9_left_26 : decode cX9_left 26 = .ok (.getfield 13, 3) := by decide +kernel
theorem dX9_left_29 : decode cX9_left 29 = .ok (.iconst 3, 1) := by decide +kernel
theorem dX9_left_30 : decode cX9_left 30 = .ok (.iaload, 1) := by decide +kernel
theorem dX9_left_31 : decode cX9_left 31 = .ok (.iaload, 1) := by decide +kernel
theorem dX9_left_32 : decode cX9_left 32 = .ok (.ixor, 1) := by decide +kernel
theorem dX9_left_33 : decode cX9_left 33 = .ok (.aload_n 0, 1) := by decide +kernel
theorem dX9_left_34 : decode cX9_left 34 = .ok (.getfield 34, 3) := by decide +kernel
theorem dX9_left_37 : decode cX9_left 37 = .ok (.iconst 4, 1) := by decide +kernel
theorem dX9_left_38 : decode cX9_left 38 = .ok (.iaload, 1) := by decide +kernel
theorem dX9_left_39 : decode cX9_left 39 = .ok (.iand, 1) := by decide +kernel
theorem dX9_left_40 : decode cX9_left 40 = .ok (.ifCond .ne 9, 3) := by decide +kernel
theorem dX9_left_43 : decode cX9_left 43 = .ok (.iconst 1, 1) := by decide +kernel
theorem dX9_left_44 : decode cX9_left 44 = .ok (.iload_n 2, 1) := by decide +kernel
theorem dX9_left_45 : decode cX9_left 45 = .ok (.ishl, 1) := by decide +kernel
theorem dX9_left_46 : decode cX9_left 46 = .ok (.goto 4, 3) := by decide +kernel
theorem dX9_left_49 : decode cX9_left 49 = .ok (.iconst 0, 1) := by decide +kernel
theorem dX9_left_50 : decode cX9_left 50 = .ok (.ior, 1) := by decide +kernel
theorem dX9_left_51 : decode cX9_left 51 = .ok (.istore_n 1, 1) := by decide +kernel
theorem dX9_left_52 : decode cX9_left 52 = .ok (.iinc 2 1, 3) := by decide +kernel
theorem dX9_left_55 : decode cX9_left 55 = .ok (.goto (-51), 3) := by decide +kernel
theorem dX9_left_58 : decode cX9_left 58 = .ok (.iload_n 1, 1) := by decide +kernel
theorem dX9_left_59 : decode cX9_left 59 = .ok (.ireturn, 1) := by decide +kernel
theorem dX9_now_0 : decode cX9_now 0 = .ok (.aload_n 0, 1) := by decide +kernel
theorem dX9_now_1 : decode cX9_now 1 = .ok (.iconst 0, 1) := by decide +kernel
theorem dX9_now_2 : decode cX9_now 2 = .ok (.putfield 74, 3) := by decide +kernel
theorem dX9_now_5 : decode cX9_now 5 = .ok (.iload_n 1, 1) := by decide +kernel
theorem dX9_now_6 : decode cX9_now 6 = .ok (.iconst 0, 1) := by decide +kernel
theorem dX9_now_7 : decode cX9_now 7 = .ok (.bipush 7, 2) := by decide +kernel
theorem dX9_now_9 : decode cX9_now 9 = .ok (.invokestatic 78, 3) := by decide +kernel
theorem dX9_now_12 : decode cX9_now 12 = .ok (.ifCond .ne 5, 3) := by decide +kernel
theorem dX9_now_15 : decode cX9_now 15 = .ok (.iconst (-1), 1) := by decide +kernel
theorem dX9_now_16 : decode cX9_now 16 = .ok (.ireturn, 1) := by decide +kernel
theorem dX9_now_17 : decode cX9_now 17 = .ok (.iload_n 1, 1) := by decide +kernel
theorem dX9_now_18 : decode cX9_now 18 = .ok (.iconst 2, 1) := by decide +kernel
theorem dX9_now_19 : decode cX9_now 19 = .ok (.if_icmp .ge 26, 3) := by decide +kernel
theorem dX9_now_22 : decode cX9_now 22 = .ok (.aload_n 0, 1) := by decide +kernel
theorem dX9_now_23 : decode cX9_now 23 = .ok (.getfield 34, 3) := by decide +kernel
theorem dX9_now_26 : decode cX9_now 26 = .ok (.iload_n 1, 1) := by decide +kernel
theorem dX9_now_27 : decode cX9_now 27 = .ok (.iaload, 1) := by decide +kernel
theorem dX9_now_28 : decode cX9_now 28 = .ok (.ifCond .ne 8, 3) := by decide +kernel
theorem dX9_now_31 : decode cX9_now 31 = .ok (.bipush (-9), 2) := by decide +kernel
theorem dX9_now_33 : decode cX9_now 33 = .ok (.goto 11, 3) := by decide +kernel
theorem dX9_now_36 : decode cX9_now 36 = .ok (.aload_n 0, 1) := by decide +kernel
theorem dX9_now_37 : decode cX9_now 37 = .ok (.getfield 34, 3) := by decide +kernel
theorem dX9_now_40 : decode cX9_now 40 = .ok (.iload_n 1, 1) := by decide +kernel
theorem dX9_now_41 : decode cX9_now 41 = .ok (.iaload, 1) := by decide +kernel
theorem dX9_now_42 : decode cX9_now 42 = .ok (.iconst 1, 1) := by decide +kernel
theorem dX9_now_43 : decode cX9_now 43 = .ok (.isub, 1) := by decide +kernel
theorem dX9_now_44 : decode cX9_now 44 = .ok (.ireturn, 1) := by decide +kernel
theorem dX9_now_45 : decode cX9_now 45 = .ok (.iload_n 1, 1) := by decide +kernel
theorem dX9_now_46 : decode cX9_now 46 = .ok (.iconst 4, 1) := by decide +kernel
theorem dX9_now_47 : decode cX9_now 47 = .ok (.if_icmp .ge 12, 3) := by decide +kernel
theorem dX9_now_50 : decode cX9_now 50 = .ok (.aload_n 0, 1) := by decide +kernel
theorem dX9_now_51 : decode cX9_now 51 = .ok (.getfield 34, 3) := by decide +kernel
theorem dX9_now_54 : decode cX9_now 54 = .ok (.iload_n 1, 1) := by decide +kernel
theorem dX9_now_55 : decode cX9_now 55 = .ok (.iaload, 1) := by decide +kernel
theorem dX9_now_56 : decode cX9_now 56 = .ok (.goto 46, 3) := by decide +kernel
theorem dX9_now_59 : decode cX9_now 59 = .ok (.iload_n 1, 1) := by decide +kernel
theorem dX9_now_60 : decode cX9_now 60 = .ok (.iconst 4, 1) := by decide +kernel
theorem dX9_now_61 : decode cX9_now 61 = .ok (.if_icmp .ne 10, 3) := by decide +kernel
theorem dX9_now_64 : decode cX9_now 64 = .ok (.aload_n 0, 1) := by decide +kernel
theorem dX9_now_65 : decode cX9_now 65 = .ok (.invokevirtual 152, 3) := by decide +kernel
theorem dX9_now_68 : decode cX9_now 68 = .ok (.goto 34, 3) := by decide +kernel
theorem dX9_now_71 : decode cX9_now 71 = .ok (.iload_n 1, 1) := by decide +kernel
theorem dX9_now_72 : decode cX9_now 72 = .ok (.iconst 5, 1) := by decide +kernel
theorem dX9_now_73 : decode cX9_now 73 = .ok (.if_icmp .ne 12, 3) := by decide +kernel
theorem dX9_now_76 : decode cX9_now 76 = .ok (.aload_n 0, 1) := by decide +kernel
theorem dX9_now_77 : decode cX9_now 77 = .ok (.getfield 34, 3) := by decide +kernel
theorem dX9_now_80 : decode cX9_now 80 = .ok (.iconst 4, 1) := by decide +kernel
theorem dX9_now_81 : decode cX9_now 81 = .ok (.iaload, 1) := by decide +kernel
theorem dX9_now_82 : decode cX9_now 82 = .ok (.goto 20, 3) := by decide +kernel
theorem dX9_now_85 : decode cX9_now 85 = .ok (.iload_n 1, 1) := by decide +kernel
theorem dX9_now_86 : decode cX9_now 86 = .ok (.bipush 6, 2) := by decide +kernel
theorem dX9_now_88 : decode cX9_now 88 = .ok (.if_icmp .ne 10, 3) := by decide +kernel
theorem dX9_now_91 : decode cX9_now 91 = .ok (.aload_n 0, 1) := by decide +kernel
theorem dX9_now_92 : decode cX9_now 92 = .ok (.invokevirtual 156, 3) := by decide +kernel
theorem dX9_now_95 : decode cX9_now 95 = .ok (.goto 7, 3) := by decide +kernel
theorem dX9_now_98 : decode cX9_now 98 = .ok (.aload_n 0, 1) := by decide +kernel
theorem dX9_now_99 : decode cX9_now 99 = .ok (.getfield 139, 3) := by decide +kernel
theorem dX9_now_102 : decode cX9_now 102 = .ok (.ireturn, 1) := by decide +kernel
theorem dX9_notes_0 : decode cX9_notes 0 = .ok (.aload_n 0, 1) := by decide +kernel
theorem dX9_notes_1 : decode cX9_notes 1 = .ok (.getfield 139, 3) := by decide +kernel
theorem dX9_notes_4 : decode cX9_notes 4 = .ok (.bipush 10, 2) := by decide +kernel
theorem dX9_notes_6 : decode cX9_notes 6 = .ok (.if_icmp .ne 39, 3) := by decide +kernel
theorem dX9_notes_9 : decode cX9_notes 9 = .ok (.iconst 0, 1) := by decide +kernel
theorem dX9_notes_10 : decode cX9_notes 10 = .ok (.istore_n 1, 1) := by decide +kernel
theorem dX9_notes_11 : decode cX9_notes 11 = .ok (.iload_n 1, 1) := by decide +kernel
theorem dX9_notes_12 : decode cX9_notes 12 = .ok (.sipush 135, 3) := by decide +kernel
theorem dX9_notes_15 : decode cX9_notes 15 = .ok (.if_icmp .ge 24, 3) := by decide +kernel
theorem dX9_notes_18 : decode cX9_notes 18 = .ok (.aload_n 0, 1) := by decide +kernel
theorem dX9_notes_19 : decode cX9_notes 19 = .ok (.getfield 44, 3) := by decide +kernel
theorem dX9_notes_22 : decode cX9_notes 22 = .ok (.iload_n 1, 1) := by decide +kernel
theorem dX9_notes_23 : decode cX9_notes 23 = .ok (.aload_n 0, 1) := by decide +kernel
theorem dX9_notes_24 : decode cX9_notes 24 = .ok (.getfield 44, 3) := by decide +kernel
theorem dX9_notes_27 : decode cX9_notes 27 = .ok (.iload_n 1, 1) := by decide +kernel
theorem dX9_notes_28 : decode cX9_notes 28 = .ok (.bipush 15, 2) := by decide +kernel
theorem dX9_notes_30 : decode cX9_notes 30 = .ok (.iadd, 1) := by decide +kernel
theorem dX9_notes_31 : decode cX9_notes 31 = .ok (.iaload, 1) := by decide +kernel
theorem dX9_notes_32 : decode cX9_notes 32 = .ok (.iastore, 1) := by decide +kernel
theorem dX9_notes_33 : decode cX9_notes 33 = .ok (.iinc 1 1, 3) := by decide +kernel
theorem dX9_notes_36 : decode cX9_notes 36 = .ok (.goto (-25), 3) := by decide +kernel
theorem dX9_notes_39 : decode cX9_notes 39 = .ok (.aload_n 0, 1) := by decide +kernel
theorem dX9_notes_40 : decode cX9_notes 40 = .ok (.bipush 9, 2) := by decide +kernel
theorem dX9_notes_42 : decode cX9_notes 42 = .ok (.putfield 139, 3) := by decide +kernel
theorem dX9_notes_45 : decode cX9_notes 45 = .ok (.iconst 0, 1) := by decide +kernel
theorem dX9_notes_46 : decode cX9_notes 46 = .ok (.istore_n 1, 1) := by decide +kernel
theorem dX9_notes_47 : decode cX9_notes 47 = .ok (.iload_n 1, 1) := by decide +kernel
theorem dX9_notes_48 : decode cX9_notes 48 = .ok (.bipush 15, 2) := by decide +kernel
theorem dX9_notes_50 : decode cX9_notes 50 = .ok (.if_icmp .ge 29, 3) := by decide +kernel
theorem dX9_notes_53 : decode cX9_notes 53 = .ok (.aload_n 0, 1) := by decide +kernel
theorem dX9_notes_54 : decode cX9_notes 54 = .ok (.getfield 44, 3) := by decide +kernel
theorem dX9_notes_57 : decode cX9_notes 57 = .ok (.bipush 15, 2) := by decide +kernel
theorem dX9_notes_59 : decode cX9_notes 59 = .ok (.aload_n 0, 1) := by decide +kernel
theorem dX9_notes_60 : decode cX9_notes 60 = .ok (.getfield 139, 3) := by decide +kernel
theorem dX9_notes_63 : decode cX9_notes 63 = .ok (.imul, 1) := by decide +kernel
theorem dX9_notes_64 : decode cX9_notes 64 = .ok (.iload_n 1, 1) := by decide +kernel
theorem dX9_notes_65 : decode cX9_notes 65 = .ok (.iadd, 1) := by decide +kernel
theorem dX9_notes_66 : decode cX9_notes 66 = .ok (.aload_n 0, 1) := by decide +kernel
theorem dX9_notes_67 : decode cX9_notes 67 = .ok (.getfield 34, 3) := by decide +kernel
theorem dX9_notes_70 : decode cX9_notes 70 = .ok (.iload_n 1, 1) := by decide +kernel
theorem dX9_notes_71 : decode cX9_notes 71 = .ok (.iaload, 1) := by decide +kernel
theorem dX9_notes_72 : decode cX9_notes 72 = .ok (.iastore, 1) := by decide +kernel
theorem dX9_notes_73 : decode cX9_notes 73 = .ok (.iinc 1 1, 3) := by decide +kernel
theorem dX9_notes_76 : decode cX9_notes 76 = .ok (.goto (-29), 3) := by decide +kernel
theorem dX9_notes_79 : decode cX9_notes 79 = .ok (.aload_n 0, 1) := by decide +kernel
theorem dX9_notes_80 : decode cX9_notes 80 = .ok (.dup, 1) := by decide +kernel
theorem dX9_notes_81 : decode cX9_notes 81 = .ok (.getfield 139, 3) := by decide +kernel
theorem dX9_notes_84 : decode cX9_notes 84 = .ok (.iconst 1, 1) := by decide +kernel
theorem dX9_notes_85 : decode cX9_notes 85 = .ok (.iadd, 1) := by decide +kernel
theorem dX9_notes_86 : decode cX9_notes 86 = .ok (.putfield 139, 3) := by decide +kernel
theorem dX9_notes_89 : decode cX9_notes 89 = .ok (.return_, 1) := by decide +kernel
theorem dX9_mayLast_0 : decode cX9_mayLast 0 = .ok (.aload_n 0, 1) := by decide +kernel
theorem dX9_mayLast_1 : decode cX9_mayLast 1 = .ok (.getfield 34, 3) := by decide +kernel
theorem dX9_mayLast_4 : decode cX9_mayLast 4 = .ok (.iconst 2, 1) := by decide +kernel
theorem dX9_mayLast_5 : decode cX9_mayLast 5 = .ok (.iaload, 1) := by decide +kernel
theorem dX9_mayLast_6 : decode cX9_mayLast 6 = .ok (.iload_n 1, 1) := by decide +kernel
theorem dX9_mayLast_7 : decode cX9_mayLast 7 = .ok (.iadd, 1) := by decide +kernel
theorem dX9_mayLast_8 : decode cX9_mayLast 8 = .ok (.sipush 9999, 3) := by decide +kernel
theorem dX9_mayLast_11 : decode cX9_mayLast 11 = .ok (.if_icmp .gt 7, 3) := by decide +kernel
theorem dX9_mayLast_14 : decode cX9_mayLast 14 = .ok (.iconst 1, 1) := by decide +kernel
theorem dX9_mayLast_15 : decode cX9_mayLast 15 = .ok (.goto 4, 3) := by decide +kernel
theorem dX9_mayLast_18 : decode cX9_mayLast 18 = .ok (.iconst 0, 1) := by decide +kernel
theorem dX9_mayLast_19 : decode cX9_mayLast 19 = .ok (.ireturn, 1) := by decide +kernel
theorem dX9_walk_0 : decode cX9_walk 0 = .ok (.iload_n 1, 1) := by decide +kernel
theorem dX9_walk_1 : decode cX9_walk 1 = .ok (.ifCond .ne 7, 3) := by decide +kernel
theorem dX9_walk_4 : decode cX9_walk 4 = .ok (.iconst 0, 1) := by decide +kernel
theorem dX9_walk_5 : decode cX9_walk 5 = .ok (.goto 6, 3) := by decide +kernel
theorem dX9_walk_8 : decode cX9_walk 8 = .ok (.iload_n 1, 1) := by decide +kernel
theorem dX9_walk_9 : decode cX9_walk 9 = .ok (.iconst 1, 1) := by decide +kernel
theorem dX9_walk_10 : decode cX9_walk 10 = .ok (.isub, 1) := by decide +kernel
theorem dX9_walk_11 : decode cX9_walk 11 = .ok (.istore_n 3, 1) := by decide +kernel
theorem dX9_walk_12 : decode cX9_walk 12 = .ok (.aload_n 0, 1) := by decide +kernel
theorem dX9_walk_13 : decode cX9_walk 13 = .ok (.getfield 13, 3) := by decide +kernel
theorem dX9_walk_16 : decode cX9_walk 16 = .ok (.iconst 4, 1) := by decide +kernel
theorem dX9_walk_17 : decode cX9_walk 17 = .ok (.iaload, 1) := by decide +kernel
theorem dX9_walk_18 : decode cX9_walk 18 = .ok (.iload_n 3, 1) := by decide +kernel
theorem dX9_walk_19 : decode cX9_walk 19 = .ok (.iload_n 2, 1) := by decide +kernel
theorem dX9_walk_20 : decode cX9_walk 20 = .ok (.if_icmp .ge 9, 3) := by decide +kernel
theorem dX9_walk_23 : decode cX9_walk 23 = .ok (.iload_n 2, 1) := by decide +kernel
theorem dX9_walk_24 : decode cX9_walk 24 = .ok (.iload_n 3, 1) := by decide +kernel
theorem dX9_walk_25 : decode cX9_walk 25 = .ok (.isub, 1) := by decide +kernel
theorem dX9_walk_26 : decode cX9_walk 26 = .ok (.goto 6, 3) := by decide +kernel
theorem dX9_walk_29 : decode cX9_walk 29 = .ok (.iload_n 3, 1) := by decide +kernel
theorem dX9_walk_30 : decode cX9_walk 30 = .ok (.iload_n 2, 1) := by decide +kernel
theorem dX9_walk_31 : decode cX9_walk 31 = .ok (.isub, 1) := by decide +kernel
theorem dX9_walk_32 : decode cX9_walk 32 = .ok (.imul, 1) := by decide +kernel
theorem dX9_walk_33 : decode cX9_walk 33 = .ok (.ireturn, 1) := by decide +kernel
theorem dX9_goes_0 : decode cX9_goes 0 = .ok (.aload_n 0, 1) := by decide +kernel
theorem dX9_goes_1 : decode cX9_goes 1 = .ok (.iconst 0, 1) := by decide +kernel
theorem dX9_goes_2 : decode cX9_goes 2 = .ok (.putfield 74, 3) := by decide +kernel
theorem dX9_goes_5 : decode cX9_goes 5 = .ok (.aload_n 0, 1) := by decide +kernel
theorem dX9_goes_6 : decode cX9_goes 6 = .ok (.iload_n 1, 1) := by decide +kernel
theorem dX9_goes_7 : decode cX9_goes 7 = .ok (.invokevirtual 142, 3) := by decide +kernel
theorem dX9_goes_10 : decode cX9_goes 10 = .ok (.ifCond .ne 5, 3) := by decide +kernel
theorem dX9_goes_13 : decode cX9_goes 13 = .ok (.iconst (-1), 1) := by decide +kernel
theorem dX9_goes_14 : decode cX9_goes 14 = .ok (.ireturn, 1) := by decide +kernel
theorem dX9_goes_15 : decode cX9_goes 15 = .ok (.aload_n 0, 1) := by decide +kernel
theorem dX9_goes_16 : decode cX9_goes 16 = .ok (.aload_n 0, 1) := by decide +kernel
theorem dX9_goes_17 : decode cX9_goes 17 = .ok (.getfield 34, 3) := by decide +kernel
theorem dX9_goes_20 : decode cX9_goes 20 = .ok (.iconst 1, 1) := by decide +kernel
theorem dX9_goes_21 : decode cX9_goes 21 = .ok (.iaload, 1) := by decide +kernel
theorem dX9_goes_22 : decode cX9_goes 22 = .ok (.iload_n 1, 1) := by decide +kernel
theorem dX9_goes_23 : decode cX9_goes 23 = .ok (.invokevirtual 159, 3) := by decide +kernel
theorem dX9_goes_26 : decode cX9_goes 26 = .ok (.istore_n 2, 1) := by decide +kernel
theorem dX9_goes_27 : decode cX9_goes 27 = .ok (.aload_n 0, 1) := by decide +kernel
theorem dX9_goes_28 : decode cX9_goes 28 = .ok (.iload_n 1, 1) := by decide +kernel
theorem dX9_goes_29 : decode cX9_goes 29 = .ok (.invokevirtual 146, 3) := by decide +kernel
theorem dX9_goes_32 : decode cX9_goes 32 = .ok (.ifCond .ne 23, 3) := by decide +kernel
theorem dX9_goes_35 : decode cX9_goes 35 = .ok (.aload_n 0, 1) := by decide +kernel
theorem dX9_goes_36 : decode cX9_goes 36 = .ok (.getfield 34, 3) := by decide +kernel
theorem dX9_goes_39 : decode cX9_goes 39 = .ok (.iconst 0, 1) := by decide +kernel
theorem dX9_goes_40 : decode cX9_goes 40 = .ok (.iaload, 1) := by decide +kernel
theorem dX9_goes_41 : decode cX9_goes 41 = .ok (.iload_n 1, 1) := by decide +kernel
theorem dX9_goes_42 : decode cX9_goes 42 = .ok (.iconst 1, 1) := by decide +kernel
theorem dX9_goes_43 : decode cX9_goes 43 = .ok (.iadd, 1) := by decide +kernel
theorem dX9_goes_44 : decode cX9_goes 44 = .ok (.if_icmp .eq 11, 3) := by decide +kernel
theorem dX9_goes_47 : decode cX9_goes 47 = .ok (.aload_n 0, 1) := by decide +kernel
theorem dX9_goes_48 : decode cX9_goes 48 = .ok (.iload_n 2, 1) := by decide +kernel
theorem dX9_goes_49 : decode cX9_goes 49 = .ok (.invokevirtual 162, 3) := by decide +kernel
theorem dX9_goes_52 : decode cX9_goes 52 = .ok (.ifCond .ne 6, 3) := by decide +kernel
theorem dX9_goes_55 : decode cX9_goes 55 = .ok (.bipush (-2), 2) := by decide +kernel
theorem dX9_goes_57 : decode cX9_goes 57 = .ok (.ireturn, 1) := by decide +kernel
theorem dX9_goes_58 : decode cX9_goes 58 = .ok (.aload_n 0, 1) := by decide +kernel
theorem dX9_goes_59 : decode cX9_goes 59 = .ok (.invokevirtual 165, 3) := by decide +kernel
theorem dX9_goes_62 : decode cX9_goes 62 = .ok (.aload_n 0, 1) := by decide +kernel
theorem dX9_goes_63 : decode cX9_goes 63 = .ok (.getfield 34, 3) := by decide +kernel
theorem dX9_goes_66 : decode cX9_goes 66 = .ok (.iconst 0, 1) := by decide +kernel
theorem dX9_goes_67 : decode cX9_goes 67 = .ok (.iload_n 1, 1) := by decide +kernel
theorem dX9_goes_68 : decode cX9_goes 68 = .ok (.iconst 1, 1) := by decide +kernel
theorem dX9_goes_69 : decode cX9_goes 69 = .ok (.iadd, 1) := by decide +kernel
theorem dX9_goes_70 : decode cX9_goes 70 = .ok (.iastore, 1) := by decide +kernel
theorem dX9_goes_71 : decode cX9_goes 71 = .ok (.aload_n 0, 1) := by decide +kernel
theorem dX9_goes_72 : decode cX9_goes 72 = .ok (.getfield 34, 3) := by decide +kernel
theorem dX9_goes_75 : decode cX9_goes 75 = .ok (.iconst 1, 1) := by decide +kernel
theorem dX9_goes_76 : decode cX9_goes 76 = .ok (.iload_n 1, 1) := by decide +kernel
theorem dX9_goes_77 : decode cX9_goes 77 = .ok (.iconst 1, 1) := by decide +kernel
theorem dX9_goes_78 : decode cX9_goes 78 = .ok (.iadd, 1) := by decide +kernel
theorem dX9_goes_79 : decode cX9_goes 79 = .ok (.iastore, 1) := by decide +kernel
theorem dX9_goes_80 : decode cX9_goes 80 = .ok (.aload_n 0, 1) := by decide +kernel
theorem dX9_goes_81 : decode cX9_goes 81 = .ok (.getfield 34, 3) := by decide +kernel
theorem dX9_goes_84 : decode cX9_goes 84 = .ok (.iconst 2, 1) := by decide +kernel
theorem dX9_goes_85 : decode cX9_goes 85 = .ok (.dup2, 1) := by decide +kernel
theorem dX9_goes_86 : decode cX9_goes 86 = .ok (.iaload, 1) := by decide +kernel
theorem dX9_goes_87 : decode cX9_goes 87 = .ok (.iload_n 2, 1) := by decide +kernel
theorem dX9_goes_88 : decode cX9_goes 88 = .ok (.iadd, 1) := by decide +kernel
theorem dX9_goes_89 : decode cX9_goes 89 = .ok (.iastore, 1) := by decide +kernel
theorem dX9_goes_90 : decode cX9_goes 90 = .ok (.iload_n 2, 1) := by decide +kernel
theorem dX9_goes_91 : decode cX9_goes 91 = .ok (.ireturn, 1) := by decide +kernel
theorem dX9_hurt_0 : decode cX9_hurt 0 = .ok (.aload_n 0, 1) := by decide +kernel
theorem dX9_hurt_1 : decode cX9_hurt 1 = .ok (.getfield 25, 3) := by decide +kernel
theorem dX9_hurt_4 : decode cX9_hurt 4 = .ok (.iload_n 2, 1) := by decide +kernel
theorem dX9_hurt_5 : decode cX9_hurt 5 = .ok (.iaload, 1) := by decide +kernel
theorem dX9_hurt_6 : decode cX9_hurt 6 = .ok (.aload_n 0, 1) := by decide +kernel
theorem dX9_hurt_7 : decode cX9_hurt 7 = .ok (.getfield 19, 3) := by decide +kernel
theorem dX9_hurt_10 : decode cX9_hurt 10 = .ok (.iload_n 1, 1) := by decide +kernel
theorem dX9_hurt_11 : decode cX9_hurt 11 = .ok (.iaload, 1) := by decide +kernel
theorem dX9_hurt_12 : decode cX9_hurt 12 = .ok (.imul, 1) := by decide +kernel
theorem dX9_hurt_13 : decode cX9_hurt 13 = .ok (.istore 4, 2) := by decide +kernel
theorem dX9_hurt_15 : decode cX9_hurt 15 = .ok (.iload_n 3, 1) := by decide +kernel
theorem dX9_hurt_16 : decode cX9_hurt 16 = .ok (.iload_n 2, 1) := by decide +kernel
theorem dX9_hurt_17 : decode cX9_hurt 17 = .ok (.iconst 1, 1) := by decide +kernel
theorem dX9_hurt_18 : decode cX9_hurt 18 = .ok (.iadd, 1) := by decide +kernel
theorem dX9_hurt_19 : decode cX9_hurt 19 = .ok (.if_icmp .ne 10, 3) := by decide +kernel
theorem dX9_hurt_22 : decode cX9_hurt 22 = .ok (.iload 4, 2) := by decide +kernel
theorem dX9_hurt_24 : decode cX9_hurt 24 = .ok (.iconst 2, 1) := by decide +kernel
theorem dX9_hurt_25 : decode cX9_hurt 25 = .ok (.idiv, 1) := by decide +kernel
theorem dX9_hurt_26 : decode cX9_hurt 26 = .ok (.goto 5, 3) := by decide +kernel
theorem dX9_hurt_29 : decode cX9_hurt 29 = .ok (.iload 4, 2) := by decide +kernel
theorem dX9_hurt_31 : decode cX9_hurt 31 = .ok (.ireturn, 1) := by decide +kernel
theorem dX9_does_0 : decode cX9_does 0 = .ok (.aload_n 0, 1) := by decide +kernel
theorem dX9_does_1 : decode cX9_does 1 = .ok (.iconst 0, 1) := by decide +kernel
theorem dX9_does_2 : decode cX9_does 2 = .ok (.putfield 74, 3) := by decide +kernel
theorem dX9_does_5 : decode cX9_does 5 = .ok (.aload_n 0, 1) := by decide +kernel
theorem dX9_does_6 : decode cX9_does 6 = .ok (.iload_n 1, 1) := by decide +kernel
theorem dX9_does_7 : decode cX9_does 7 = .ok (.invokevirtual 149, 3) := by decide +kernel
theorem dX9_does_10 : decode cX9_does 10 = .ok (.ifCond .ne 5, 3) := by decide +kernel
theorem dX9_does_13 : decode cX9_does 13 = .ok (.iconst (-1), 1) := by decide +kernel
theorem dX9_does_14 : decode cX9_does 14 = .ok (.ireturn, 1) := by decide +kernel
theorem dX9_does_15 : decode cX9_does 15 = .ok (.aload_n 0, 1) := by decide +kernel
theorem dX9_does_16 : decode cX9_does 16 = .ok (.getfield 34, 3) := by decide +kernel
theorem dX9_does_19 : decode cX9_does 19 = .ok (.iconst 0, 1) := by decide +kernel
theorem dX9_does_20 : decode cX9_does 20 = .ok (.iaload, 1) := by decide +kernel
theorem dX9_does_21 : decode cX9_does 21 = .ok (.ifCond .eq 16, 3) := by decide +kernel
theorem dX9_does_24 : decode cX9_does 24 = .ok (.aload_n 0, 1) := by decide +kernel
theorem dX9_does_25 : decode cX9_does 25 = .ok (.aload_n 0, 1) := by decide +kernel
theorem dX9_does_26 : decode cX9_does 26 = .ok (.getfield 28, 3) := by decide +kernel
theorem dX9_does_29 : decode cX9_does 29 = .ok (.iload_n 1, 1) := by decide +kernel
theorem dX9_does_30 : decode cX9_does 30 = .ok (.iaload, 1) := by decide +kernel
theorem dX9_does_31 : decode cX9_does 31 = .ok (.invokevirtual 162, 3) := by decide +kernel
theorem dX9_does_34 : decode cX9_does 34 = .ok (.ifCond .ne 6, 3) := by decide +kernel
theorem dX9_does_37 : decode cX9_does 37 = .ok (.bipush (-2), 2) := by decide +kernel
theorem dX9_does_39 : decode cX9_does 39 = .ok (.ireturn, 1) := by decide +kernel
theorem dX9_does_40 : decode cX9_does 40 = .ok (.aload_n 0, 1) := by decide +kernel
theorem dX9_does_41 : decode cX9_does 41 = .ok (.invokevirtual 165, 3) := by decide +kernel
theorem dX9_does_44 : decode cX9_does 44 = .ok (.aload_n 0, 1) := by decide +kernel
theorem dX9_does_45 : decode cX9_does 45 = .ok (.getfield 34, 3) := by decide +kernel
theorem dX9_does_48 : decode cX9_does 48 = .ok (.iconst 0, 1) := by decide +kernel
theorem dX9_does_49 : decode cX9_does 49 = .ok (.iaload, 1) := by decide +kernel
theorem dX9_does_50 : decode cX9_does 50 = .ok (.iconst 1, 1) := by decide +kernel
theorem dX9_does_51 : decode cX9_does 51 = .ok (.isub, 1) := by decide +kernel
theorem dX9_does_52 : decode cX9_does 52 = .ok (.istore_n 2, 1) := by decide +kernel
theorem dX9_does_53 : decode cX9_does 53 = .ok (.aload_n 0, 1) := by decide +kernel
theorem dX9_does_54 : decode cX9_does 54 = .ok (.getfield 34, 3) := by decide +kernel
theorem dX9_does_57 : decode cX9_does 57 = .ok (.iconst 2, 1) := by decide +kernel
theorem dX9_does_58 : decode cX9_does 58 = .ok (.dup2, 1) := by decide +kernel
theorem dX9_does_59 : decode cX9_does 59 = .ok (.iaload, 1) := by decide +kernel
theorem dX9_does_60 : decode cX9_does 60 = .ok (.aload_n 0, 1) := by decide +kernel
theorem dX9_does_61 : decode cX9_does 61 = .ok (.getfield 28, 3) := by decide +kernel
theorem dX9_does_64 : decode cX9_does 64 = .ok (.iload_n 1, 1) := by decide +kernel
theorem dX9_does_65 : decode cX9_does 65 = .ok (.iaload, 1) := by decide +kernel
theorem dX9_does_66 : decode cX9_does 66 = .ok (.iadd, 1) := by decide +kernel
theorem dX9_does_67 : decode cX9_does 67 = .ok (.iastore, 1) := by decide +kernel
theorem dX9_does_68 : decode cX9_does 68 = .ok (.aload_n 0, 1) := by decide +kernel
theorem dX9_does_69 : decode cX9_does 69 = .ok (.getfield 34, 3) := by decide +kernel
theorem dX9_does_72 : decode cX9_does 72 = .ok (.iconst 5, 1) := by decide +kernel
theorem dX9_does_73 : decode cX9_does 73 = .ok (.iload_n 2, 1) := by decide +kernel
theorem dX9_does_74 : decode cX9_does 74 = .ok (.iadd, 1) := by decide +kernel
theorem dX9_does_75 : decode cX9_does 75 = .ok (.dup2, 1) := by decide +kernel
theorem dX9_does_76 : decode cX9_does 76 = .ok (.iaload, 1) := by decide +kernel
theorem dX9_does_77 : decode cX9_does 77 = .ok (.aload_n 0, 1) := by decide +kernel
theorem dX9_does_78 : decode cX9_does 78 = .ok (.iload_n 2, 1) := by decide +kernel
theorem dX9_does_79 : decode cX9_does 79 = .ok (.iload_n 1, 1) := by decide +kernel
theorem dX9_does_80 : decode cX9_does 80 = .ok (.aload_n 0, 1) := by decide +kernel
theorem dX9_does_81 : decode cX9_does 81 = .ok (.getfield 34, 3) := by decide +kernel
theorem dX9_does_84 : decode cX9_does 84 = .ok (.bipush 10, 2) := by decide +kernel
theorem dX9_does_86 : decode cX9_does 86 = .ok (.iload_n 2, 1) := by decide +kernel
theorem dX9_does_87 : decode cX9_does 87 = .ok (.iadd, 1) := by decide +kernel
theorem dX9_does_88 : decode cX9_does 88 = .ok (.iaload, 1) := by decide +kernel
theorem dX9_does_89 : decode cX9_does 89 = .ok (.invokevirtual 168, 3) := by decide +kernel
theorem dX9_does_92 : decode cX9_does 92 = .ok (.isub, 1) := by decide +kernel
theorem dX9_does_93 : decode cX9_does 93 = .ok (.iastore, 1) := by decide +kernel
theorem dX9_does_94 : decode cX9_does 94 = .ok (.aload_n 0, 1) := by decide +kernel
theorem dX9_does_95 : decode cX9_does 95 = .ok (.getfield 34, 3) := by decide +kernel
theorem dX9_does_98 : decode cX9_does 98 = .ok (.bipush 10, 2) := by decide +kernel
theorem dX9_does_100 : decode cX9_does 100 = .ok (.iload_n 2, 1) := by decide +kernel
theorem dX9_does_101 : decode cX9_does 101 = .ok (.iadd, 1) := by decide +kernel
theorem dX9_does_102 : decode cX9_does 102 = .ok (.iload_n 1, 1) := by decide +kernel
theorem dX9_does_103 : decode cX9_does 103 = .ok (.iconst 1, 1) := by decide +kernel
theorem dX9_does_104 : decode cX9_does 104 = .ok (.iadd, 1) := by decide +kernel
theorem dX9_does_105 : decode cX9_does 105 = .ok (.iastore, 1) := by decide +kernel
theorem dX9_does_106 : decode cX9_does 106 = .ok (.aload_n 0, 1) := by decide +kernel
theorem dX9_does_107 : decode cX9_does 107 = .ok (.getfield 34, 3) := by decide +kernel
theorem dX9_does_110 : decode cX9_does 110 = .ok (.iconst 5, 1) := by decide +kernel
theorem dX9_does_111 : decode cX9_does 111 = .ok (.iload_n 2, 1) := by decide +kernel
theorem dX9_does_112 : decode cX9_does 112 = .ok (.iadd, 1) := by decide +kernel
theorem dX9_does_113 : decode cX9_does 113 = .ok (.iaload, 1) := by decide +kernel
theorem dX9_does_114 : decode cX9_does 114 = .ok (.ifCond .lt 5, 3) := by decide +kernel
theorem dX9_does_117 : decode cX9_does 117 = .ok (.iconst 0, 1) := by decide +kernel
theorem dX9_does_118 : decode cX9_does 118 = .ok (.ireturn, 1) := by decide +kernel
theorem dX9_does_119 : decode cX9_does 119 = .ok (.aload_n 0, 1) := by decide +kernel
theorem dX9_does_120 : decode cX9_does 120 = .ok (.getfield 34, 3) := by decide +kernel
theorem dX9_does_123 : decode cX9_does 123 = .ok (.iconst 3, 1) := by decide +kernel
theorem dX9_does_124 : decode cX9_does 124 = .ok (.dup2, 1) := by decide +kernel
theorem dX9_does_125 : decode cX9_does 125 = .ok (.iaload, 1) := by decide +kernel
theorem dX9_does_126 : decode cX9_does 126 = .ok (.iconst 1, 1) := by decide +kernel
theorem dX9_does_127 : decode cX9_does 127 = .ok (.iload_n 2, 1) := by decide +kernel
theorem dX9_does_128 : decode cX9_does 128 = .ok (.ishl, 1) := by decide +kernel
theorem dX9_does_129 : decode cX9_does 129 = .ok (.ior, 1) := by decide +kernel
theorem dX9_does_130 : decode cX9_does 130 = .ok (.iastore, 1) := by decide +kernel
theorem dX9_does_131 : decode cX9_does 131 = .ok (.aload_n 0, 1) := by decide +kernel
theorem dX9_does_132 : decode cX9_does 132 = .ok (.getfield 34, 3) := by decide +kernel
theorem dX9_does_135 : decode cX9_does 135 = .ok (.iconst 0, 1) := by decide +kernel
theorem dX9_does_136 : decode cX9_does 136 = .ok (.iconst 0, 1) := by decide +kernel
theorem dX9_does_137 : decode cX9_does 137 = .ok (.iastore, 1) := by decide +kernel
theorem dX9_does_138 : decode cX9_does 138 = .ok (.iconst 1, 1) := by decide +kernel
theorem dX9_does_139 : decode cX9_does 139 = .ok (.ireturn, 1) := by decide +kernel
theorem dX9_asks_0 : decode cX9_asks 0 = .ok (.aload_n 0, 1) := by decide +kernel
theorem dX9_asks_1 : decode cX9_asks 1 = .ok (.iconst 0, 1) := by decide +kernel
theorem dX9_asks_2 : decode cX9_asks 2 = .ok (.putfield 74, 3) := by decide +kernel
theorem dX9_asks_5 : decode cX9_asks 5 = .ok (.iload_n 1, 1) := by decide +kernel
theorem dX9_asks_6 : decode cX9_asks 6 = .ok (.iconst 0, 1) := by decide +kernel
theorem dX9_asks_7 : decode cX9_asks 7 = .ok (.iconst 4, 1) := by decide +kernel
theorem dX9_asks_8 : decode cX9_asks 8 = .ok (.invokestatic 78, 3) := by decide +kernel
theorem dX9_asks_11 : decode cX9_asks 11 = .ok (.ifCond .ne 5, 3) := by decide +kernel
theorem dX9_asks_14 : decode cX9_asks 14 = .ok (.iconst (-1), 1) := by decide +kernel
theorem dX9_asks_15 : decode cX9_asks 15 = .ok (.ireturn, 1) := by decide +kernel
theorem dX9_asks_16 : decode cX9_asks 16 = .ok (.aload_n 0, 1) := by decide +kernel
theorem dX9_asks_17 : decode cX9_asks 17 = .ok (.getfield 34, 3) := by decide +kernel
theorem dX9_asks_20 : decode cX9_asks 20 = .ok (.iconst 0, 1) := by decide +kernel
theorem dX9_asks_21 : decode cX9_asks 21 = .ok (.iaload, 1) := by decide +kernel
theorem dX9_asks_22 : decode cX9_asks 22 = .ok (.ifCond .eq 34, 3) := by decide +kernel
theorem dX9_asks_25 : decode cX9_asks 25 = .ok (.aload_n 0, 1) := by decide +kernel
theorem dX9_asks_26 : decode cX9_asks 26 = .ok (.getfield 34, 3) := by decide +kernel
theorem dX9_asks_29 : decode cX9_asks 29 = .ok (.iconst 4, 1) := by decide +kernel
theorem dX9_asks_30 : decode cX9_asks 30 = .ok (.iaload, 1) := by decide +kernel
theorem dX9_asks_31 : decode cX9_asks 31 = .ok (.iload_n 1, 1) := by decide +kernel
theorem dX9_asks_32 : decode cX9_asks 32 = .ok (.ishr, 1) := by decide +kernel
theorem dX9_asks_33 : decode cX9_asks 33 = .ok (.iconst 1, 1) := by decide +kernel
theorem dX9_asks_34 : decode cX9_asks 34 = .ok (.iand, 1) := by decide +kernel
theorem dX9_asks_35 : decode cX9_asks 35 = .ok (.iconst 1, 1) := by decide +kernel
theorem dX9_asks_36 : decode cX9_asks 36 = .ok (.if_icmp .eq 20, 3) := by decide +kernel
theorem dX9_asks_39 : decode cX9_asks 39 = .ok (.aload_n 0, 1) := by decide +kernel
theorem dX9_asks_40 : decode cX9_asks 40 = .ok (.getfield 13, 3) := by decide +kernel
theorem dX9_asks_43 : decode cX9_asks 43 = .ok (.iconst 2, 1) := by decide +kernel
theorem dX9_asks_44 : decode cX9_asks 44 = .ok (.iaload, 1) := by decide +kernel
theorem dX9_asks_45 : decode cX9_asks 45 = .ok (.ifCond .eq 11, 3) := by decide +kernel
theorem dX9_asks_48 : decode cX9_asks 48 = .ok (.aload_n 0, 1) := by decide +kernel
theorem dX9_asks_49 : decode cX9_asks 49 = .ok (.iconst 2, 1) := by decide +kernel
theorem dX9_asks_50 : decode cX9_asks 50 = .ok (.invokevirtual 162, 3) := by decide +kernel
theorem dX9_asks_53 : decode cX9_asks 53 = .ok (.ifCond .ne 6, 3) := by decide +kernel
theorem dX9_asks_56 : decode cX9_asks 56 = .ok (.bipush (-2), 2) := by decide +kernel
theorem dX9_asks_58 : decode cX9_asks 58 = .ok (.ireturn, 1) := by decide +kernel
theorem dX9_asks_59 : decode cX9_asks 59 = .ok (.aload_n 0, 1) := by decide +kernel
theorem dX9_asks_60 : decode cX9_asks 60 = .ok (.invokevirtual 165, 3) := by decide +kernel
theorem dX9_asks_63 : decode cX9_asks 63 = .ok (.aload_n 0, 1) := by decide +kernel
theorem dX9_asks_64 : decode cX9_asks 64 = .ok (.getfield 34, 3) := by decide +kernel
theorem dX9_asks_67 : decode cX9_asks 67 = .ok (.iconst 2, 1) := by decide +kernel
theorem dX9_asks_68 : decode cX9_asks 68 = .ok (.dup2, 1) := by decide +kernel
theorem dX9_asks_69 : decode cX9_asks 69 = .ok (.iaload, 1) := by decide +kernel
theorem dX9_asks_70 : decode cX9_asks 70 = .ok (.iconst 2, 1) := by decide +kernel
theorem dX9_asks_71 : decode cX9_asks 71 = .ok (.iadd, 1) := by decide +kernel
theorem dX9_asks_72 : decode cX9_asks 72 = .ok (.iastore, 1) := by decide +kernel
theorem dX9_asks_73 : decode cX9_asks 73 = .ok (.aload_n 0, 1) := by decide +kernel
theorem dX9_asks_74 : decode cX9_asks 74 = .ok (.getfield 34, 3) := by decide +kernel
theorem dX9_asks_77 : decode cX9_asks 77 = .ok (.iconst 4, 1) := by decide +kernel
theorem dX9_asks_78 : decode cX9_asks 78 = .ok (.dup2, 1) := by decide +kernel
theorem dX9_asks_79 : decode cX9_asks 79 = .ok (.iaload, 1) := by decide +kernel
theorem dX9_asks_80 : decode cX9_asks 80 = .ok (.iconst 1, 1) := by decide +kernel
theorem dX9_asks_81 : decode cX9_asks 81 = .ok (.iload_n 1, 1) := by decide +kernel
theorem dX9_asks_82 : decode cX9_asks 82 = .ok (.ishl, 1) := by decide +kernel
theorem dX9_asks_83 : decode cX9_asks 83 = .ok (.ior, 1) := by decide +kernel
theorem dX9_asks_84 : decode cX9_asks 84 = .ok (.iastore, 1) := by decide +kernel
theorem dX9_asks_85 : decode cX9_asks 85 = .ok (.aload_n 0, 1) := by decide +kernel
theorem dX9_asks_86 : decode cX9_asks 86 = .ok (.getfield 31, 3) := by decide +kernel
theorem dX9_asks_89 : decode cX9_asks 89 = .ok (.aload_n 0, 1) := by decide +kernel
theorem dX9_asks_90 : decode cX9_asks 90 = .ok (.getfield 13, 3) := by decide +kernel
theorem dX9_asks_93 : decode cX9_asks 93 = .ok (.iconst 3, 1) := by decide +kernel
theorem dX9_asks_94 : decode cX9_asks 94 = .ok (.iaload, 1) := by decide +kernel
theorem dX9_asks_95 : decode cX9_asks 95 = .ok (.iaload, 1) := by decide +kernel
theorem dX9_asks_96 : decode cX9_asks 96 = .ok (.iload_n 1, 1) := by decide +kernel
theorem dX9_asks_97 : decode cX9_asks 97 = .ok (.ishr, 1) := by decide +kernel
theorem dX9_asks_98 : decode cX9_asks 98 = .ok (.iconst 1, 1) := by decide +kernel
theorem dX9_asks_99 : decode cX9_asks 99 = .ok (.iand, 1) := by decide +kernel
theorem dX9_asks_100 : decode cX9_asks 100 = .ok (.ireturn, 1) := by decide +kernel
theorem dX9_undo_0 : decode cX9_undo 0 = .ok (.aload_n 0, 1) := by decide +kernel
theorem dX9_undo_1 : decode cX9_undo 1 = .ok (.iconst 0, 1) := by decide +kernel
theorem dX9_undo_2 : decode cX9_undo 2 = .ok (.putfield 74, 3) := by decide +kernel
theorem dX9_undo_5 : decode cX9_undo 5 = .ok (.aload_n 0, 1) := by decide +kernel
theorem dX9_undo_6 : decode cX9_undo 6 = .ok (.getfield 139, 3) := by decide +kernel
theorem dX9_undo_9 : decode cX9_undo 9 = .ok (.ifCond .ne 6, 3) := by decide +kernel
theorem dX9_undo_12 : decode cX9_undo 12 = .ok (.bipush (-2), 2) := by decide +kernel
theorem dX9_undo_14 : decode cX9_undo 14 = .ok (.ireturn, 1) := by decide +kernel
theorem dX9_undo_15 : decode cX9_undo 15 = .ok (.aload_n 0, 1) := by decide +kernel
theorem dX9_undo_16 : decode cX9_undo 16 = .ok (.dup, 1) := by decide +kernel
theorem dX9_undo_17 : decode cX9_undo 17 = .ok (.getfield 139, 3) := by decide +kernel
theorem dX9_undo_20 : decode cX9_undo 20 = .ok (.iconst 1, 1) := by decide +kernel
theorem dX9_undo_21 : decode cX9_undo 21 = .ok (.isub, 1) := by decide +kernel
theorem dX9_undo_22 : decode cX9_undo 22 = .ok (.putfield 139, 3) := by decide +kernel
theorem dX9_undo_25 : decode cX9_undo 25 = .ok (.iconst 0, 1) := by decide +kernel
theorem dX9_undo_26 : decode cX9_undo 26 = .ok (.istore_n 1, 1) := by decide +kernel
theorem dX9_undo_27 : decode cX9_undo 27 = .ok (.iload_n 1, 1) := by decide +kernel
theorem dX9_undo_28 : decode cX9_undo 28 = .ok (.bipush 15, 2) := by decide +kernel
theorem dX9_undo_30 : decode cX9_undo 30 = .ok (.if_icmp .ge 29, 3) := by decide +kernel
theorem dX9_undo_33 : decode cX9_undo 33 = .ok (.aload_n 0, 1) := by decide +kernel
theorem dX9_undo_34 : decode cX9_undo 34 = .ok (.getfield 34, 3) := by decide +kernel
theorem dX9_undo_37 : decode cX9_undo 37 = .ok (.iload_n 1, 1) := by decide +kernel
theorem dX9_undo_38 : decode cX9_undo 38 = .ok (.aload_n 0, 1) := by decide +kernel
theorem dX9_undo_39 : decode cX9_undo 39 = .ok (.getfield 44, 3) := by decide +kernel
theorem dX9_undo_42 : decode cX9_undo 42 = .ok (.bipush 15, 2) := by decide +kernel
theorem dX9_undo_44 : decode cX9_undo 44 = .ok (.aload_n 0, 1) := by decide +kernel
theorem dX9_undo_45 : decode cX9_undo 45 = .ok (.getfield 139, 3) := by decide +kernel
theorem dX9_undo_48 : decode cX9_undo 48 = .ok (.imul, 1) := by decide +kernel
theorem dX9_undo_49 : decode cX9_undo 49 = .ok (.iload_n 1, 1) := by decide +kernel
theorem dX9_undo_50 : decode cX9_undo 50 = .ok (.iadd, 1) := by decide +kernel
theorem dX9_undo_51 : decode cX9_undo 51 = .ok (.iaload, 1) := by decide +kernel
theorem dX9_undo_52 : decode cX9_undo 52 = .ok (.iastore, 1) := by decide +kernel
theorem dX9_undo_53 : decode cX9_undo 53 = .ok (.iinc 1 1, 3) := by decide +kernel
theorem dX9_undo_56 : decode cX9_undo 56 = .ok (.goto (-29), 3) := by decide +kernel
theorem dX9_undo_59 : decode cX9_undo 59 = .ok (.aload_n 0, 1) := by decide +kernel
theorem dX9_undo_60 : decode cX9_undo 60 = .ok (.getfield 139, 3) := by decide +kernel
theorem dX9_undo_63 : decode cX9_undo 63 = .ok (.ireturn, 1) := by decide +kernel
theorem dX9_soonBy_0 : decode cX9_soonBy 0 = .ok (.iload_n 2, 1) := by decide +kernel
theorem dX9_soonBy_1 : decode cX9_soonBy 1 = .ok (.aload_n 0, 1) := by decide +kernel
theorem dX9_soonBy_2 : decode cX9_soonBy 2 = .ok (.iload_n 1, 1) := by decide +kernel
theorem dX9_soonBy_3 : decode cX9_soonBy 3 = .ok (.iload 4, 2) := by decide +kernel
theorem dX9_soonBy_5 : decode cX9_soonBy 5 = .ok (.iload_n 3, 1) := by decide +kernel
theorem dX9_soonBy_6 : decode cX9_soonBy 6 = .ok (.invokevirtual 168, 3) := by decide +kernel
theorem dX9_soonBy_9 : decode cX9_soonBy 9 = .ok (.isub, 1) := by decide +kernel
theorem dX9_soonBy_10 : decode cX9_soonBy 10 = .ok (.istore 5, 2) := by decide +kernel
theorem dX9_soonBy_12 : decode cX9_soonBy 12 = .ok (.sipush 1000, 3) := by decide +kernel
theorem dX9_soonBy_15 : decode cX9_soonBy 15 = .ok (.aload_n 0, 1) := by decide +kernel
theorem dX9_soonBy_16 : decode cX9_soonBy 16 = .ok (.getfield 28, 3) := by decide +kernel
theorem dX9_soonBy_19 : decode cX9_soonBy 19 = .ok (.iload 4, 2) := by decide +kernel
theorem dX9_soonBy_21 : decode cX9_soonBy 21 = .ok (.iaload, 1) := by decide +kernel
theorem dX9_soonBy_22 : decode cX9_soonBy 22 = .ok (.imul, 1) := by decide +kernel
theorem dX9_soonBy_23 : decode cX9_soonBy 23 = .ok (.iconst 1, 1) := by decide +kernel
theorem dX9_soonBy_24 : decode cX9_soonBy 24 = .ok (.iadd, 1) := by decide +kernel
theorem dX9_soonBy_25 : decode cX9_soonBy 25 = .ok (.iload 5, 2) := by decide +kernel
theorem dX9_soonBy_27 : decode cX9_soonBy 27 = .ok (.ifCond .ge 7, 3) := by decide +kernel
theorem dX9_soonBy_30 : decode cX9_soonBy 30 = .ok (.iconst 0, 1) := by decide +kernel
theorem dX9_soonBy_31 : decode cX9_soonBy 31 = .ok (.goto 18, 3) := by decide +kernel
theorem dX9_soonBy_34 : decode cX9_soonBy 34 = .ok (.aload_n 0, 1) := by decide +kernel
theorem dX9_soonBy_35 : decode cX9_soonBy 35 = .ok (.getfield 53, 3) := by decide +kernel
theorem dX9_soonBy_38 : decode cX9_soonBy 38 = .ok (.bipush 6, 2) := by decide +kernel
theorem dX9_soonBy_40 : decode cX9_soonBy 40 = .ok (.iload 5, 2) := by decide +kernel
theorem dX9_soonBy_42 : decode cX9_soonBy 42 = .ok (.imul, 1) := by decide +kernel
theorem dX9_soonBy_43 : decode cX9_soonBy 43 = .ok (.iload 4, 2) := by decide +kernel
theorem dX9_soonBy_45 : decode cX9_soonBy 45 = .ok (.iadd, 1) := by decide +kernel
theorem dX9_soonBy_46 : decode cX9_soonBy 46 = .ok (.iconst 1, 1) := by decide +kernel
theorem dX9_soonBy_47 : decode cX9_soonBy 47 = .ok (.iadd, 1) := by decide +kernel
theorem dX9_soonBy_48 : decode cX9_soonBy 48 = .ok (.iaload, 1) := by decide +kernel
theorem dX9_soonBy_49 : decode cX9_soonBy 49 = .ok (.iadd, 1) := by decide +kernel
theorem dX9_soonBy_50 : decode cX9_soonBy 50 = .ok (.istore 6, 2) := by decide +kernel
theorem dX9_soonBy_52 : decode cX9_soonBy 52 = .ok (.iload 6, 2) := by decide +kernel
theorem dX9_soonBy_54 : decode cX9_soonBy 54 = .ok (.ldc 172, 2) := by decide +kernel
theorem dX9_soonBy_56 : decode cX9_soonBy 56 = .ok (.if_icmp .le 8, 3) := by decide +kernel
theorem dX9_soonBy_59 : decode cX9_soonBy 59 = .ok (.ldc 172, 2) := by decide +kernel
theorem dX9_soonBy_61 : decode cX9_soonBy 61 = .ok (.goto 5, 3) := by decide +kernel
theorem dX9_soonBy_64 : decode cX9_soonBy 64 = .ok (.iload 6, 2) := by decide +kernel
theorem dX9_soonBy_66 : decode cX9_soonBy 66 = .ok (.ireturn, 1) := by decide +kernel
theorem dX9_measures_0 : decode cX9_measures 0 = .ok (.iconst 0, 1) := by decide +kernel
theorem dX9_measures_1 : decode cX9_measures 1 = .ok (.istore_n 2, 1) := by decide +kernel
theorem dX9_measures_2 : decode cX9_measures 2 = .ok (.iload_n 2, 1) := by decide +kernel
theorem dX9_measures_3 : decode cX9_measures 3 = .ok (.sipush 186, 3) := by decide +kernel
theorem dX9_measures_6 : decode cX9_measures 6 = .ok (.if_icmp .ge 17, 3) := by decide +kernel
theorem dX9_measures_9 : decode cX9_measures 9 = .ok (.aload_n 0, 1) := by decide +kernel
theorem dX9_measures_10 : decode cX9_measures 10 = .ok (.getfield 53, 3) := by decide +kernel
theorem dX9_measures_13 : decode cX9_measures 13 = .ok (.iload_n 2, 1) := by decide +kernel
theorem dX9_measures_14 : decode cX9_measures 14 = .ok (.ldc 172, 2) := by decide +kernel
theorem dX9_measures_16 : decode cX9_measures 16 = .ok (.iastore, 1) := by decide +kernel
theorem dX9_measures_17 : decode cX9_measures 17 = .ok (.iinc 2 1, 3) := by decide +kernel
theorem dX9_measures_20 : decode cX9_measures 20 = .ok (.goto (-18), 3) := by decide +kernel
theorem dX9_measures_23 : decode cX9_measures 23 = .ok (.aload_n 0, 1) := by decide +kernel
theorem dX9_measures_24 : decode cX9_measures 24 = .ok (.getfield 13, 3) := by decide +kernel
theorem dX9_measures_27 : decode cX9_measures 27 = .ok (.iconst 1, 1) := by decide +kernel
theorem dX9_measures_28 : decode cX9_measures 28 = .ok (.iaload, 1) := by decide +kernel
theorem dX9_measures_29 : decode cX9_measures 29 = .ok (.ifCond .le 7, 3) := by decide +kernel
theorem dX9_measures_32 : decode cX9_measures 32 = .ok (.iconst 1, 1) := by decide +kernel
theorem dX9_measures_33 : decode cX9_measures 33 = .ok (.goto 4, 3) := by decide +kernel
theorem dX9_measures_36 : decode cX9_measures 36 = .ok (.iconst 0, 1) := by decide +kernel
theorem dX9_measures_37 : decode cX9_measures 37 = .ok (.istore_n 2, 1) := by decide +kernel
theorem dX9_measures_38 : decode cX9_measures 38 = .ok (.iload_n 2, 1) := by decide +kernel
theorem dX9_measures_39 : decode cX9_measures 39 = .ok (.ifCond .eq 109, 3) := by decide +kernel
theorem dX9_measures_42 : decode cX9_measures 42 = .ok (.iconst 0, 1) := by decide +kernel
theorem dX9_measures_43 : decode cX9_measures 43 = .ok (.istore_n 2, 1) := by decide +kernel
theorem dX9_measures_44 : decode cX9_measures 44 = .ok (.iconst 0, 1) := by decide +kernel
theorem dX9_measures_45 : decode cX9_measures 45 = .ok (.istore_n 3, 1) := by decide +kernel
theorem dX9_measures_46 : decode cX9_measures 46 = .ok (.iload_n 3, 1) := by decide +kernel
theorem dX9_measures_47 : decode cX9_measures 47 = .ok (.sipush 186, 3) := by decide +kernel
theorem dX9_measures_50 : decode cX9_measures 50 = .ok (.if_icmp .ge 95, 3) := by decide +kernel
theorem dX9_measures_53 : decode cX9_measures 53 = .ok (.iconst 0, 1) := by decide +kernel
theorem dX9_measures_54 : decode cX9_measures 54 = .ok (.istore 4, 2) := by decide +kernel
theorem dX9_measures_56 : decode cX9_measures 56 = .ok (.iload 4, 2) := by decide +kernel
theorem dX9_measures_58 : decode cX9_measures 58 = .ok (.aload_n 0, 1) := by decide +kernel
theorem dX9_measures_59 : decode cX9_measures 59 = .ok (.getfield 13, 3) := by decide +kernel
theorem dX9_measures_62 : decode cX9_measures 62 = .ok (.iconst 1, 1) := by decide +kernel
theorem dX9_measures_63 : decode cX9_measures 63 = .ok (.iaload, 1) := by decide +kernel
theorem dX9_measures_64 : decode cX9_measures 64 = .ok (.if_icmp .ge 75, 3) := by decide +kernel
theorem dX9_measures_67 : decode cX9_measures 67 = .ok (.aload_n 0, 1) := by decide +kernel
theorem dX9_measures_68 : decode cX9_measures 68 = .ok (.iload_n 1, 1) := by decide +kernel
theorem dX9_measures_69 : decode cX9_measures 69 = .ok (.iload_n 3, 1) := by decide +kernel
theorem dX9_measures_70 : decode cX9_measures 70 = .ok (.bipush 6, 2) := by decide +kernel
theorem dX9_measures_72 : decode cX9_measures 72 = .ok (.idiv, 1) := by decide +kernel
theorem dX9_measures_73 : decode cX9_measures 73 = .ok (.iload_n 3, 1) := by decide +kernel
theorem dX9_measures_74 : decode cX9_measures 74 = .ok (.bipush 6, 2) := by decide +kernel
theorem dX9_measures_76 : decode cX9_measures 76 = .ok (.irem, 1) := by decide +kernel
theorem dX9_measures_77 : decode cX9_measures 77 = .ok (.iload 4, 2) := by decide +kernel
theorem dX9_measures_79 : decode cX9_measures 79 = .ok (.invokevirtual 173, 3) := by decide +kernel
theorem dX9_measures_82 : decode cX9_measures 82 = .ok (.istore 5, 2) := by decide +kernel
theorem dX9_measures_84 : decode cX9_measures 84 = .ok (.iload_n 2, 1) := by decide +kernel
theorem dX9_measures_85 : decode cX9_measures 85 = .ok (.ifCond .ne 14, 3) := by decide +kernel
theorem dX9_measures_88 : decode cX9_measures 88 = .ok (.iload 5, 2) := by decide +kernel
theorem dX9_measures_90 : decode cX9_measures 90 = .ok (.aload_n 0, 1) := by decide +kernel
theorem dX9_measures_91 : decode cX9_measures 91 = .ok (.getfield 53, 3) := by decide +kernel
theorem dX9_measures_94 : decode cX9_measures 94 = .ok (.iload_n 3, 1) := by decide +kernel
theorem dX9_measures_95 : decode cX9_measures 95 = .ok (.iaload, 1) := by decide +kernel
theorem dX9_measures_96 : decode cX9_measures 96 = .ok (.if_icmp .ge 7, 3) := by decide +kernel
theorem dX9_measures_99 : decode cX9_measures 99 = .ok (.iconst 1, 1) := by decide +kernel
theorem dX9_measures_100 : decode cX9_measures 100 = .ok (.goto 4, 3) := by decide +kernel
theorem dX9_measures_103 : decode cX9_measures 103 = .ok (.iconst 0, 1) := by decide +kernel
theorem dX9_measures_104 : decode cX9_measures 104 = .ok (.istore_n 2, 1) := by decide +kernel
theorem dX9_measures_105 : decode cX9_measures 105 = .ok (.aload_n 0, 1) := by decide +kernel
theorem dX9_measures_106 : decode cX9_measures 106 = .ok (.getfield 53, 3) := by decide +kernel
theorem dX9_measures_109 : decode cX9_measures 109 = .ok (.iload_n 3, 1) := by decide +kernel
theorem dX9_measures_110 : decode cX9_measures 110 = .ok (.iload 5, 2) := by decide +kernel
theorem dX9_measures_112 : decode cX9_measures 112 = .ok (.aload_n 0, 1) := by decide +kernel
theorem dX9_measures_113 : decode cX9_measures 113 = .ok (.getfield 53, 3) := by decide +kernel
theorem dX9_measures_116 : decode cX9_measures 116 = .ok (.iload_n 3, 1) := by decide +kernel
theorem dX9_measures_117 : decode cX9_measures 117 = .ok (.iaload, 1) := by decide +kernel
theorem dX9_measures_118 : decode cX9_measures 118 = .ok (.if_icmp .ge 8, 3) := by decide +kernel
theorem dX9_measures_121 : decode cX9_measures 121 = .ok (.iload 5, 2) := by decide +kernel
theorem dX9_measures_123 : decode cX9_measures 123 = .ok (.goto 9, 3) := by decide +kernel
theorem dX9_measures_126 : decode cX9_measures 126 = .ok (.aload_n 0, 1) := by decide +kernel
theorem dX9_measures_127 : decode cX9_measures 127 = .ok (.getfield 53, 3) := by decide +kernel
theorem dX9_measures_130 : decode cX9_measures 130 = .ok (.iload_n 3, 1) := by decide +kernel
theorem dX9_measures_131 : decode cX9_measures 131 = .ok (.iaload, 1) := by decide +kernel
theorem dX9_measures_132 : decode cX9_measures 132 = .ok (.iastore, 1) := by decide +kernel
theorem dX9_measures_133 : decode cX9_measures 133 = .ok (.iinc 4 1, 3) := by decide +kernel
theorem dX9_measures_136 : decode cX9_measures 136 = .ok (.goto (-80), 3) := by decide +kernel
theorem dX9_measures_139 : decode cX9_measures 139 = .ok (.iinc 3 1, 3) := by decide +kernel
theorem dX9_measures_142 : decode cX9_measures 142 = .ok (.goto (-96), 3) := by decide +kernel
theorem dX9_measures_145 : decode cX9_measures 145 = .ok (.goto (-107), 3) := by decide +kernel
theorem dX9_measures_148 : decode cX9_measures 148 = .ok (.return_, 1) := by decide +kernel
theorem dX9_soonAt_0 : decode cX9_soonAt 0 = .ok (.aload_n 0, 1) := by decide +kernel
theorem dX9_soonAt_1 : decode cX9_soonAt 1 = .ok (.iload_n 1, 1) := by decide +kernel
theorem dX9_soonAt_2 : decode cX9_soonAt 2 = .ok (.invokevirtual 177, 3) := by decide +kernel
theorem dX9_soonAt_5 : decode cX9_soonAt 5 = .ok (.aload_n 0, 1) := by decide +kernel
theorem dX9_soonAt_6 : decode cX9_soonAt 6 = .ok (.getfield 53, 3) := by decide +kernel
theorem dX9_soonAt_9 : decode cX9_soonAt 9 = .ok (.bipush 6, 2) := by decide +kernel
theorem dX9_soonAt_11 : decode cX9_soonAt 11 = .ok (.aload_n 0, 1) := by decide +kernel
theorem dX9_soonAt_12 : decode cX9_soonAt 12 = .ok (.getfield 34, 3) := by decide +kernel
theorem dX9_soonAt_15 : decode cX9_soonAt 15 = .ok (.iconst 5, 1) := by decide +kernel
theorem dX9_soonAt_16 : decode cX9_soonAt 16 = .ok (.iload_n 1, 1) := by decide +kernel
theorem dX9_soonAt_17 : decode cX9_soonAt 17 = .ok (.iadd, 1) := by decide +kernel
theorem dX9_soonAt_18 : decode cX9_soonAt 18 = .ok (.iaload, 1) := by decide +kernel
theorem dX9_soonAt_19 : decode cX9_soonAt 19 = .ok (.imul, 1) := by decide +kernel
theorem dX9_soonAt_20 : decode cX9_soonAt 20 = .ok (.aload_n 0, 1) := by decide +kernel
theorem dX9_soonAt_21 : decode cX9_soonAt 21 = .ok (.getfield 34, 3) := by decide +kernel
theorem dX9_soonAt_24 : decode cX9_soonAt 24 = .ok (.bipush 10, 2) := by decide +kernel
theorem dX9_soonAt_26 : decode cX9_soonAt 26 = .ok (.iload_n 1, 1) := by decide +kernel
theorem dX9_soonAt_27 : decode cX9_soonAt 27 = .ok (.iadd, 1) := by decide +kernel
theorem dX9_soonAt_28 : decode cX9_soonAt 28 = .ok (.iaload, 1) := by decide +kernel
theorem dX9_soonAt_29 : decode cX9_soonAt 29 = .ok (.iadd, 1) := by decide +kernel
theorem dX9_soonAt_30 : decode cX9_soonAt 30 = .ok (.iaload, 1) := by decide +kernel
theorem dX9_soonAt_31 : decode cX9_soonAt 31 = .ok (.ireturn, 1) := by decide +kernel
theorem dX9_soonest_0 : decode cX9_soonest 0 = .ok (.aload_n 0, 1) := by decide +kernel
theorem dX9_soonest_1 : decode cX9_soonest 1 = .ok (.iconst 0, 1) := by decide +kernel
theorem dX9_soonest_2 : decode cX9_soonest 2 = .ok (.putfield 74, 3) := by decide +kernel
theorem dX9_soonest_5 : decode cX9_soonest 5 = .ok (.aload_n 0, 1) := by decide +kernel
theorem dX9_soonest_6 : decode cX9_soonest 6 = .ok (.iload_n 1, 1) := by decide +kernel
theorem dX9_soonest_7 : decode cX9_soonest 7 = .ok (.invokevirtual 142, 3) := by decide +kernel
theorem dX9_soonest_10 : decode cX9_soonest 10 = .ok (.ifCond .eq 9, 3) := by decide +kernel
theorem dX9_soonest_13 : decode cX9_soonest 13 = .ok (.iload_n 2, 1) := by decide +kernel
theorem dX9_soonest_14 : decode cX9_soonest 14 = .ok (.bipush (-2), 2) := by decide +kernel
theorem dX9_soonest_16 : decode cX9_soonest 16 = .ok (.if_icmp .ge 5, 3) := by decide +kernel
theorem dX9_soonest_19 : decode cX9_soonest 19 = .ok (.iconst (-1), 1) := by decide +kernel
theorem dX9_soonest_20 : decode cX9_soonest 20 = .ok (.ireturn, 1) := by decide +kernel
theorem dX9_soonest_21 : decode cX9_soonest 21 = .ok (.aload_n 0, 1) := by decide +kernel
theorem dX9_soonest_22 : decode cX9_soonest 22 = .ok (.iload_n 1, 1) := by decide +kernel
theorem dX9_soonest_23 : decode cX9_soonest 23 = .ok (.invokevirtual 146, 3) := by decide +kernel
theorem dX9_soonest_26 : decode cX9_soonest 26 = .ok (.ifCond .eq 6, 3) := by decide +kernel
theorem dX9_soonest_29 : decode cX9_soonest 29 = .ok (.bipush (-2), 2) := by decide +kernel
theorem dX9_soonest_31 : decode cX9_soonest 31 = .ok (.ireturn, 1) := by decide +kernel
theorem dX9_soonest_32 : decode cX9_soonest 32 = .ok (.aload_n 0, 1) := by decide +kernel
theorem dX9_soonest_33 : decode cX9_soonest 33 = .ok (.iload_n 1, 1) := by decide +kernel
theorem dX9_soonest_34 : decode cX9_soonest 34 = .ok (.invokevirtual 180, 3) := by decide +kernel
theorem dX9_soonest_37 : decode cX9_soonest 37 = .ok (.istore_n 3, 1) := by decide +kernel
theorem dX9_soonest_38 : decode cX9_soonest 38 = .ok (.iload_n 3, 1) := by decide +kernel
theorem dX9_soonest_39 : decode cX9_soonest 39 = .ok (.ldc 172, 2) := by decide +kernel
theorem dX9_soonest_41 : decode cX9_soonest 41 = .ok (.if_icmp .eq 7, 3) := by decide +kernel
theorem dX9_soonest_44 : decode cX9_soonest 44 = .ok (.iload_n 2, 1) := by decide +kernel
theorem dX9_soonest_45 : decode cX9_soonest 45 = .ok (.ifCond .ge 33, 3) := by decide +kernel
theorem dX9_soonest_48 : decode cX9_soonest 48 = .ok (.iload_n 3, 1) := by decide +kernel
theorem dX9_soonest_49 : decode cX9_soonest 49 = .ok (.ldc 172, 2) := by decide +kernel
theorem dX9_soonest_51 : decode cX9_soonest 51 = .ok (.if_icmp .ne 8, 3) := by decide +kernel
theorem dX9_soonest_54 : decode cX9_soonest 54 = .ok (.bipush (-9), 2) := by decide +kernel
theorem dX9_soonest_56 : decode cX9_soonest 56 = .ok (.goto 21, 3) := by decide +kernel
theorem dX9_soonest_59 : decode cX9_soonest 59 = .ok (.iload_n 2, 1) := by decide +kernel
theorem dX9_soonest_60 : decode cX9_soonest 60 = .ok (.iconst (-1), 1) := by decide +kernel
theorem dX9_soonest_61 : decode cX9_soonest 61 = .ok (.if_icmp .ne 11, 3) := by decide +kernel
theorem dX9_soonest_64 : decode cX9_soonest 64 = .ok (.iload_n 3, 1) := by decide +kernel
theorem dX9_soonest_65 : decode cX9_soonest 65 = .ok (.sipush 1000, 3) := by decide +kernel
theorem dX9_soonest_68 : decode cX9_soonest 68 = .ok (.idiv, 1) := by decide +kernel
theorem dX9_soonest_69 : decode cX9_soonest 69 = .ok (.goto 8, 3) := by decide +kernel
theorem dX9_soonest_72 : decode cX9_soonest 72 = .ok (.iload_n 3, 1) := by decide +kernel
theorem dX9_soonest_73 : decode cX9_soonest 73 = .ok (.sipush 1000, 3) := by decide +kernel
theorem dX9_soonest_76 : decode cX9_soonest 76 = .ok (.irem, 1) := by decide +kernel
theorem dX9_soonest_77 : decode cX9_soonest 77 = .ok (.ireturn, 1) := by decide +kernel
theorem dX9_soonest_78 : decode cX9_soonest 78 = .ok (.aload_n 0, 1) := by decide +kernel
theorem dX9_soonest_79 : decode cX9_soonest 79 = .ok (.getfield 34, 3) := by decide +kernel
theorem dX9_soonest_82 : decode cX9_soonest 82 = .ok (.iconst 5, 1) := by decide +kernel
theorem dX9_soonest_83 : decode cX9_soonest 83 = .ok (.iload_n 1, 1) := by decide +kernel
theorem dX9_soonest_84 : decode cX9_soonest 84 = .ok (.iadd, 1) := by decide +kernel
theorem dX9_soonest_85 : decode cX9_soonest 85 = .ok (.iaload, 1) := by decide +kernel
theorem dX9_soonest_86 : decode cX9_soonest 86 = .ok (.istore 4, 2) := by decide +kernel
theorem dX9_soonest_88 : decode cX9_soonest 88 = .ok (.aload_n 0, 1) := by decide +kernel
theorem dX9_soonest_89 : decode cX9_soonest 89 = .ok (.getfield 34, 3) := by decide +kernel
theorem dX9_soonest_92 : decode cX9_soonest 92 = .ok (.bipush 10, 2) := by decide +kernel
theorem dX9_soonest_94 : decode cX9_soonest 94 = .ok (.iload_n 1, 1) := by decide +kernel
theorem dX9_soonest_95 : decode cX9_soonest 95 = .ok (.iadd, 1) := by decide +kernel
theorem dX9_soonest_96 : decode cX9_soonest 96 = .ok (.iaload, 1) := by decide +kernel
theorem dX9_soonest_97 : decode cX9_soonest 97 = .ok (.istore 5, 2) := by decide +kernel
theorem dX9_soonest_99 : decode cX9_soonest 99 = .ok (.iconst 0, 1) := by decide +kernel
theorem dX9_soonest_100 : decode cX9_soonest 100 = .ok (.istore 6, 2) := by decide +kernel
theorem dX9_soonest_102 : decode cX9_soonest 102 = .ok (.iload 4, 2) := by decide +kernel
theorem dX9_soonest_104 : decode cX9_soonest 104 = .ok (.ifCond .lt 99, 3) := by decide +kernel
theorem dX9_soonest_107 : decode cX9_soonest 107 = .ok (.bipush (-9), 2) := by decide +kernel
theorem dX9_soonest_109 : decode cX9_soonest 109 = .ok (.istore 7, 2) := by decide +kernel
theorem dX9_soonest_111 : decode cX9_soonest 111 = .ok (.aload_n 0, 1) := by decide +kernel
theorem dX9_soonest_112 : decode cX9_soonest 112 = .ok (.getfield 13, 3) := by decide +kernel
theorem dX9_soonest_115 : decode cX9_soonest 115 = .ok (.iconst 1, 1) := by decide +kernel
theorem dX9_soonest_116 : decode cX9_soonest 116 = .ok (.iaload, 1) := by decide +kernel
theorem dX9_soonest_117 : decode cX9_soonest 117 = .ok (.iconst 1, 1) := by decide +kernel
theorem dX9_soonest_118 : decode cX9_soonest 118 = .ok (.isub, 1) := by decide +kernel
theorem dX9_soonest_119 : decode cX9_soonest 119 = .ok (.istore 8, 2) := by decide +kernel
theorem dX9_soonest_121 : decode cX9_soonest 121 = .ok (.iload 8, 2) := by decide +kernel
theorem dX9_soonest_123 : decode cX9_soonest 123 = .ok (.ifCond .lt 45, 3) := by decide +kernel
theorem dX9_soonest_126 : decode cX9_soonest 126 = .ok (.aload_n 0, 1) := by decide +kernel
theorem dX9_soonest_127 : decode cX9_soonest 127 = .ok (.iload_n 1, 1) := by decide +kernel
theorem dX9_soonest_128 : decode cX9_soonest 128 = .ok (.iload 4, 2) := by decide +kernel
theorem dX9_soonest_130 : decode cX9_soonest 130 = .ok (.iload 5, 2) := by decide +kernel
theorem dX9_soonest_132 : decode cX9_soonest 132 = .ok (.iload 8, 2) := by decide +kernel
theorem dX9_soonest_134 : decode cX9_soonest 134 = .ok (.invokevirtual 173, 3) := by decide +kernel
theorem dX9_soonest_137 : decode cX9_soonest 137 = .ok (.aload_n 0, 1) := by decide +kernel
theorem dX9_soonest_138 : decode cX9_soonest 138 = .ok (.getfield 53, 3) := by decide +kernel
theorem dX9_soonest_141 : decode cX9_soonest 141 = .ok (.bipush 6, 2) := by decide +kernel
theorem dX9_soonest_143 : decode cX9_soonest 143 = .ok (.iload 4, 2) := by decide +kernel
theorem dX9_soonest_145 : decode cX9_soonest 145 = .ok (.imul, 1) := by decide +kernel
theorem dX9_soonest_146 : decode cX9_soonest 146 = .ok (.iload 5, 2) := by decide +kernel
theorem dX9_soonest_148 : decode cX9_soonest 148 = .ok (.iadd, 1) := by decide +kernel
theorem dX9_soonest_149 : decode cX9_soonest 149 = .ok (.iaload, 1) := by decide +kernel
theorem dX9_soonest_150 : decode cX9_soonest 150 = .ok (.if_icmp .ne 8, 3) := by decide +kernel
theorem dX9_soonest_153 : decode cX9_soonest 153 = .ok (.iload 8, 2) := by decide +kernel
theorem dX9_soonest_155 : decode cX9_soonest 155 = .ok (.goto 5, 3) := by decide +kernel
theorem dX9_soonest_158 : decode cX9_soonest 158 = .ok (.iload 7, 2) := by decide +kernel
theorem dX9_soonest_160 : decode cX9_soonest 160 = .ok (.istore 7, 2) := by decide +kernel
theorem dX9_soonest_162 : decode cX9_soonest 162 = .ok (.iinc 8 (-1), 3) := by decide +kernel
theorem dX9_soonest_165 : decode cX9_soonest 165 = .ok (.goto (-44), 3) := by decide +kernel
theorem dX9_soonest_168 : decode cX9_soonest 168 = .ok (.iload 6, 2) := by decide +kernel
theorem dX9_soonest_170 : decode cX9_soonest 170 = .ok (.iload_n 2, 1) := by decide +kernel
theorem dX9_soonest_171 : decode cX9_soonest 171 = .ok (.if_icmp .ne 6, 3) := by decide +kernel
theorem dX9_soonest_174 : decode cX9_soonest 174 = .ok (.iload 7, 2) := by decide +kernel
theorem dX9_soonest_176 : decode cX9_soonest 176 = .ok (.ireturn, 1) := by decide +kernel
theorem dX9_soonest_177 : decode cX9_soonest 177 = .ok (.iload 4, 2) := by decide +kernel
theorem dX9_soonest_179 : decode cX9_soonest 179 = .ok (.aload_n 0, 1) := by decide +kernel
theorem dX9_soonest_180 : decode cX9_soonest 180 = .ok (.iload_n 1, 1) := by decide +kernel
theorem dX9_soonest_181 : decode cX9_soonest 181 = .ok (.iload 7, 2) := by decide +kernel
theorem dX9_soonest_183 : decode cX9_soonest 183 = .ok (.iload 5, 2) := by decide +kernel
theorem dX9_soonest_185 : decode cX9_soonest 185 = .ok (.invokevirtual 168, 3) := by decide +kernel
theorem dX9_soonest_188 : decode cX9_soonest 188 = .ok (.isub, 1) := by decide +kernel
theorem dX9_soonest_189 : decode cX9_soonest 189 = .ok (.istore 4, 2) := by decide +kernel
theorem dX9_soonest_191 : decode cX9_soonest 191 = .ok (.iload 7, 2) := by decide +kernel
theorem dX9_soonest_193 : decode cX9_soonest 193 = .ok (.iconst 1, 1) := by decide +kernel
theorem dX9_soonest_194 : decode cX9_soonest 194 = .ok (.iadd, 1) := by decide +kernel
theorem dX9_soonest_195 : decode cX9_soonest 195 = .ok (.istore 5, 2) := by decide +kernel
theorem dX9_soonest_197 : decode cX9_soonest 197 = .ok (.iinc 6 1, 3) := by decide +kernel
theorem dX9_soonest_200 : decode cX9_soonest 200 = .ok (.goto (-98), 3) := by decide +kernel
theorem dX9_soonest_203 : decode cX9_soonest 203 = .ok (.bipush (-5), 2) := by decide +kernel
theorem dX9_soonest_205 : decode cX9_soonest 205 = .ok (.ireturn, 1) := by decide +kernel
theorem dX9_loved_0 : decode cX9_loved 0 = .ok (.aload_n 0, 1) := by decide +kernel
theorem dX9_loved_1 : decode cX9_loved 1 = .ok (.iconst 0, 1) := by decide +kernel
theorem dX9_loved_2 : decode cX9_loved 2 = .ok (.putfield 74, 3) := by decide +kernel
theorem dX9_loved_5 : decode cX9_loved 5 = .ok (.iconst 0, 1) := by decide +kernel
theorem dX9_loved_6 : decode cX9_loved 6 = .ok (.istore_n 1, 1) := by decide +kernel
theorem dX9_loved_7 : decode cX9_loved 7 = .ok (.iconst 0, 1) := by decide +kernel
theorem dX9_loved_8 : decode cX9_loved 8 = .ok (.istore_n 2, 1) := by decide +kernel
theorem dX9_loved_9 : decode cX9_loved 9 = .ok (.iload_n 2, 1) := by decide +kernel
theorem dX9_loved_10 : decode cX9_loved 10 = .ok (.aload_n 0, 1) := by decide +kernel
theorem dX9_loved_11 : decode cX9_loved 11 = .ok (.getfield 13, 3) := by decide +kernel
theorem dX9_loved_14 : decode cX9_loved 14 = .ok (.iconst 0, 1) := by decide +kernel
theorem dX9_loved_15 : decode cX9_loved 15 = .ok (.iaload, 1) := by decide +kernel
theorem dX9_loved_16 : decode cX9_loved 16 = .ok (.if_icmp .ge 37, 3) := by decide +kernel
theorem dX9_loved_19 : decode cX9_loved 19 = .ok (.iload_n 1, 1) := by decide +kernel
theorem dX9_loved_20 : decode cX9_loved 20 = .ok (.aload_n 0, 1) := by decide +kernel
theorem dX9_loved_21 : decode cX9_loved 21 = .ok (.iload_n 2, 1) := by decide +kernel
theorem dX9_loved_22 : decode cX9_loved 22 = .ok (.invokevirtual 146, 3) := by decide +kernel
theorem dX9_loved_25 : decode cX9_loved 25 = .ok (.ifCond .ne 19, 3) := by decide +kernel
theorem dX9_loved_28 : decode cX9_loved 28 = .ok (.aload_n 0, 1) := by decide +kernel
theorem dX9_loved_29 : decode cX9_loved 29 = .ok (.iload_n 2, 1) := by decide +kernel
theorem dX9_loved_30 : decode cX9_loved 30 = .ok (.invokevirtual 180, 3) := by decide +kernel
theorem dX9_loved_33 : decode cX9_loved 33 = .ok (.ldc 172, 2) := by decide +kernel
theorem dX9_loved_35 : decode cX9_loved 35 = .ok (.if_icmp .ne 9, 3) := by decide +kernel
theorem dX9_loved_38 : decode cX9_loved 38 = .ok (.iconst 1, 1) := by decide +kernel
theorem dX9_loved_39 : decode cX9_loved 39 = .ok (.iload_n 2, 1) := by decide +kernel
theorem dX9_loved_40 : decode cX9_loved 40 = .ok (.ishl, 1) := by decide +kernel
theorem dX9_loved_41 : decode cX9_loved 41 = .ok (.goto 4, 3) := by decide +kernel
theorem dX9_loved_44 : decode cX9_loved 44 = .ok (.iconst 0, 1) := by decide +kernel
theorem dX9_loved_45 : decode cX9_loved 45 = .ok (.ior, 1) := by decide +kernel
theorem dX9_loved_46 : decode cX9_loved 46 = .ok (.istore_n 1, 1) := by decide +kernel
theorem dX9_loved_47 : decode cX9_loved 47 = .ok (.iinc 2 1, 3) := by decide +kernel
theorem dX9_loved_50 : decode cX9_loved 50 = .ok (.goto (-41), 3) := by decide +kernel
theorem dX9_loved_53 : decode cX9_loved 53 = .ok (.iload_n 1, 1) := by decide +kernel
theorem dX9_loved_54 : decode cX9_loved 54 = .ok (.ireturn, 1) := by decide +kernel
theorem dX9_gathers_0 : decode cX9_gathers 0 = .ok (.iconst 0, 1) := by decide +kernel
theorem dX9_gathers_1 : decode cX9_gathers 1 = .ok (.istore_n 1, 1) := by decide +kernel
theorem dX9_gathers_2 : decode cX9_gathers 2 = .ok (.iload_n 1, 1) := by decide +kernel
theorem dX9_gathers_3 : decode cX9_gathers 3 = .ok (.aload_n 0, 1) := by decide +kernel
theorem dX9_gathers_4 : decode cX9_gathers 4 = .ok (.getfield 13, 3) := by decide +kernel
theorem dX9_gathers_7 : decode cX9_gathers 7 = .ok (.iconst 0, 1) := by decide +kernel
theorem dX9_gathers_8 : decode cX9_gathers 8 = .ok (.iaload, 1) := by decide +kernel
theorem dX9_gathers_9 : decode cX9_gathers 9 = .ok (.if_icmp .ge 50, 3) := by decide +kernel
theorem dX9_gathers_12 : decode cX9_gathers 12 = .ok (.aload_n 0, 1) := by decide +kernel
theorem dX9_gathers_13 : decode cX9_gathers 13 = .ok (.iload_n 1, 1) := by decide +kernel
theorem dX9_gathers_14 : decode cX9_gathers 14 = .ok (.invokevirtual 146, 3) := by decide +kernel
theorem dX9_gathers_17 : decode cX9_gathers 17 = .ok (.ifCond .eq 8, 3) := by decide +kernel
theorem dX9_gathers_20 : decode cX9_gathers 20 = .ok (.ldc 172, 2) := by decide +kernel
theorem dX9_gathers_22 : decode cX9_gathers 22 = .ok (.goto 8, 3) := by decide +kernel
theorem dX9_gathers_25 : decode cX9_gathers 25 = .ok (.aload_n 0, 1) := by decide +kernel
theorem dX9_gathers_26 : decode cX9_gathers 26 = .ok (.iload_n 1, 1) := by decide +kernel
theorem dX9_gathers_27 : decode cX9_gathers 27 = .ok (.invokevirtual 180, 3) := by decide +kernel
theorem dX9_gathers_30 : decode cX9_gathers 30 = .ok (.istore_n 2, 1) := by decide +kernel
theorem dX9_gathers_31 : decode cX9_gathers 31 = .ok (.aload_n 0, 1) := by decide +kernel
theorem dX9_gathers_32 : decode cX9_gathers 32 = .ok (.getfield 56, 3) := by decide +kernel
theorem dX9_gathers_35 : decode cX9_gathers 35 = .ok (.iload_n 1, 1) := by decide +kernel
theorem dX9_gathers_36 : decode cX9_gathers 36 = .ok (.iload_n 2, 1) := by decide +kernel
theorem dX9_gathers_37 : decode cX9_gathers 37 = .ok (.ldc 172, 2) := by decide +kernel
theorem dX9_gathers_39 : decode cX9_gathers 39 = .ok (.if_icmp .ne 8, 3) := by decide +kernel
theorem dX9_gathers_42 : decode cX9_gathers 42 = .ok (.ldc 172, 2) := by decide +kernel
theorem dX9_gathers_44 : decode cX9_gathers 44 = .ok (.goto 8, 3) := by decide +kernel
theorem dX9_gathers_47 : decode cX9_gathers 47 = .ok (.iload_n 2, 1) := by decide +kernel
theorem dX9_gathers_48 : decode cX9_gathers 48 = .ok (.sipush 1000, 3) := by decide +kernel
theorem dX9_gathers_51 : decode cX9_gathers 51 = .ok (.idiv, 1) := by decide +kernel
theorem dX9_gathers_52 : decode cX9_gathers 52 = .ok (.iastore, 1) := by decide +kernel
theorem dX9_gathers_53 : decode cX9_gathers 53 = .ok (.iinc 1 1, 3) := by decide +kernel
theorem dX9_gathers_56 : decode cX9_gathers 56 = .ok (.goto (-54), 3) := by decide +kernel
theorem dX9_gathers_59 : decode cX9_gathers 59 = .ok (.return_, 1) := by decide +kernel
theorem dX9_rowOf_0 : decode cX9_rowOf 0 = .ok (.sipush 1296, 3) := by decide +kernel
theorem dX9_rowOf_3 : decode cX9_rowOf 3 = .ok (.istore_n 2, 1) := by decide +kernel
theorem dX9_rowOf_4 : decode cX9_rowOf 4 = .ok (.iconst 0, 1) := by decide +kernel
theorem dX9_rowOf_5 : decode cX9_rowOf 5 = .ok (.istore_n 3, 1) := by decide +kernel
theorem dX9_rowOf_6 : decode cX9_rowOf 6 = .ok (.iconst 0, 1) := by decide +kernel
theorem dX9_rowOf_7 : decode cX9_rowOf 7 = .ok (.istore 4, 2) := by decide +kernel
theorem dX9_rowOf_9 : decode cX9_rowOf 9 = .ok (.iconst 0, 1) := by decide +kernel
theorem dX9_rowOf_10 : decode cX9_rowOf 10 = .ok (.istore 5, 2) := by decide +kernel
theorem dX9_rowOf_12 : decode cX9_rowOf 12 = .ok (.iload 5, 2) := by decide +kernel
theorem dX9_rowOf_14 : decode cX9_rowOf 14 = .ok (.iconst 5, 1) := by decide +kernel
theorem dX9_rowOf_15 : decode cX9_rowOf 15 = .ok (.if_icmp .ge 94, 3) := by decide +kernel
theorem dX9_rowOf_18 : decode cX9_rowOf 18 = .ok (.iload_n 1, 1) := by decide +kernel
theorem dX9_rowOf_19 : decode cX9_rowOf 19 = .ok (.iload_n 2, 1) := by decide +kernel
theorem dX9_rowOf_20 : decode cX9_rowOf 20 = .ok (.idiv, 1) := by decide +kernel
theorem dX9_rowOf_21 : decode cX9_rowOf 21 = .ok (.bipush 6, 2) := by decide +kernel
theorem dX9_rowOf_23 : decode cX9_rowOf 23 = .ok (.irem, 1) := by decide +kernel
theorem dX9_rowOf_24 : decode cX9_rowOf 24 = .ok (.istore 6, 2) := by decide +kernel
theorem dX9_rowOf_26 : decode cX9_rowOf 26 = .ok (.iload_n 2, 1) := by decide +kernel
theorem dX9_rowOf_27 : decode cX9_rowOf 27 = .ok (.bipush 6, 2) := by decide +kernel
theorem dX9_rowOf_29 : decode cX9_rowOf 29 = .ok (.idiv, 1) := by decide +kernel
theorem dX9_rowOf_30 : decode cX9_rowOf 30 = .ok (.istore_n 2, 1) := by decide +kernel
theorem dX9_rowOf_31 : decode cX9_rowOf 31 = .ok (.iload 6, 2) := by decide +kernel
theorem dX9_rowOf_33 : decode cX9_rowOf 33 = .ok (.ifCond .le 70, 3) := by decide +kernel
theorem dX9_rowOf_36 : decode cX9_rowOf 36 = .ok (.iload_n 3, 1) := by decide +kernel
theorem dX9_rowOf_37 : decode cX9_rowOf 37 = .ok (.iload 5, 2) := by decide +kernel
theorem dX9_rowOf_39 : decode cX9_rowOf 39 = .ok (.if_icmp .lt 39, 3) := by decide +kernel
theorem dX9_rowOf_42 : decode cX9_rowOf 42 = .ok (.iload 6, 2) := by decide +kernel
theorem dX9_rowOf_44 : decode cX9_rowOf 44 = .ok (.aload_n 0, 1) := by decide +kernel
theorem dX9_rowOf_45 : decode cX9_rowOf 45 = .ok (.getfield 13, 3) := by decide +kernel
theorem dX9_rowOf_48 : decode cX9_rowOf 48 = .ok (.iconst 0, 1) := by decide +kernel
theorem dX9_rowOf_49 : decode cX9_rowOf 49 = .ok (.iaload, 1) := by decide +kernel
theorem dX9_rowOf_50 : decode cX9_rowOf 50 = .ok (.if_icmp .gt 28, 3) := by decide +kernel
theorem dX9_rowOf_53 : decode cX9_rowOf 53 = .ok (.iload 4, 2) := by decide +kernel
theorem dX9_rowOf_55 : decode cX9_rowOf 55 = .ok (.iload 6, 2) := by decide +kernel
theorem dX9_rowOf_57 : decode cX9_rowOf 57 = .ok (.ishr, 1) := by decide +kernel
theorem dX9_rowOf_58 : decode cX9_rowOf 58 = .ok (.iconst 1, 1) := by decide +kernel
theorem dX9_rowOf_59 : decode cX9_rowOf 59 = .ok (.iand, 1) := by decide +kernel
theorem dX9_rowOf_60 : decode cX9_rowOf 60 = .ok (.iconst 1, 1) := by decide +kernel
theorem dX9_rowOf_61 : decode cX9_rowOf 61 = .ok (.if_icmp .eq 17, 3) := by decide +kernel
theorem dX9_rowOf_64 : decode cX9_rowOf 64 = .ok (.aload_n 0, 1) := by decide +kernel
theorem dX9_rowOf_65 : decode cX9_rowOf 65 = .ok (.getfield 56, 3) := by decide +kernel
theorem dX9_rowOf_68 : decode cX9_rowOf 68 = .ok (.iload 6, 2) := by decide +kernel
theorem dX9_rowOf_70 : decode cX9_rowOf 70 = .ok (.iconst 1, 1) := by decide +kernel
theorem dX9_rowOf_71 : decode cX9_rowOf 71 = .ok (.isub, 1) := by decide +kernel
theorem dX9_rowOf_72 : decode cX9_rowOf 72 = .ok (.iaload, 1) := by decide +kernel
theorem dX9_rowOf_73 : decode cX9_rowOf 73 = .ok (.ldc 172, 2) := by decide +kernel
theorem dX9_rowOf_75 : decode cX9_rowOf 75 = .ok (.if_icmp .ne 6, 3) := by decide +kernel
theorem dX9_rowOf_78 : decode cX9_rowOf 78 = .ok (.bipush (-9), 2) := by decide +kernel
theorem dX9_rowOf_80 : decode cX9_rowOf 80 = .ok (.ireturn, 1) := by decide +kernel
theorem dX9_rowOf_81 : decode cX9_rowOf 81 = .ok (.iload 4, 2) := by decide +kernel
theorem dX9_rowOf_83 : decode cX9_rowOf 83 = .ok (.iconst 1, 1) := by decide +kernel
theorem dX9_rowOf_84 : decode cX9_rowOf 84 = .ok (.iload 6, 2) := by decide +kernel
theorem dX9_rowOf_86 : decode cX9_rowOf 86 = .ok (.ishl, 1) := by decide +kernel
theorem dX9_rowOf_87 : decode cX9_rowOf 87 = .ok (.ior, 1) := by decide +kernel
theorem dX9_rowOf_88 : decode cX9_rowOf 88 = .ok (.istore 4, 2) := by decide +kernel
theorem dX9_rowOf_90 : decode cX9_rowOf 90 = .ok (.aload_n 0, 1) := by decide +kernel
theorem dX9_rowOf_91 : decode cX9_rowOf 91 = .ok (.getfield 59, 3) := by decide +kernel
theorem dX9_rowOf_94 : decode cX9_rowOf 94 = .ok (.iload_n 3, 1) := by decide +kernel
theorem dX9_rowOf_95 : decode cX9_rowOf 95 = .ok (.iload 6, 2) := by decide +kernel
theorem dX9_rowOf_97 : decode cX9_rowOf 97 = .ok (.iconst 1, 1) := by decide +kernel
theorem dX9_rowOf_98 : decode cX9_rowOf 98 = .ok (.isub, 1) := by decide +kernel
theorem dX9_rowOf_99 : decode cX9_rowOf 99 = .ok (.iastore, 1) := by decide +kernel
theorem dX9_rowOf_100 : decode cX9_rowOf 100 = .ok (.iinc 3 1, 3) := by decide +kernel
theorem dX9_rowOf_103 : decode cX9_rowOf 103 = .ok (.iinc 5 1, 3) := by decide +kernel
theorem dX9_rowOf_106 : decode cX9_rowOf 106 = .ok (.goto (-94), 3) := by decide +kernel
theorem dX9_rowOf_109 : decode cX9_rowOf 109 = .ok (.iload_n 3, 1) := by decide +kernel
theorem dX9_rowOf_110 : decode cX9_rowOf 110 = .ok (.ireturn, 1) := by decide +kernel
theorem dX9_round_0 : decode cX9_round 0 = .ok (.aload_n 0, 1) := by decide +kernel
theorem dX9_round_1 : decode cX9_round 1 = .ok (.iconst 0, 1) := by decide +kernel
theorem dX9_round_2 : decode cX9_round 2 = .ok (.putfield 74, 3) := by decide +kernel
theorem dX9_round_5 : decode cX9_round 5 = .ok (.iload_n 1, 1) := by decide +kernel
theorem dX9_round_6 : decode cX9_round 6 = .ok (.bipush (-2), 2) := by decide +kernel
theorem dX9_round_8 : decode cX9_round 8 = .ok (.if_icmp .ge 5, 3) := by decide +kernel
theorem dX9_round_11 : decode cX9_round 11 = .ok (.iconst (-1), 1) := by decide +kernel
theorem dX9_round_12 : decode cX9_round 12 = .ok (.ireturn, 1) := by decide +kernel
theorem dX9_round_13 : decode cX9_round 13 = .ok (.aload_n 0, 1) := by decide +kernel
theorem dX9_round_14 : decode cX9_round 14 = .ok (.invokevirtual 183, 3) := by decide +kernel
theorem dX9_round_17 : decode cX9_round 17 = .ok (.iconst (-1), 1) := by decide +kernel
theorem dX9_round_18 : decode cX9_round 18 = .ok (.istore_n 2, 1) := by decide +kernel
theorem dX9_round_19 : decode cX9_round 19 = .ok (.iconst 0, 1) := by decide +kernel
theorem dX9_round_20 : decode cX9_round 20 = .ok (.istore_n 3, 1) := by decide +kernel
theorem dX9_round_21 : decode cX9_round 21 = .ok (.iconst 0, 1) := by decide +kernel
theorem dX9_round_22 : decode cX9_round 22 = .ok (.istore 4, 2) := by decide +kernel
theorem dX9_round_24 : decode cX9_round 24 = .ok (.iconst 0, 1) := by decide +kernel
theorem dX9_round_25 : decode cX9_round 25 = .ok (.istore 5, 2) := by decide +kernel
theorem dX9_round_27 : decode cX9_round 27 = .ok (.iload 5, 2) := by decide +kernel
theorem dX9_round_29 : decode cX9_round 29 = .ok (.sipush 7776, 3) := by decide +kernel
theorem dX9_round_32 : decode cX9_round 32 = .ok (.if_icmp .ge 204, 3) := by decide +kernel
theorem dX9_round_35 : decode cX9_round 35 = .ok (.aload_n 0, 1) := by decide +kernel
theorem dX9_round_36 : decode cX9_round 36 = .ok (.iload 5, 2) := by decide +kernel
theorem dX9_round_38 : decode cX9_round 38 = .ok (.invokevirtual 186, 3) := by decide +kernel
theorem dX9_round_41 : decode cX9_round 41 = .ok (.istore 6, 2) := by decide +kernel
theorem dX9_round_43 : decode cX9_round 43 = .ok (.aload_n 0, 1) := by decide +kernel
theorem dX9_round_44 : decode cX9_round 44 = .ok (.getfield 34, 3) := by decide +kernel
theorem dX9_round_47 : decode cX9_round 47 = .ok (.iconst 1, 1) := by decide +kernel
theorem dX9_round_48 : decode cX9_round 48 = .ok (.iaload, 1) := by decide +kernel
theorem dX9_round_49 : decode cX9_round 49 = .ok (.istore 7, 2) := by decide +kernel
theorem dX9_round_51 : decode cX9_round 51 = .ok (.iconst 0, 1) := by decide +kernel
theorem dX9_round_52 : decode cX9_round 52 = .ok (.istore 8, 2) := by decide +kernel
theorem dX9_round_54 : decode cX9_round 54 = .ok (.iconst 0, 1) := by decide +kernel
theorem dX9_round_55 : decode cX9_round 55 = .ok (.istore 9, 2) := by decide +kernel
theorem dX9_round_57 : decode cX9_round 57 = .ok (.iconst 0, 1) := by decide +kernel
theorem dX9_round_58 : decode cX9_round 58 = .ok (.istore 10, 2) := by decide +kernel
theorem dX9_round_60 : decode cX9_round 60 = .ok (.iload 10, 2) := by decide +kernel
theorem dX9_round_62 : decode cX9_round 62 = .ok (.iload 6, 2) := by decide +kernel
theorem dX9_round_64 : decode cX9_round 64 = .ok (.if_icmp .ge 68, 3) := by decide +kernel
theorem dX9_round_67 : decode cX9_round 67 = .ok (.iload 8, 2) := by decide +kernel
theorem dX9_round_69 : decode cX9_round 69 = .ok (.aload_n 0, 1) := by decide +kernel
theorem dX9_round_70 : decode cX9_round 70 = .ok (.iload 7, 2) := by decide +kernel
theorem dX9_round_72 : decode cX9_round 72 = .ok (.aload_n 0, 1) := by decide +kernel
theorem dX9_round_73 : decode cX9_round 73 = .ok (.getfield 59, 3) := by decide +kernel
theorem dX9_round_76 : decode cX9_round 76 = .ok (.iload 10, 2) := by decide +kernel
theorem dX9_round_78 : decode cX9_round 78 = .ok (.iaload, 1) := by decide +kernel
theorem dX9_round_79 : decode cX9_round 79 = .ok (.invokevirtual 159, 3) := by decide +kernel
theorem dX9_round_82 : decode cX9_round 82 = .ok (.aload_n 0, 1) := by decide +kernel
theorem dX9_round_83 : decode cX9_round 83 = .ok (.getfield 56, 3) := by decide +kernel
theorem dX9_round_86 : decode cX9_round 86 = .ok (.aload_n 0, 1) := by decide +kernel
theorem dX9_round_87 : decode cX9_round 87 = .ok (.getfield 59, 3) := by decide +kernel
theorem dX9_round_90 : decode cX9_round 90 = .ok (.iload 10, 2) := by decide +kernel
theorem dX9_round_92 : decode cX9_round 92 = .ok (.iaload, 1) := by decide +kernel
theorem dX9_round_93 : decode cX9_round 93 = .ok (.iaload, 1) := by decide +kernel
theorem dX9_round_94 : decode cX9_round 94 = .ok (.iadd, 1) := by decide +kernel
theorem dX9_round_95 : decode cX9_round 95 = .ok (.iadd, 1) := by decide +kernel
theorem dX9_round_96 : decode cX9_round 96 = .ok (.istore 8, 2) := by decide +kernel
theorem dX9_round_98 : decode cX9_round 98 = .ok (.iload 9, 2) := by decide +kernel
theorem dX9_round_100 : decode cX9_round 100 = .ok (.aload_n 0, 1) := by decide +kernel
theorem dX9_round_101 : decode cX9_round 101 = .ok (.getfield 22, 3) := by decide +kernel
theorem dX9_round_104 : decode cX9_round 104 = .ok (.aload_n 0, 1) := by decide +kernel
theorem dX9_round_105 : decode cX9_round 105 = .ok (.getfield 59, 3) := by decide +kernel
theorem dX9_round_108 : decode cX9_round 108 = .ok (.iload 10, 2) := by decide +kernel
theorem dX9_round_110 : decode cX9_round 110 = .ok (.iaload, 1) := by decide +kernel
theorem dX9_round_111 : decode cX9_round 111 = .ok (.iaload, 1) := by decide +kernel
theorem dX9_round_112 : decode cX9_round 112 = .ok (.iadd, 1) := by decide +kernel
theorem dX9_round_113 : decode cX9_round 113 = .ok (.istore 9, 2) := by decide +kernel
theorem dX9_round_115 : decode cX9_round 115 = .ok (.aload_n 0, 1) := by decide +kernel
theorem dX9_round_116 : decode cX9_round 116 = .ok (.getfield 59, 3) := by decide +kernel
theorem dX9_round_119 : decode cX9_round 119 = .ok (.iload 10, 2) := by decide +kernel
theorem dX9_round_121 : decode cX9_round 121 = .ok (.iaload, 1) := by decide +kernel
theorem dX9_round_122 : decode cX9_round 122 = .ok (.iconst 1, 1) := by decide +kernel
theorem dX9_round_123 : decode cX9_round 123 = .ok (.iadd, 1) := by decide +kernel
theorem dX9_round_124 : decode cX9_round 124 = .ok (.istore 7, 2) := by decide +kernel
theorem dX9_round_126 : decode cX9_round 126 = .ok (.iinc 10 1, 3) := by decide +kernel
theorem dX9_round_129 : decode cX9_round 129 = .ok (.goto (-69), 3) := by decide +kernel
theorem dX9_round_132 : decode cX9_round 132 = .ok (.iload 6, 2) := by decide +kernel
theorem dX9_round_134 : decode cX9_round 134 = .ok (.ifCond .eq 26, 3) := by decide +kernel
theorem dX9_round_137 : decode cX9_round 137 = .ok (.iload 6, 2) := by decide +kernel
theorem dX9_round_139 : decode cX9_round 139 = .ok (.ifCond .le 25, 3) := by decide +kernel
theorem dX9_round_142 : decode cX9_round 142 = .ok (.aload_n 0, 1) := by decide +kernel
theorem dX9_round_143 : decode cX9_round 143 = .ok (.getfield 34, 3) := by decide +kernel
theorem dX9_round_146 : decode cX9_round 146 = .ok (.iconst 2, 1) := by decide +kernel
theorem dX9_round_147 : decode cX9_round 147 = .ok (.iaload, 1) := by decide +kernel
theorem dX9_round_148 : decode cX9_round 148 = .ok (.iload 8, 2) := by decide +kernel
theorem dX9_round_150 : decode cX9_round 150 = .ok (.iadd, 1) := by decide +kernel
theorem dX9_round_151 : decode cX9_round 151 = .ok (.aload_n 0, 1) := by decide +kernel
theorem dX9_round_152 : decode cX9_round 152 = .ok (.getfield 13, 3) := by decide +kernel
theorem dX9_round_155 : decode cX9_round 155 = .ok (.iconst 5, 1) := by decide +kernel
theorem dX9_round_156 : decode cX9_round 156 = .ok (.iaload, 1) := by decide +kernel
theorem dX9_round_157 : decode cX9_round 157 = .ok (.if_icmp .gt 7, 3) := by decide +kernel
theorem dX9_round_160 : decode cX9_round 160 = .ok (.iconst 1, 1) := by decide +kernel
theorem dX9_round_161 : decode cX9_round 161 = .ok (.goto 4, 3) := by decide +kernel
theorem dX9_round_164 : decode cX9_round 164 = .ok (.iconst 0, 1) := by decide +kernel
theorem dX9_round_165 : decode cX9_round 165 = .ok (.istore 10, 2) := by decide +kernel
theorem dX9_round_167 : decode cX9_round 167 = .ok (.iload 10, 2) := by decide +kernel
theorem dX9_round_169 : decode cX9_round 169 = .ok (.ifCond .eq 61, 3) := by decide +kernel
theorem dX9_round_172 : decode cX9_round 172 = .ok (.iload 9, 2) := by decide +kernel
theorem dX9_round_174 : decode cX9_round 174 = .ok (.iload_n 2, 1) := by decide +kernel
theorem dX9_round_175 : decode cX9_round 175 = .ok (.if_icmp .gt 15, 3) := by decide +kernel
theorem dX9_round_178 : decode cX9_round 178 = .ok (.iload 9, 2) := by decide +kernel
theorem dX9_round_180 : decode cX9_round 180 = .ok (.iload_n 2, 1) := by decide +kernel
theorem dX9_round_181 : decode cX9_round 181 = .ok (.if_icmp .ne 49, 3) := by decide +kernel
theorem dX9_round_184 : decode cX9_round 184 = .ok (.iload 8, 2) := by decide +kernel
theorem dX9_round_186 : decode cX9_round 186 = .ok (.iload_n 3, 1) := by decide +kernel
theorem dX9_round_187 : decode cX9_round 187 = .ok (.if_icmp .ge 43, 3) := by decide +kernel
theorem dX9_round_190 : decode cX9_round 190 = .ok (.iload 9, 2) := by decide +kernel
theorem dX9_round_192 : decode cX9_round 192 = .ok (.istore_n 2, 1) := by decide +kernel
theorem dX9_round_193 : decode cX9_round 193 = .ok (.iload 8, 2) := by decide +kernel
theorem dX9_round_195 : decode cX9_round 195 = .ok (.istore_n 3, 1) := by decide +kernel
theorem dX9_round_196 : decode cX9_round 196 = .ok (.iload 6, 2) := by decide +kernel
theorem dX9_round_198 : decode cX9_round 198 = .ok (.istore 4, 2) := by decide +kernel
theorem dX9_round_200 : decode cX9_round 200 = .ok (.iconst 0, 1) := by decide +kernel
theorem dX9_round_201 : decode cX9_round 201 = .ok (.istore 11, 2) := by decide +kernel
theorem dX9_round_203 : decode cX9_round 203 = .ok (.iload 11, 2) := by decide +kernel
theorem dX9_round_205 : decode cX9_round 205 = .ok (.iload 6, 2) := by decide +kernel
theorem dX9_round_207 : decode cX9_round 207 = .ok (.if_icmp .ge 23, 3) := by decide +kernel
theorem dX9_round_210 : decode cX9_round 210 = .ok (.aload_n 0, 1) := by decide +kernel
theorem dX9_round_211 : decode cX9_round 211 = .ok (.getfield 62, 3) := by decide +kernel
theorem dX9_round_214 : decode cX9_round 214 = .ok (.iload 11, 2) := by decide +kernel
theorem dX9_round_216 : decode cX9_round 216 = .ok (.aload_n 0, 1) := by decide +kernel
theorem dX9_round_217 : decode cX9_round 217 = .ok (.getfield 59, 3) := by decide +kernel
theorem dX9_round_220 : decode cX9_round 220 = .ok (.iload 11, 2) := by decide +kernel
theorem dX9_round_222 : decode cX9_round 222 = .ok (.iaload, 1) := by decide +kernel
theorem dX9_round_223 : decode cX9_round 223 = .ok (.iastore, 1) := by decide +kernel
theorem dX9_round_224 : decode cX9_round 224 = .ok (.iinc 11 1, 3) := by decide +kernel
theorem dX9_round_227 : decode cX9_round 227 = .ok (.goto (-24), 3) := by decide +kernel
theorem dX9_round_230 : decode cX9_round 230 = .ok (.iinc 5 1, 3) := by decide +kernel
theorem dX9_round_233 : decode cX9_round 233 = .ok (.goto (-206), 3) := by decide +kernel
theorem dX9_round_236 : decode cX9_round 236 = .ok (.iload_n 1, 1) := by decide +kernel
theorem dX9_round_237 : decode cX9_round 237 = .ok (.iconst (-1), 1) := by decide +kernel
theorem dX9_round_238 : decode cX9_round 238 = .ok (.if_icmp .ne 7, 3) := by decide +kernel
theorem dX9_round_241 : decode cX9_round 241 = .ok (.iload_n 2, 1) := by decide +kernel
theorem dX9_round_242 : decode cX9_round 242 = .ok (.goto 30, 3) := by decide +kernel
theorem dX9_round_245 : decode cX9_round 245 = .ok (.iload_n 1, 1) := by decide +kernel
theorem dX9_round_246 : decode cX9_round 246 = .ok (.bipush (-2), 2) := by decide +kernel
theorem dX9_round_248 : decode cX9_round 248 = .ok (.if_icmp .ne 7, 3) := by decide +kernel
theorem dX9_round_251 : decode cX9_round 251 = .ok (.iload_n 3, 1) := by decide +kernel
theorem dX9_round_252 : decode cX9_round 252 = .ok (.goto 20, 3) := by decide +kernel
theorem dX9_round_255 : decode cX9_round 255 = .ok (.iload_n 1, 1) := by decide +kernel
theorem dX9_round_256 : decode cX9_round 256 = .ok (.iload 4, 2) := by decide +kernel
theorem dX9_round_258 : decode cX9_round 258 = .ok (.if_icmp .ge 12, 3) := by decide +kernel
theorem dX9_round_261 : decode cX9_round 261 = .ok (.aload_n 0, 1) := by decide +kernel
theorem dX9_round_262 : decode cX9_round 262 = .ok (.getfield 62, 3) := by decide +kernel
theorem dX9_round_265 : decode cX9_round 265 = .ok (.iload_n 1, 1) := by decide +kernel
theorem dX9_round_266 : decode cX9_round 266 = .ok (.iaload, 1) := by decide +kernel
theorem dX9_round_267 : decode cX9_round 267 = .ok (.goto 5, 3) := by decide +kernel
theorem dX9_round_270 : decode cX9_round 270 = .ok (.bipush (-5), 2) := by decide +kernel
theorem dX9_round_272 : decode cX9_round 272 = .ok (.ireturn, 1) := by decide +kernel
theorem dX9_country_0 : decode cX9_country 0 = .ok (.aload_n 0, 1) := by decide +kernel
theorem dX9_country_1 : decode cX9_country 1 = .ok (.iconst 0, 1) := by decide +kernel
theorem dX9_country_2 : decode cX9_country 2 = .ok (.putfield 74, 3) := by decide +kernel
theorem dX9_country_5 : decode cX9_country 5 = .ok (.aload_n 0, 1) := by decide +kernel
theorem dX9_country_6 : decode cX9_country 6 = .ok (.invokevirtual 183, 3) := by decide +kernel
theorem dX9_country_9 : decode cX9_country 9 = .ok (.aload_n 0, 1) := by decide +kernel
theorem dX9_country_10 : decode cX9_country 10 = .ok (.getfield 13, 3) := by decide +kernel
theorem dX9_country_13 : decode cX9_country 13 = .ok (.iconst 0, 1) := by decide +kernel
theorem dX9_country_14 : decode cX9_country 14 = .ok (.iaload, 1) := by decide +kernel
theorem dX9_country_15 : decode cX9_country 15 = .ok (.iconst 2, 1) := by decide +kernel
theorem dX9_country_16 : decode cX9_country 16 = .ok (.idiv, 1) := by decide +kernel
theorem dX9_country_17 : decode cX9_country 17 = .ok (.iconst 1, 1) := by decide +kernel
theorem dX9_country_18 : decode cX9_country 18 = .ok (.iadd, 1) := by decide +kernel
theorem dX9_country_19 : decode cX9_country 19 = .ok (.aload_n 0, 1) := by decide +kernel
theorem dX9_country_20 : decode cX9_country 20 = .ok (.getfield 34, 3) := by decide +kernel
theorem dX9_country_23 : decode cX9_country 23 = .ok (.iconst 3, 1) := by decide +kernel
theorem dX9_country_24 : decode cX9_country 24 = .ok (.iaload, 1) := by decide +kernel
theorem dX9_country_25 : decode cX9_country 25 = .ok (.invokestatic 189, 3) := by decide +kernel
theorem dX9_country_28 : decode cX9_country 28 = .ok (.isub, 1) := by decide +kernel
theorem dX9_country_29 : decode cX9_country 29 = .ok (.istore_n 1, 1) := by decide +kernel
theorem dX9_country_30 : decode cX9_country 30 = .ok (.ldc 172, 2) := by decide +kernel
theorem dX9_country_32 : decode cX9_country 32 = .ok (.istore_n 2, 1) := by decide +kernel
theorem dX9_country_33 : decode cX9_country 33 = .ok (.iconst 0, 1) := by decide +kernel
theorem dX9_country_34 : decode cX9_country 34 = .ok (.istore_n 3, 1) := by decide +kernel
theorem dX9_country_35 : decode cX9_country 35 = .ok (.iload_n 3, 1) := by decide +kernel
theorem dX9_country_36 : decode cX9_country 36 = .ok (.iconst 1, 1) := by decide +kernel
theorem dX9_country_37 : decode cX9_country 37 = .ok (.aload_n 0, 1) := by decide +kernel
theorem dX9_country_38 : decode cX9_country 38 = .ok (.getfield 13, 3) := by decide +kernel
theorem dX9_country_41 : decode cX9_country 41 = .ok (.iconst 0, 1) := by decide +kernel
theorem dX9_country_42 : decode cX9_country 42 = .ok (.iaload, 1) := by decide +kernel
theorem dX9_country_43 : decode cX9_country 43 = .ok (.ishl, 1) := by decide +kernel
theorem dX9_country_44 : decode cX9_country 44 = .ok (.if_icmp .ge 79, 3) := by decide +kernel
theorem dX9_country_47 : decode cX9_country 47 = .ok (.iconst 0, 1) := by decide +kernel
theorem dX9_country_48 : decode cX9_country 48 = .ok (.istore 4, 2) := by decide +kernel
theorem dX9_country_50 : decode cX9_country 50 = .ok (.iconst 0, 1) := by decide +kernel
theorem dX9_country_51 : decode cX9_country 51 = .ok (.istore 5, 2) := by decide +kernel
theorem dX9_country_53 : decode cX9_country 53 = .ok (.iload 5, 2) := by decide +kernel
theorem dX9_country_55 : decode cX9_country 55 = .ok (.aload_n 0, 1) := by decide +kernel
theorem dX9_country_56 : decode cX9_country 56 = .ok (.getfield 13, 3) := by decide +kernel
theorem dX9_country_59 : decode cX9_country 59 = .ok (.iconst 0, 1) := by decide +kernel
theorem dX9_country_60 : decode cX9_country 60 = .ok (.iaload, 1) := by decide +kernel
theorem dX9_country_61 : decode cX9_country 61 = .ok (.if_icmp .ge 35, 3) := by decide +kernel
theorem dX9_country_64 : decode cX9_country 64 = .ok (.iload 4, 2) := by decide +kernel
theorem dX9_country_66 : decode cX9_country 66 = .ok (.iload_n 3, 1) := by decide +kernel
theorem dX9_country_67 : decode cX9_country 67 = .ok (.iload 5, 2) := by decide +kernel
theorem dX9_country_69 : decode cX9_country 69 = .ok (.ishr, 1) := by decide +kernel
theorem dX9_country_70 : decode cX9_country 70 = .ok (.iconst 1, 1) := by decide +kernel
theorem dX9_country_71 : decode cX9_country 71 = .ok (.iand, 1) := by decide +kernel
