theorem d_MD_init_0 : decode b_MD_init 0 = .ok (.aload_n 0, 1) := by decide +kernel
theorem d_MD_init_1 : decode b_MD_init 1 = .ok (.invokespecial 1, 3) := by decide +kernel
theorem d_MD_init_4 : decode b_MD_init 4 = .ok (.aload_n 0, 1) := by decide +kernel
theorem d_MD_init_5 : decode b_MD_init 5 = .ok (.bipush 7, 2) := by decide +kernel
theorem d_MD_init_7 : decode b_MD_init 7 = .ok (.newarray .int, 2) := by decide +kernel
theorem d_MD_init_9 : decode b_MD_init 9 = .ok (.putfield 7, 3) := by decide +kernel
theorem d_MD_init_12 : decode b_MD_init 12 = .ok (.aload_n 0, 1) := by decide +kernel
theorem d_MD_init_13 : decode b_MD_init 13 = .ok (.bipush 7, 2) := by decide +kernel
theorem d_MD_init_15 : decode b_MD_init 15 = .ok (.newarray .int, 2) := by decide +kernel
theorem d_MD_init_17 : decode b_MD_init 17 = .ok (.putfield 13, 3) := by decide +kernel
theorem d_MD_init_20 : decode b_MD_init 20 = .ok (.aload_n 0, 1) := by decide +kernel
theorem d_MD_init_21 : decode b_MD_init 21 = .ok (.bipush 7, 2) := by decide +kernel
theorem d_MD_init_23 : decode b_MD_init 23 = .ok (.newarray .int, 2) := by decide +kernel
theorem d_MD_init_25 : decode b_MD_init 25 = .ok (.putfield 16, 3) := by decide +kernel
theorem d_MD_init_28 : decode b_MD_init 28 = .ok (.aload_n 0, 1) := by decide +kernel
theorem d_MD_init_29 : decode b_MD_init 29 = .ok (.bipush 7, 2) := by decide +kernel
theorem d_MD_init_31 : decode b_MD_init 31 = .ok (.newarray .int, 2) := by decide +kernel
theorem d_MD_init_33 : decode b_MD_init 33 = .ok (.putfield 19, 3) := by decide +kernel
theorem d_MD_init_36 : decode b_MD_init 36 = .ok (.aload_n 0, 1) := by decide +kernel
theorem d_MD_init_37 : decode b_MD_init 37 = .ok (.bipush 7, 2) := by decide +kernel
theorem d_MD_init_39 : decode b_MD_init 39 = .ok (.newarray .int, 2) := by decide +kernel
theorem d_MD_init_41 : decode b_MD_init 41 = .ok (.putfield 22, 3) := by decide +kernel
theorem d_MD_init_44 : decode b_MD_init 44 = .ok (.aload_n 0, 1) := by decide +kernel
theorem d_MD_init_45 : decode b_MD_init 45 = .ok (.bipush 7, 2) := by decide +kernel
theorem d_MD_init_47 : decode b_MD_init 47 = .ok (.newarray .int, 2) := by decide +kernel
theorem d_MD_init_49 : decode b_MD_init 49 = .ok (.putfield 25, 3) := by decide +kernel
theorem d_MD_init_52 : decode b_MD_init 52 = .ok (.aload_n 0, 1) := by decide +kernel
theorem d_MD_init_53 : decode b_MD_init 53 = .ok (.bipush 7, 2) := by decide +kernel
theorem d_MD_init_55 : decode b_MD_init 55 = .ok (.newarray .int, 2) := by decide +kernel
theorem d_MD_init_57 : decode b_MD_init 57 = .ok (.putfield 28, 3) := by decide +kernel
theorem d_MD_init_60 : decode b_MD_init 60 = .ok (.aload_n 0, 1) := by decide +kernel
theorem d_MD_init_61 : decode b_MD_init 61 = .ok (.bipush 7, 2) := by decide +kernel
theorem d_MD_init_63 : decode b_MD_init 63 = .ok (.newarray .int, 2) := by decide +kernel
theorem d_MD_init_65 : decode b_MD_init 65 = .ok (.putfield 31, 3) := by decide +kernel
theorem d_MD_init_68 : decode b_MD_init 68 = .ok (.aload_n 0, 1) := by decide +kernel
theorem d_MD_init_69 : decode b_MD_init 69 = .ok (.bipush 7, 2) := by decide +kernel
theorem d_MD_init_71 : decode b_MD_init 71 = .ok (.newarray .int, 2) := by decide +kernel
theorem d_MD_init_73 : decode b_MD_init 73 = .ok (.putfield 34, 3) := by decide +kernel
theorem d_MD_init_76 : decode b_MD_init 76 = .ok (.aload_n 0, 1) := by decide +kernel
theorem d_MD_init_77 : decode b_MD_init 77 = .ok (.bipush 32, 2) := by decide +kernel
theorem d_MD_init_79 : decode b_MD_init 79 = .ok (.newarray .int, 2) := by decide +kernel
theorem d_MD_init_81 : decode b_MD_init 81 = .ok (.putfield 37, 3) := by decide +kernel
theorem d_MD_init_84 : decode b_MD_init 84 = .ok (.aload_n 0, 1) := by decide +kernel
theorem d_MD_init_85 : decode b_MD_init 85 = .ok (.bipush 56, 2) := by decide +kernel
theorem d_MD_init_87 : decode b_MD_init 87 = .ok (.newarray .int, 2) := by decide +kernel
theorem d_MD_init_89 : decode b_MD_init 89 = .ok (.putfield 40, 3) := by decide +kernel
theorem d_MD_init_92 : decode b_MD_init 92 = .ok (.aload_n 0, 1) := by decide +kernel
theorem d_MD_init_93 : decode b_MD_init 93 = .ok (.bipush 49, 2) := by decide +kernel
theorem d_MD_init_95 : decode b_MD_init 95 = .ok (.newarray .int, 2) := by decide +kernel
theorem d_MD_init_97 : decode b_MD_init 97 = .ok (.putfield 43, 3) := by decide +kernel
theorem d_MD_init_100 : decode b_MD_init 100 = .ok (.aload_n 0, 1) := by decide +kernel
theorem d_MD_init_101 : decode b_MD_init 101 = .ok (.bipush 49, 2) := by decide +kernel
theorem d_MD_init_103 : decode b_MD_init 103 = .ok (.newarray .int, 2) := by decide +kernel
theorem d_MD_init_105 : decode b_MD_init 105 = .ok (.putfield 46, 3) := by decide +kernel
theorem d_MD_init_108 : decode b_MD_init 108 = .ok (.aload_n 0, 1) := by decide +kernel
theorem d_MD_init_109 : decode b_MD_init 109 = .ok (.bipush 49, 2) := by decide +kernel
theorem d_MD_init_111 : decode b_MD_init 111 = .ok (.newarray .int, 2) := by decide +kernel
theorem d_MD_init_113 : decode b_MD_init 113 = .ok (.putfield 49, 3) := by decide +kernel
theorem d_MD_init_116 : decode b_MD_init 116 = .ok (.aload_n 0, 1) := by decide +kernel
theorem d_MD_init_117 : decode b_MD_init 117 = .ok (.bipush 48, 2) := by decide +kernel
theorem d_MD_init_119 : decode b_MD_init 119 = .ok (.newarray .int, 2) := by decide +kernel
theorem d_MD_init_121 : decode b_MD_init 121 = .ok (.putfield 52, 3) := by decide +kernel
theorem d_MD_init_124 : decode b_MD_init 124 = .ok (.aload_n 0, 1) := by decide +kernel
theorem d_MD_init_125 : decode b_MD_init 125 = .ok (.bipush 48, 2) := by decide +kernel
theorem d_MD_init_127 : decode b_MD_init 127 = .ok (.newarray .int, 2) := by decide +kernel
theorem d_MD_init_129 : decode b_MD_init 129 = .ok (.putfield 55, 3) := by decide +kernel
theorem d_MD_init_132 : decode b_MD_init 132 = .ok (.aload_n 0, 1) := by decide +kernel
theorem d_MD_init_133 : decode b_MD_init 133 = .ok (.iconst 4, 1) := by decide +kernel
theorem d_MD_init_134 : decode b_MD_init 134 = .ok (.newarray .int, 2) := by decide +kernel
theorem d_MD_init_136 : decode b_MD_init 136 = .ok (.putfield 58, 3) := by decide +kernel
theorem d_MD_init_139 : decode b_MD_init 139 = .ok (.aload_n 0, 1) := by decide +kernel
theorem d_MD_init_140 : decode b_MD_init 140 = .ok (.iconst 4, 1) := by decide +kernel
theorem d_MD_init_141 : decode b_MD_init 141 = .ok (.newarray .int, 2) := by decide +kernel
theorem d_MD_init_143 : decode b_MD_init 143 = .ok (.putfield 61, 3) := by decide +kernel
theorem d_MD_init_146 : decode b_MD_init 146 = .ok (.aload_n 0, 1) := by decide +kernel
theorem d_MD_init_147 : decode b_MD_init 147 = .ok (.iconst 4, 1) := by decide +kernel
theorem d_MD_init_148 : decode b_MD_init 148 = .ok (.newarray .int, 2) := by decide +kernel
theorem d_MD_init_150 : decode b_MD_init 150 = .ok (.putfield 64, 3) := by decide +kernel
theorem d_MD_init_153 : decode b_MD_init 153 = .ok (.aload_n 0, 1) := by decide +kernel
theorem d_MD_init_154 : decode b_MD_init 154 = .ok (.bipush 6, 2) := by decide +kernel
theorem d_MD_init_156 : decode b_MD_init 156 = .ok (.newarray .int, 2) := by decide +kernel
theorem d_MD_init_158 : decode b_MD_init 158 = .ok (.putfield 67, 3) := by decide +kernel
theorem d_MD_init_161 : decode b_MD_init 161 = .ok (.aload_n 0, 1) := by decide +kernel
theorem d_MD_init_162 : decode b_MD_init 162 = .ok (.bipush 16, 2) := by decide +kernel
theorem d_MD_init_164 : decode b_MD_init 164 = .ok (.newarray .int, 2) := by decide +kernel
theorem d_MD_init_166 : decode b_MD_init 166 = .ok (.putfield 70, 3) := by decide +kernel
theorem d_MD_init_169 : decode b_MD_init 169 = .ok (.aload_n 0, 1) := by decide +kernel
theorem d_MD_init_170 : decode b_MD_init 170 = .ok (.iload_n 1, 1) := by decide +kernel
theorem d_MD_init_171 : decode b_MD_init 171 = .ok (.iconst 4, 1) := by decide +kernel
theorem d_MD_init_172 : decode b_MD_init 172 = .ok (.if_icmp .ge 7, 3) := by decide +kernel
theorem d_MD_init_175 : decode b_MD_init 175 = .ok (.iconst 4, 1) := by decide +kernel
theorem d_MD_init_176 : decode b_MD_init 176 = .ok (.goto 15, 3) := by decide +kernel
theorem d_MD_init_179 : decode b_MD_init 179 = .ok (.iload_n 1, 1) := by decide +kernel
theorem d_MD_init_180 : decode b_MD_init 180 = .ok (.bipush 7, 2) := by decide +kernel
theorem d_MD_init_182 : decode b_MD_init 182 = .ok (.if_icmp .le 8, 3) := by decide +kernel
theorem d_MD_init_185 : decode b_MD_init 185 = .ok (.bipush 7, 2) := by decide +kernel
theorem d_MD_init_187 : decode b_MD_init 187 = .ok (.goto 4, 3) := by decide +kernel
theorem d_MD_init_190 : decode b_MD_init 190 = .ok (.iload_n 1, 1) := by decide +kernel
theorem d_MD_init_191 : decode b_MD_init 191 = .ok (.putfield 73, 3) := by decide +kernel
theorem d_MD_init_194 : decode b_MD_init 194 = .ok (.aload_n 0, 1) := by decide +kernel
theorem d_MD_init_195 : decode b_MD_init 195 = .ok (.getfield 73, 3) := by decide +kernel
theorem d_MD_init_198 : decode b_MD_init 198 = .ok (.iconst 1, 1) := by decide +kernel
theorem d_MD_init_199 : decode b_MD_init 199 = .ok (.isub, 1) := by decide +kernel
theorem d_MD_init_200 : decode b_MD_init 200 = .ok (.iconst 3, 1) := by decide +kernel
theorem d_MD_init_201 : decode b_MD_init 201 = .ok (.idiv, 1) := by decide +kernel
theorem d_MD_init_202 : decode b_MD_init 202 = .ok (.istore 4, 2) := by decide +kernel
theorem d_MD_init_204 : decode b_MD_init 204 = .ok (.aload_n 0, 1) := by decide +kernel
theorem d_MD_init_205 : decode b_MD_init 205 = .ok (.iload_n 2, 1) := by decide +kernel
theorem d_MD_init_206 : decode b_MD_init 206 = .ok (.ifCond .lt 13, 3) := by decide +kernel
theorem d_MD_init_209 : decode b_MD_init 209 = .ok (.iload_n 2, 1) := by decide +kernel
theorem d_MD_init_210 : decode b_MD_init 210 = .ok (.iload 4, 2) := by decide +kernel
theorem d_MD_init_212 : decode b_MD_init 212 = .ok (.if_icmp .gt 7, 3) := by decide +kernel
theorem d_MD_init_215 : decode b_MD_init 215 = .ok (.iload_n 2, 1) := by decide +kernel
theorem d_MD_init_216 : decode b_MD_init 216 = .ok (.goto 5, 3) := by decide +kernel
theorem d_MD_init_219 : decode b_MD_init 219 = .ok (.iload 4, 2) := by decide +kernel
theorem d_MD_init_221 : decode b_MD_init 221 = .ok (.putfield 77, 3) := by decide +kernel
theorem d_MD_init_224 : decode b_MD_init 224 = .ok (.aload_n 0, 1) := by decide +kernel
theorem d_MD_init_225 : decode b_MD_init 225 = .ok (.iload_n 3, 1) := by decide +kernel
theorem d_MD_init_226 : decode b_MD_init 226 = .ok (.iconst 1, 1) := by decide +kernel
theorem d_MD_init_227 : decode b_MD_init 227 = .ok (.if_icmp .ge 7, 3) := by decide +kernel
theorem d_MD_init_230 : decode b_MD_init 230 = .ok (.iconst 1, 1) := by decide +kernel
theorem d_MD_init_231 : decode b_MD_init 231 = .ok (.goto 17, 3) := by decide +kernel
theorem d_MD_init_234 : decode b_MD_init 234 = .ok (.iload_n 3, 1) := by decide +kernel
theorem d_MD_init_235 : decode b_MD_init 235 = .ok (.sipush 200, 3) := by decide +kernel
theorem d_MD_init_238 : decode b_MD_init 238 = .ok (.if_icmp .le 9, 3) := by decide +kernel
theorem d_MD_init_241 : decode b_MD_init 241 = .ok (.sipush 200, 3) := by decide +kernel
theorem d_MD_init_244 : decode b_MD_init 244 = .ok (.goto 4, 3) := by decide +kernel
theorem d_MD_init_247 : decode b_MD_init 247 = .ok (.iload_n 3, 1) := by decide +kernel
theorem d_MD_init_248 : decode b_MD_init 248 = .ok (.putfield 80, 3) := by decide +kernel
theorem d_MD_init_251 : decode b_MD_init 251 = .ok (.iconst 0, 1) := by decide +kernel
theorem d_MD_init_252 : decode b_MD_init 252 = .ok (.istore 5, 2) := by decide +kernel
theorem d_MD_init_254 : decode b_MD_init 254 = .ok (.iload 5, 2) := by decide +kernel
theorem d_MD_init_256 : decode b_MD_init 256 = .ok (.aload_n 0, 1) := by decide +kernel
theorem d_MD_init_257 : decode b_MD_init 257 = .ok (.getfield 73, 3) := by decide +kernel
theorem d_MD_init_260 : decode b_MD_init 260 = .ok (.if_icmp .ge 24, 3) := by decide +kernel
theorem d_MD_init_263 : decode b_MD_init 263 = .ok (.aload_n 0, 1) := by decide +kernel
theorem d_MD_init_264 : decode b_MD_init 264 = .ok (.getfield 25, 3) := by decide +kernel
theorem d_MD_init_267 : decode b_MD_init 267 = .ok (.iload 5, 2) := by decide +kernel
theorem d_MD_init_269 : decode b_MD_init 269 = .ok (.iconst 1, 1) := by decide +kernel
theorem d_MD_init_270 : decode b_MD_init 270 = .ok (.aload_n 0, 1) := by decide +kernel
theorem d_MD_init_271 : decode b_MD_init 271 = .ok (.getfield 73, 3) := by decide +kernel
theorem d_MD_init_274 : decode b_MD_init 274 = .ok (.ishl, 1) := by decide +kernel
theorem d_MD_init_275 : decode b_MD_init 275 = .ok (.iconst 1, 1) := by decide +kernel
theorem d_MD_init_276 : decode b_MD_init 276 = .ok (.isub, 1) := by decide +kernel
theorem d_MD_init_277 : decode b_MD_init 277 = .ok (.iastore, 1) := by decide +kernel
theorem d_MD_init_278 : decode b_MD_init 278 = .ok (.iinc 5 1, 3) := by decide +kernel
theorem d_MD_init_281 : decode b_MD_init 281 = .ok (.goto (-27), 3) := by decide +kernel
theorem d_MD_init_284 : decode b_MD_init 284 = .ok (.return_, 1) := by decide +kernel
theorem d_MD_clock_0 : decode b_MD_clock 0 = .ok (.aload_n 0, 1) := by decide +kernel
theorem d_MD_clock_1 : decode b_MD_clock 1 = .ok (.iload_n 1, 1) := by decide +kernel
theorem d_MD_clock_2 : decode b_MD_clock 2 = .ok (.invokevirtual 83, 3) := by decide +kernel
theorem d_MD_clock_5 : decode b_MD_clock 5 = .ok (.ifCond .eq 28, 3) := by decide +kernel
theorem d_MD_clock_8 : decode b_MD_clock 8 = .ok (.iload_n 2, 1) := by decide +kernel
theorem d_MD_clock_9 : decode b_MD_clock 9 = .ok (.sipush (-500), 3) := by decide +kernel
theorem d_MD_clock_12 : decode b_MD_clock 12 = .ok (.if_icmp .lt 21, 3) := by decide +kernel
theorem d_MD_clock_15 : decode b_MD_clock 15 = .ok (.iload_n 2, 1) := by decide +kernel
theorem d_MD_clock_16 : decode b_MD_clock 16 = .ok (.sipush 500, 3) := by decide +kernel
theorem d_MD_clock_19 : decode b_MD_clock 19 = .ok (.if_icmp .gt 14, 3) := by decide +kernel
theorem d_MD_clock_22 : decode b_MD_clock 22 = .ok (.iload_n 3, 1) := by decide +kernel
theorem d_MD_clock_23 : decode b_MD_clock 23 = .ok (.bipush (-2), 2) := by decide +kernel
theorem d_MD_clock_25 : decode b_MD_clock 25 = .ok (.if_icmp .lt 8, 3) := by decide +kernel
theorem d_MD_clock_28 : decode b_MD_clock 28 = .ok (.iload_n 3, 1) := by decide +kernel
theorem d_MD_clock_29 : decode b_MD_clock 29 = .ok (.iconst 2, 1) := by decide +kernel
theorem d_MD_clock_30 : decode b_MD_clock 30 = .ok (.if_icmp .le 5, 3) := by decide +kernel
theorem d_MD_clock_33 : decode b_MD_clock 33 = .ok (.iconst 0, 1) := by decide +kernel
theorem d_MD_clock_34 : decode b_MD_clock 34 = .ok (.ireturn, 1) := by decide +kernel
theorem d_MD_clock_35 : decode b_MD_clock 35 = .ok (.aload_n 0, 1) := by decide +kernel
theorem d_MD_clock_36 : decode b_MD_clock 36 = .ok (.getfield 7, 3) := by decide +kernel
theorem d_MD_clock_39 : decode b_MD_clock 39 = .ok (.iload_n 1, 1) := by decide +kernel
theorem d_MD_clock_40 : decode b_MD_clock 40 = .ok (.iload_n 2, 1) := by decide +kernel
theorem d_MD_clock_41 : decode b_MD_clock 41 = .ok (.iastore, 1) := by decide +kernel
theorem d_MD_clock_42 : decode b_MD_clock 42 = .ok (.aload_n 0, 1) := by decide +kernel
theorem d_MD_clock_43 : decode b_MD_clock 43 = .ok (.getfield 13, 3) := by decide +kernel
theorem d_MD_clock_46 : decode b_MD_clock 46 = .ok (.iload_n 1, 1) := by decide +kernel
theorem d_MD_clock_47 : decode b_MD_clock 47 = .ok (.iload_n 3, 1) := by decide +kernel
theorem d_MD_clock_48 : decode b_MD_clock 48 = .ok (.iastore, 1) := by decide +kernel
theorem d_MD_clock_49 : decode b_MD_clock 49 = .ok (.iconst 1, 1) := by decide +kernel
theorem d_MD_clock_50 : decode b_MD_clock 50 = .ok (.ireturn, 1) := by decide +kernel
theorem d_MD_node_0 : decode b_MD_node 0 = .ok (.iload_n 1, 1) := by decide +kernel
theorem d_MD_node_1 : decode b_MD_node 1 = .ok (.ifCond .lt 15, 3) := by decide +kernel
theorem d_MD_node_4 : decode b_MD_node 4 = .ok (.iload_n 1, 1) := by decide +kernel
theorem d_MD_node_5 : decode b_MD_node 5 = .ok (.aload_n 0, 1) := by decide +kernel
theorem d_MD_node_6 : decode b_MD_node 6 = .ok (.getfield 73, 3) := by decide +kernel
theorem d_MD_node_9 : decode b_MD_node 9 = .ok (.if_icmp .ge 7, 3) := by decide +kernel
theorem d_MD_node_12 : decode b_MD_node 12 = .ok (.iconst 1, 1) := by decide +kernel
theorem d_MD_node_13 : decode b_MD_node 13 = .ok (.goto 4, 3) := by decide +kernel
theorem d_MD_node_16 : decode b_MD_node 16 = .ok (.iconst 0, 1) := by decide +kernel
theorem d_MD_node_17 : decode b_MD_node 17 = .ok (.ireturn, 1) := by decide +kernel
theorem d_MD_link_0 : decode b_MD_link 0 = .ok (.aload_n 0, 1) := by decide +kernel
theorem d_MD_link_1 : decode b_MD_link 1 = .ok (.iload_n 2, 1) := by decide +kernel
theorem d_MD_link_2 : decode b_MD_link 2 = .ok (.invokevirtual 83, 3) := by decide +kernel
theorem d_MD_link_5 : decode b_MD_link 5 = .ok (.ifCond .eq 39, 3) := by decide +kernel
theorem d_MD_link_8 : decode b_MD_link 8 = .ok (.aload_n 0, 1) := by decide +kernel
theorem d_MD_link_9 : decode b_MD_link 9 = .ok (.iload_n 1, 1) := by decide +kernel
theorem d_MD_link_10 : decode b_MD_link 10 = .ok (.invokevirtual 83, 3) := by decide +kernel
theorem d_MD_link_13 : decode b_MD_link 13 = .ok (.ifCond .eq 31, 3) := by decide +kernel
theorem d_MD_link_16 : decode b_MD_link 16 = .ok (.iload_n 2, 1) := by decide +kernel
theorem d_MD_link_17 : decode b_MD_link 17 = .ok (.iload_n 1, 1) := by decide +kernel
theorem d_MD_link_18 : decode b_MD_link 18 = .ok (.if_icmp .eq 26, 3) := by decide +kernel
theorem d_MD_link_21 : decode b_MD_link 21 = .ok (.iload_n 3, 1) := by decide +kernel
theorem d_MD_link_22 : decode b_MD_link 22 = .ok (.ifCond .lt 22, 3) := by decide +kernel
theorem d_MD_link_25 : decode b_MD_link 25 = .ok (.iload_n 3, 1) := by decide +kernel
theorem d_MD_link_26 : decode b_MD_link 26 = .ok (.bipush 20, 2) := by decide +kernel
theorem d_MD_link_28 : decode b_MD_link 28 = .ok (.if_icmp .gt 16, 3) := by decide +kernel
theorem d_MD_link_31 : decode b_MD_link 31 = .ok (.iload 4, 2) := by decide +kernel
theorem d_MD_link_33 : decode b_MD_link 33 = .ok (.bipush (-3), 2) := by decide +kernel
theorem d_MD_link_35 : decode b_MD_link 35 = .ok (.if_icmp .lt 9, 3) := by decide +kernel
theorem d_MD_link_38 : decode b_MD_link 38 = .ok (.iload 4, 2) := by decide +kernel
theorem d_MD_link_40 : decode b_MD_link 40 = .ok (.iconst 3, 1) := by decide +kernel
theorem d_MD_link_41 : decode b_MD_link 41 = .ok (.if_icmp .le 5, 3) := by decide +kernel
theorem d_MD_link_44 : decode b_MD_link 44 = .ok (.iconst 0, 1) := by decide +kernel
theorem d_MD_link_45 : decode b_MD_link 45 = .ok (.ireturn, 1) := by decide +kernel
theorem d_MD_link_46 : decode b_MD_link 46 = .ok (.aload_n 0, 1) := by decide +kernel
theorem d_MD_link_47 : decode b_MD_link 47 = .ok (.getfield 46, 3) := by decide +kernel
theorem d_MD_link_50 : decode b_MD_link 50 = .ok (.bipush 7, 2) := by decide +kernel
theorem d_MD_link_52 : decode b_MD_link 52 = .ok (.iload_n 1, 1) := by decide +kernel
theorem d_MD_link_53 : decode b_MD_link 53 = .ok (.imul, 1) := by decide +kernel
theorem d_MD_link_54 : decode b_MD_link 54 = .ok (.iload_n 2, 1) := by decide +kernel
theorem d_MD_link_55 : decode b_MD_link 55 = .ok (.iadd, 1) := by decide +kernel
theorem d_MD_link_56 : decode b_MD_link 56 = .ok (.iload_n 3, 1) := by decide +kernel
theorem d_MD_link_57 : decode b_MD_link 57 = .ok (.iastore, 1) := by decide +kernel
theorem d_MD_link_58 : decode b_MD_link 58 = .ok (.aload_n 0, 1) := by decide +kernel
theorem d_MD_link_59 : decode b_MD_link 59 = .ok (.getfield 49, 3) := by decide +kernel
theorem d_MD_link_62 : decode b_MD_link 62 = .ok (.bipush 7, 2) := by decide +kernel
theorem d_MD_link_64 : decode b_MD_link 64 = .ok (.iload_n 1, 1) := by decide +kernel
theorem d_MD_link_65 : decode b_MD_link 65 = .ok (.imul, 1) := by decide +kernel
theorem d_MD_link_66 : decode b_MD_link 66 = .ok (.iload_n 2, 1) := by decide +kernel
theorem d_MD_link_67 : decode b_MD_link 67 = .ok (.iadd, 1) := by decide +kernel
theorem d_MD_link_68 : decode b_MD_link 68 = .ok (.iload 4, 2) := by decide +kernel
theorem d_MD_link_70 : decode b_MD_link 70 = .ok (.iastore, 1) := by decide +kernel
theorem d_MD_link_71 : decode b_MD_link 71 = .ok (.iconst 1, 1) := by decide +kernel
theorem d_MD_link_72 : decode b_MD_link 72 = .ok (.ireturn, 1) := by decide +kernel
theorem d_MD_sensor_0 : decode b_MD_sensor 0 = .ok (.aload_n 0, 1) := by decide +kernel
theorem d_MD_sensor_1 : decode b_MD_sensor 1 = .ok (.iload_n 1, 1) := by decide +kernel
theorem d_MD_sensor_2 : decode b_MD_sensor 2 = .ok (.invokevirtual 83, 3) := by decide +kernel
theorem d_MD_sensor_5 : decode b_MD_sensor 5 = .ok (.ifCond .ne 5, 3) := by decide +kernel
theorem d_MD_sensor_8 : decode b_MD_sensor 8 = .ok (.iconst 0, 1) := by decide +kernel
theorem d_MD_sensor_9 : decode b_MD_sensor 9 = .ok (.ireturn, 1) := by decide +kernel
theorem d_MD_sensor_10 : decode b_MD_sensor 10 = .ok (.aload_n 0, 1) := by decide +kernel
theorem d_MD_sensor_11 : decode b_MD_sensor 11 = .ok (.getfield 16, 3) := by decide +kernel
theorem d_MD_sensor_14 : decode b_MD_sensor 14 = .ok (.iload_n 1, 1) := by decide +kernel
theorem d_MD_sensor_15 : decode b_MD_sensor 15 = .ok (.iload_n 2, 1) := by decide +kernel
theorem d_MD_sensor_16 : decode b_MD_sensor 16 = .ok (.iastore, 1) := by decide +kernel
theorem d_MD_sensor_17 : decode b_MD_sensor 17 = .ok (.iconst 1, 1) := by decide +kernel
theorem d_MD_sensor_18 : decode b_MD_sensor 18 = .ok (.ireturn, 1) := by decide +kernel
theorem d_MD_fault_0 : decode b_MD_fault 0 = .ok (.aload_n 0, 1) := by decide +kernel
theorem d_MD_fault_1 : decode b_MD_fault 1 = .ok (.iload_n 1, 1) := by decide +kernel
theorem d_MD_fault_2 : decode b_MD_fault 2 = .ok (.invokevirtual 83, 3) := by decide +kernel
theorem d_MD_fault_5 : decode b_MD_fault 5 = .ok (.ifCond .eq 26, 3) := by decide +kernel
theorem d_MD_fault_8 : decode b_MD_fault 8 = .ok (.iload_n 2, 1) := by decide +kernel
theorem d_MD_fault_9 : decode b_MD_fault 9 = .ok (.ifCond .lt 22, 3) := by decide +kernel
theorem d_MD_fault_12 : decode b_MD_fault 12 = .ok (.iload_n 2, 1) := by decide +kernel
theorem d_MD_fault_13 : decode b_MD_fault 13 = .ok (.iconst 5, 1) := by decide +kernel
theorem d_MD_fault_14 : decode b_MD_fault 14 = .ok (.if_icmp .gt 17, 3) := by decide +kernel
theorem d_MD_fault_17 : decode b_MD_fault 17 = .ok (.iload_n 3, 1) := by decide +kernel
theorem d_MD_fault_18 : decode b_MD_fault 18 = .ok (.sipush (-5000), 3) := by decide +kernel
theorem d_MD_fault_21 : decode b_MD_fault 21 = .ok (.if_icmp .lt 10, 3) := by decide +kernel
theorem d_MD_fault_24 : decode b_MD_fault 24 = .ok (.iload_n 3, 1) := by decide +kernel
theorem d_MD_fault_25 : decode b_MD_fault 25 = .ok (.sipush 5000, 3) := by decide +kernel
theorem d_MD_fault_28 : decode b_MD_fault 28 = .ok (.if_icmp .le 5, 3) := by decide +kernel
theorem d_MD_fault_31 : decode b_MD_fault 31 = .ok (.iconst 0, 1) := by decide +kernel
theorem d_MD_fault_32 : decode b_MD_fault 32 = .ok (.ireturn, 1) := by decide +kernel
theorem d_MD_fault_33 : decode b_MD_fault 33 = .ok (.aload_n 0, 1) := by decide +kernel
theorem d_MD_fault_34 : decode b_MD_fault 34 = .ok (.getfield 19, 3) := by decide +kernel
theorem d_MD_fault_37 : decode b_MD_fault 37 = .ok (.iload_n 1, 1) := by decide +kernel
theorem d_MD_fault_38 : decode b_MD_fault 38 = .ok (.iload_n 2, 1) := by decide +kernel
theorem d_MD_fault_39 : decode b_MD_fault 39 = .ok (.iastore, 1) := by decide +kernel
theorem d_MD_fault_40 : decode b_MD_fault 40 = .ok (.aload_n 0, 1) := by decide +kernel
theorem d_MD_fault_41 : decode b_MD_fault 41 = .ok (.getfield 22, 3) := by decide +kernel
theorem d_MD_fault_44 : decode b_MD_fault 44 = .ok (.iload_n 1, 1) := by decide +kernel
theorem d_MD_fault_45 : decode b_MD_fault 45 = .ok (.iload_n 3, 1) := by decide +kernel
theorem d_MD_fault_46 : decode b_MD_fault 46 = .ok (.iastore, 1) := by decide +kernel
theorem d_MD_fault_47 : decode b_MD_fault 47 = .ok (.iconst 1, 1) := by decide +kernel
theorem d_MD_fault_48 : decode b_MD_fault 48 = .ok (.ireturn, 1) := by decide +kernel
theorem d_MD_code_0 : decode b_MD_code 0 = .ok (.iload_n 1, 1) := by decide +kernel
theorem d_MD_code_1 : decode b_MD_code 1 = .ok (.invokestatic 87, 3) := by decide +kernel
theorem d_MD_code_4 : decode b_MD_code 4 = .ok (.ifCond .eq 24, 3) := by decide +kernel
theorem d_MD_code_7 : decode b_MD_code 7 = .ok (.iload_n 2, 1) := by decide +kernel
theorem d_MD_code_8 : decode b_MD_code 8 = .ok (.ifCond .lt 20, 3) := by decide +kernel
theorem d_MD_code_11 : decode b_MD_code 11 = .ok (.iload_n 2, 1) := by decide +kernel
theorem d_MD_code_12 : decode b_MD_code 12 = .ok (.bipush 9, 2) := by decide +kernel
theorem d_MD_code_14 : decode b_MD_code 14 = .ok (.if_icmp .gt 14, 3) := by decide +kernel
theorem d_MD_code_17 : decode b_MD_code 17 = .ok (.aload_n 0, 1) := by decide +kernel
theorem d_MD_code_18 : decode b_MD_code 18 = .ok (.getfield 58, 3) := by decide +kernel
theorem d_MD_code_21 : decode b_MD_code 21 = .ok (.iload_n 1, 1) := by decide +kernel
theorem d_MD_code_22 : decode b_MD_code 22 = .ok (.iaload, 1) := by decide +kernel
theorem d_MD_code_23 : decode b_MD_code 23 = .ok (.bipush 12, 2) := by decide +kernel
theorem d_MD_code_25 : decode b_MD_code 25 = .ok (.if_icmp .lt 5, 3) := by decide +kernel
theorem d_MD_code_28 : decode b_MD_code 28 = .ok (.iconst 0, 1) := by decide +kernel
theorem d_MD_code_29 : decode b_MD_code 29 = .ok (.ireturn, 1) := by decide +kernel
theorem d_MD_code_30 : decode b_MD_code 30 = .ok (.iload_n 2, 1) := by decide +kernel
theorem d_MD_code_31 : decode b_MD_code 31 = .ok (.iconst 1, 1) := by decide +kernel
theorem d_MD_code_32 : decode b_MD_code 32 = .ok (.if_icmp .ne 11, 3) := by decide +kernel
theorem d_MD_code_35 : decode b_MD_code 35 = .ok (.aload_n 0, 1) := by decide +kernel
theorem d_MD_code_36 : decode b_MD_code 36 = .ok (.iload_n 3, 1) := by decide +kernel
theorem d_MD_code_37 : decode b_MD_code 37 = .ok (.invokevirtual 83, 3) := by decide +kernel
theorem d_MD_code_40 : decode b_MD_code 40 = .ok (.ifCond .eq 31, 3) := by decide +kernel
theorem d_MD_code_43 : decode b_MD_code 43 = .ok (.iload_n 2, 1) := by decide +kernel
theorem d_MD_code_44 : decode b_MD_code 44 = .ok (.iconst 2, 1) := by decide +kernel
theorem d_MD_code_45 : decode b_MD_code 45 = .ok (.if_icmp .ne 10, 3) := by decide +kernel
theorem d_MD_code_48 : decode b_MD_code 48 = .ok (.iload_n 3, 1) := by decide +kernel
theorem d_MD_code_49 : decode b_MD_code 49 = .ok (.invokestatic 87, 3) := by decide +kernel
theorem d_MD_code_52 : decode b_MD_code 52 = .ok (.ifCond .eq 19, 3) := by decide +kernel
theorem d_MD_code_55 : decode b_MD_code 55 = .ok (.iload_n 2, 1) := by decide +kernel
theorem d_MD_code_56 : decode b_MD_code 56 = .ok (.bipush 8, 2) := by decide +kernel
theorem d_MD_code_58 : decode b_MD_code 58 = .ok (.if_icmp .ne 15, 3) := by decide +kernel
theorem d_MD_code_61 : decode b_MD_code 61 = .ok (.iload_n 3, 1) := by decide +kernel
theorem d_MD_code_62 : decode b_MD_code 62 = .ok (.ifCond .lt 9, 3) := by decide +kernel
theorem d_MD_code_65 : decode b_MD_code 65 = .ok (.iload_n 3, 1) := by decide +kernel
theorem d_MD_code_66 : decode b_MD_code 66 = .ok (.bipush 11, 2) := by decide +kernel
theorem d_MD_code_68 : decode b_MD_code 68 = .ok (.if_icmp .le 5, 3) := by decide +kernel
theorem d_MD_code_71 : decode b_MD_code 71 = .ok (.iconst 0, 1) := by decide +kernel
theorem d_MD_code_72 : decode b_MD_code 72 = .ok (.ireturn, 1) := by decide +kernel
theorem d_MD_code_73 : decode b_MD_code 73 = .ok (.aload_n 0, 1) := by decide +kernel
theorem d_MD_code_74 : decode b_MD_code 74 = .ok (.getfield 52, 3) := by decide +kernel
theorem d_MD_code_77 : decode b_MD_code 77 = .ok (.bipush 12, 2) := by decide +kernel
theorem d_MD_code_79 : decode b_MD_code 79 = .ok (.iload_n 1, 1) := by decide +kernel
theorem d_MD_code_80 : decode b_MD_code 80 = .ok (.imul, 1) := by decide +kernel
theorem d_MD_code_81 : decode b_MD_code 81 = .ok (.aload_n 0, 1) := by decide +kernel
theorem d_MD_code_82 : decode b_MD_code 82 = .ok (.getfield 58, 3) := by decide +kernel
theorem d_MD_code_85 : decode b_MD_code 85 = .ok (.iload_n 1, 1) := by decide +kernel
theorem d_MD_code_86 : decode b_MD_code 86 = .ok (.iaload, 1) := by decide +kernel
theorem d_MD_code_87 : decode b_MD_code 87 = .ok (.iadd, 1) := by decide +kernel
theorem d_MD_code_88 : decode b_MD_code 88 = .ok (.iload_n 2, 1) := by decide +kernel
theorem d_MD_code_89 : decode b_MD_code 89 = .ok (.iastore, 1) := by decide +kernel
theorem d_MD_code_90 : decode b_MD_code 90 = .ok (.aload_n 0, 1) := by decide +kernel
theorem d_MD_code_91 : decode b_MD_code 91 = .ok (.getfield 55, 3) := by decide +kernel
theorem d_MD_code_94 : decode b_MD_code 94 = .ok (.bipush 12, 2) := by decide +kernel
theorem d_MD_code_96 : decode b_MD_code 96 = .ok (.iload_n 1, 1) := by decide +kernel
theorem d_MD_code_97 : decode b_MD_code 97 = .ok (.imul, 1) := by decide +kernel
theorem d_MD_code_98 : decode b_MD_code 98 = .ok (.aload_n 0, 1) := by decide +kernel
theorem d_MD_code_99 : decode b_MD_code 99 = .ok (.getfield 58, 3) := by decide +kernel
theorem d_MD_code_102 : decode b_MD_code 102 = .ok (.iload_n 1, 1) := by decide +kernel
theorem d_MD_code_103 : decode b_MD_code 103 = .ok (.iaload, 1) := by decide +kernel
theorem d_MD_code_104 : decode b_MD_code 104 = .ok (.iadd, 1) := by decide +kernel
theorem d_MD_code_105 : decode b_MD_code 105 = .ok (.iload_n 3, 1) := by decide +kernel
theorem d_MD_code_106 : decode b_MD_code 106 = .ok (.iastore, 1) := by decide +kernel
theorem d_MD_code_107 : decode b_MD_code 107 = .ok (.aload_n 0, 1) := by decide +kernel
theorem d_MD_code_108 : decode b_MD_code 108 = .ok (.getfield 58, 3) := by decide +kernel
theorem d_MD_code_111 : decode b_MD_code 111 = .ok (.iload_n 1, 1) := by decide +kernel
theorem d_MD_code_112 : decode b_MD_code 112 = .ok (.dup2, 1) := by decide +kernel
theorem d_MD_code_113 : decode b_MD_code 113 = .ok (.iaload, 1) := by decide +kernel
theorem d_MD_code_114 : decode b_MD_code 114 = .ok (.iconst 1, 1) := by decide +kernel
theorem d_MD_code_115 : decode b_MD_code 115 = .ok (.iadd, 1) := by decide +kernel
theorem d_MD_code_116 : decode b_MD_code 116 = .ok (.iastore, 1) := by decide +kernel
theorem d_MD_code_117 : decode b_MD_code 117 = .ok (.iconst 1, 1) := by decide +kernel
theorem d_MD_code_118 : decode b_MD_code 118 = .ok (.ireturn, 1) := by decide +kernel
theorem d_MD_task_0 : decode b_MD_task 0 = .ok (.iload_n 0, 1) := by decide +kernel
theorem d_MD_task_1 : decode b_MD_task 1 = .ok (.ifCond .lt 12, 3) := by decide +kernel
theorem d_MD_task_4 : decode b_MD_task 4 = .ok (.iload_n 0, 1) := by decide +kernel
theorem d_MD_task_5 : decode b_MD_task 5 = .ok (.iconst 3, 1) := by decide +kernel
theorem d_MD_task_6 : decode b_MD_task 6 = .ok (.if_icmp .gt 7, 3) := by decide +kernel
theorem d_MD_task_9 : decode b_MD_task 9 = .ok (.iconst 1, 1) := by decide +kernel
theorem d_MD_task_10 : decode b_MD_task 10 = .ok (.goto 4, 3) := by decide +kernel
theorem d_MD_task_13 : decode b_MD_task 13 = .ok (.iconst 0, 1) := by decide +kernel
theorem d_MD_task_14 : decode b_MD_task 14 = .ok (.ireturn, 1) := by decide +kernel
theorem d_MD_clear_0 : decode b_MD_clear 0 = .ok (.iload_n 1, 1) := by decide +kernel
theorem d_MD_clear_1 : decode b_MD_clear 1 = .ok (.invokestatic 87, 3) := by decide +kernel
theorem d_MD_clear_4 : decode b_MD_clear 4 = .ok (.ifCond .ne 5, 3) := by decide +kernel
theorem d_MD_clear_7 : decode b_MD_clear 7 = .ok (.iconst (-1), 1) := by decide +kernel
theorem d_MD_clear_8 : decode b_MD_clear 8 = .ok (.ireturn, 1) := by decide +kernel
theorem d_MD_clear_9 : decode b_MD_clear 9 = .ok (.aload_n 0, 1) := by decide +kernel
theorem d_MD_clear_10 : decode b_MD_clear 10 = .ok (.getfield 58, 3) := by decide +kernel
theorem d_MD_clear_13 : decode b_MD_clear 13 = .ok (.iload_n 1, 1) := by decide +kernel
theorem d_MD_clear_14 : decode b_MD_clear 14 = .ok (.iaload, 1) := by decide +kernel
theorem d_MD_clear_15 : decode b_MD_clear 15 = .ok (.istore_n 2, 1) := by decide +kernel
theorem d_MD_clear_16 : decode b_MD_clear 16 = .ok (.aload_n 0, 1) := by decide +kernel
theorem d_MD_clear_17 : decode b_MD_clear 17 = .ok (.getfield 58, 3) := by decide +kernel
theorem d_MD_clear_20 : decode b_MD_clear 20 = .ok (.iload_n 1, 1) := by decide +kernel
theorem d_MD_clear_21 : decode b_MD_clear 21 = .ok (.iconst 0, 1) := by decide +kernel
theorem d_MD_clear_22 : decode b_MD_clear 22 = .ok (.iastore, 1) := by decide +kernel
theorem d_MD_clear_23 : decode b_MD_clear 23 = .ok (.aload_n 0, 1) := by decide +kernel
theorem d_MD_clear_24 : decode b_MD_clear 24 = .ok (.getfield 61, 3) := by decide +kernel
theorem d_MD_clear_27 : decode b_MD_clear 27 = .ok (.iload_n 1, 1) := by decide +kernel
theorem d_MD_clear_28 : decode b_MD_clear 28 = .ok (.iconst 0, 1) := by decide +kernel
theorem d_MD_clear_29 : decode b_MD_clear 29 = .ok (.iastore, 1) := by decide +kernel
theorem d_MD_clear_30 : decode b_MD_clear 30 = .ok (.iload_n 2, 1) := by decide +kernel
theorem d_MD_clear_31 : decode b_MD_clear 31 = .ok (.ireturn, 1) := by decide +kernel
theorem d_MD_due_0 : decode b_MD_due 0 = .ok (.iload_n 1, 1) := by decide +kernel
theorem d_MD_due_1 : decode b_MD_due 1 = .ok (.invokestatic 87, 3) := by decide +kernel
theorem d_MD_due_4 : decode b_MD_due 4 = .ok (.ifCond .eq 23, 3) := by decide +kernel
theorem d_MD_due_7 : decode b_MD_due 7 = .ok (.iload_n 2, 1) := by decide +kernel
theorem d_MD_due_8 : decode b_MD_due 8 = .ok (.iconst 1, 1) := by decide +kernel
theorem d_MD_due_9 : decode b_MD_due 9 = .ok (.if_icmp .lt 18, 3) := by decide +kernel
theorem d_MD_due_12 : decode b_MD_due 12 = .ok (.iload_n 2, 1) := by decide +kernel
theorem d_MD_due_13 : decode b_MD_due 13 = .ok (.bipush 8, 2) := by decide +kernel
theorem d_MD_due_15 : decode b_MD_due 15 = .ok (.if_icmp .gt 12, 3) := by decide +kernel
theorem d_MD_due_18 : decode b_MD_due 18 = .ok (.iload_n 3, 1) := by decide +kernel
theorem d_MD_due_19 : decode b_MD_due 19 = .ok (.ifCond .lt 8, 3) := by decide +kernel
theorem d_MD_due_22 : decode b_MD_due 22 = .ok (.iload_n 3, 1) := by decide +kernel
theorem d_MD_due_23 : decode b_MD_due 23 = .ok (.iload_n 2, 1) := by decide +kernel
theorem d_MD_due_24 : decode b_MD_due 24 = .ok (.if_icmp .lt 5, 3) := by decide +kernel
theorem d_MD_due_27 : decode b_MD_due 27 = .ok (.iconst 0, 1) := by decide +kernel
theorem d_MD_due_28 : decode b_MD_due 28 = .ok (.ireturn, 1) := by decide +kernel
theorem d_MD_due_29 : decode b_MD_due 29 = .ok (.aload_n 0, 1) := by decide +kernel
theorem d_MD_due_30 : decode b_MD_due 30 = .ok (.getfield 61, 3) := by decide +kernel
theorem d_MD_due_33 : decode b_MD_due 33 = .ok (.iload_n 1, 1) := by decide +kernel
theorem d_MD_due_34 : decode b_MD_due 34 = .ok (.iload_n 2, 1) := by decide +kernel
theorem d_MD_due_35 : decode b_MD_due 35 = .ok (.iastore, 1) := by decide +kernel
theorem d_MD_due_36 : decode b_MD_due 36 = .ok (.aload_n 0, 1) := by decide +kernel
theorem d_MD_due_37 : decode b_MD_due 37 = .ok (.getfield 64, 3) := by decide +kernel
theorem d_MD_due_40 : decode b_MD_due 40 = .ok (.iload_n 1, 1) := by decide +kernel
theorem d_MD_due_41 : decode b_MD_due 41 = .ok (.iload_n 3, 1) := by decide +kernel
theorem d_MD_due_42 : decode b_MD_due 42 = .ok (.iastore, 1) := by decide +kernel
theorem d_MD_due_43 : decode b_MD_due 43 = .ok (.iconst 1, 1) := by decide +kernel
theorem d_MD_due_44 : decode b_MD_due 44 = .ok (.ireturn, 1) := by decide +kernel
theorem d_MD_run_0 : decode b_MD_run 0 = .ok (.iload_n 1, 1) := by decide +kernel
theorem d_MD_run_1 : decode b_MD_run 1 = .ok (.iconst 1, 1) := by decide +kernel
theorem d_MD_run_2 : decode b_MD_run 2 = .ok (.if_icmp .lt 8, 3) := by decide +kernel
theorem d_MD_run_5 : decode b_MD_run 5 = .ok (.iload_n 1, 1) := by decide +kernel
theorem d_MD_run_6 : decode b_MD_run 6 = .ok (.iconst 4, 1) := by decide +kernel
theorem d_MD_run_7 : decode b_MD_run 7 = .ok (.if_icmp .le 5, 3) := by decide +kernel
theorem d_MD_run_10 : decode b_MD_run 10 = .ok (.iconst (-1), 1) := by decide +kernel
theorem d_MD_run_11 : decode b_MD_run 11 = .ok (.ireturn, 1) := by decide +kernel
theorem d_MD_run_12 : decode b_MD_run 12 = .ok (.aload_n 0, 1) := by decide +kernel
theorem d_MD_run_13 : decode b_MD_run 13 = .ok (.iconst 0, 1) := by decide +kernel
theorem d_MD_run_14 : decode b_MD_run 14 = .ok (.putfield 155, 3) := by decide +kernel
theorem d_MD_run_17 : decode b_MD_run 17 = .ok (.iconst 0, 1) := by decide +kernel
theorem d_MD_run_18 : decode b_MD_run 18 = .ok (.istore_n 2, 1) := by decide +kernel
theorem d_MD_run_19 : decode b_MD_run 19 = .ok (.iload_n 2, 1) := by decide +kernel
theorem d_MD_run_20 : decode b_MD_run 20 = .ok (.iload_n 1, 1) := by decide +kernel
theorem d_MD_run_21 : decode b_MD_run 21 = .ok (.if_icmp .ge 13, 3) := by decide +kernel
theorem d_MD_run_24 : decode b_MD_run 24 = .ok (.aload_n 0, 1) := by decide +kernel
theorem d_MD_run_25 : decode b_MD_run 25 = .ok (.invokevirtual 173, 3) := by decide +kernel
theorem d_MD_run_28 : decode b_MD_run 28 = .ok (.iinc 2 1, 3) := by decide +kernel
theorem d_MD_run_31 : decode b_MD_run 31 = .ok (.goto (-12), 3) := by decide +kernel
theorem d_MD_run_34 : decode b_MD_run 34 = .ok (.aload_n 0, 1) := by decide +kernel
theorem d_MD_run_35 : decode b_MD_run 35 = .ok (.getfield 155, 3) := by decide +kernel
theorem d_MD_run_38 : decode b_MD_run 38 = .ok (.ireturn, 1) := by decide +kernel
theorem d_MD_one_0 : decode b_MD_one 0 = .ok (.iconst 0, 1) := by decide +kernel
theorem d_MD_one_1 : decode b_MD_one 1 = .ok (.istore_n 1, 1) := by decide +kernel
theorem d_MD_one_2 : decode b_MD_one 2 = .ok (.iload_n 1, 1) := by decide +kernel
theorem d_MD_one_3 : decode b_MD_one 3 = .ok (.aload_n 0, 1) := by decide +kernel
theorem d_MD_one_4 : decode b_MD_one 4 = .ok (.getfield 73, 3) := by decide +kernel
theorem d_MD_one_7 : decode b_MD_one 7 = .ok (.if_icmp .ge 55, 3) := by decide +kernel
theorem d_MD_one_10 : decode b_MD_one 10 = .ok (.aload_n 0, 1) := by decide +kernel
theorem d_MD_one_11 : decode b_MD_one 11 = .ok (.getfield 28, 3) := by decide +kernel
theorem d_MD_one_14 : decode b_MD_one 14 = .ok (.iload_n 1, 1) := by decide +kernel
theorem d_MD_one_15 : decode b_MD_one 15 = .ok (.iconst 0, 1) := by decide +kernel
theorem d_MD_one_16 : decode b_MD_one 16 = .ok (.iastore, 1) := by decide +kernel
theorem d_MD_one_17 : decode b_MD_one 17 = .ok (.iconst 0, 1) := by decide +kernel
theorem d_MD_one_18 : decode b_MD_one 18 = .ok (.istore_n 2, 1) := by decide +kernel
theorem d_MD_one_19 : decode b_MD_one 19 = .ok (.iload_n 2, 1) := by decide +kernel
theorem d_MD_one_20 : decode b_MD_one 20 = .ok (.aload_n 0, 1) := by decide +kernel
theorem d_MD_one_21 : decode b_MD_one 21 = .ok (.getfield 73, 3) := by decide +kernel
theorem d_MD_one_24 : decode b_MD_one 24 = .ok (.if_icmp .ge 32, 3) := by decide +kernel
theorem d_MD_one_27 : decode b_MD_one 27 = .ok (.aload_n 0, 1) := by decide +kernel
theorem d_MD_one_28 : decode b_MD_one 28 = .ok (.getfield 40, 3) := by decide +kernel
theorem d_MD_one_31 : decode b_MD_one 31 = .ok (.bipush 7, 2) := by decide +kernel
theorem d_MD_one_33 : decode b_MD_one 33 = .ok (.iload_n 1, 1) := by decide +kernel
theorem d_MD_one_34 : decode b_MD_one 34 = .ok (.imul, 1) := by decide +kernel
theorem d_MD_one_35 : decode b_MD_one 35 = .ok (.iload_n 2, 1) := by decide +kernel
theorem d_MD_one_36 : decode b_MD_one 36 = .ok (.iadd, 1) := by decide +kernel
theorem d_MD_one_37 : decode b_MD_one 37 = .ok (.aload_n 0, 1) := by decide +kernel
theorem d_MD_one_38 : decode b_MD_one 38 = .ok (.iload_n 1, 1) := by decide +kernel
theorem d_MD_one_39 : decode b_MD_one 39 = .ok (.iload_n 2, 1) := by decide +kernel
theorem d_MD_one_40 : decode b_MD_one 40 = .ok (.aload_n 0, 1) := by decide +kernel
theorem d_MD_one_41 : decode b_MD_one 41 = .ok (.getfield 16, 3) := by decide +kernel
theorem d_MD_one_44 : decode b_MD_one 44 = .ok (.iload_n 2, 1) := by decide +kernel
theorem d_MD_one_45 : decode b_MD_one 45 = .ok (.iaload, 1) := by decide +kernel
theorem d_MD_one_46 : decode b_MD_one 46 = .ok (.invokevirtual 161, 3) := by decide +kernel
theorem d_MD_one_49 : decode b_MD_one 49 = .ok (.iastore, 1) := by decide +kernel
theorem d_MD_one_50 : decode b_MD_one 50 = .ok (.iinc 2 1, 3) := by decide +kernel
theorem d_MD_one_53 : decode b_MD_one 53 = .ok (.goto (-34), 3) := by decide +kernel
theorem d_MD_one_56 : decode b_MD_one 56 = .ok (.iinc 1 1, 3) := by decide +kernel
theorem d_MD_one_59 : decode b_MD_one 59 = .ok (.goto (-57), 3) := by decide +kernel
theorem d_MD_one_62 : decode b_MD_one 62 = .ok (.aload_n 0, 1) := by decide +kernel
theorem d_MD_one_63 : decode b_MD_one 63 = .ok (.invokevirtual 164, 3) := by decide +kernel
theorem d_MD_one_66 : decode b_MD_one 66 = .ok (.iconst 0, 1) := by decide +kernel
theorem d_MD_one_67 : decode b_MD_one 67 = .ok (.istore_n 1, 1) := by decide +kernel
theorem d_MD_one_68 : decode b_MD_one 68 = .ok (.iload_n 1, 1) := by decide +kernel
theorem d_MD_one_69 : decode b_MD_one 69 = .ok (.aload_n 0, 1) := by decide +kernel
theorem d_MD_one_70 : decode b_MD_one 70 = .ok (.getfield 73, 3) := by decide +kernel
theorem d_MD_one_73 : decode b_MD_one 73 = .ok (.if_icmp .ge 57, 3) := by decide +kernel
theorem d_MD_one_76 : decode b_MD_one 76 = .ok (.iconst 0, 1) := by decide +kernel
theorem d_MD_one_77 : decode b_MD_one 77 = .ok (.istore_n 2, 1) := by decide +kernel
theorem d_MD_one_78 : decode b_MD_one 78 = .ok (.iload_n 2, 1) := by decide +kernel
theorem d_MD_one_79 : decode b_MD_one 79 = .ok (.aload_n 0, 1) := by decide +kernel
theorem d_MD_one_80 : decode b_MD_one 80 = .ok (.getfield 73, 3) := by decide +kernel
theorem d_MD_one_83 : decode b_MD_one 83 = .ok (.if_icmp .ge 41, 3) := by decide +kernel
theorem d_MD_one_86 : decode b_MD_one 86 = .ok (.aload_n 0, 1) := by decide +kernel
theorem d_MD_one_87 : decode b_MD_one 87 = .ok (.getfield 43, 3) := by decide +kernel
theorem d_MD_one_90 : decode b_MD_one 90 = .ok (.bipush 7, 2) := by decide +kernel
theorem d_MD_one_92 : decode b_MD_one 92 = .ok (.iload_n 1, 1) := by decide +kernel
theorem d_MD_one_93 : decode b_MD_one 93 = .ok (.imul, 1) := by decide +kernel
theorem d_MD_one_94 : decode b_MD_one 94 = .ok (.iload_n 2, 1) := by decide +kernel
theorem d_MD_one_95 : decode b_MD_one 95 = .ok (.iadd, 1) := by decide +kernel
theorem d_MD_one_96 : decode b_MD_one 96 = .ok (.aload_n 0, 1) := by decide +kernel
theorem d_MD_one_97 : decode b_MD_one 97 = .ok (.iload_n 1, 1) := by decide +kernel
theorem d_MD_one_98 : decode b_MD_one 98 = .ok (.iload_n 2, 1) := by decide +kernel
theorem d_MD_one_99 : decode b_MD_one 99 = .ok (.aload_n 0, 1) := by decide +kernel
theorem d_MD_one_100 : decode b_MD_one 100 = .ok (.getfield 28, 3) := by decide +kernel
theorem d_MD_one_103 : decode b_MD_one 103 = .ok (.iload_n 2, 1) := by decide +kernel
theorem d_MD_one_104 : decode b_MD_one 104 = .ok (.iaload, 1) := by decide +kernel
theorem d_MD_one_105 : decode b_MD_one 105 = .ok (.invokevirtual 161, 3) := by decide +kernel
theorem d_MD_one_108 : decode b_MD_one 108 = .ok (.iconst 1, 1) := by decide +kernel
theorem d_MD_one_109 : decode b_MD_one 109 = .ok (.aload_n 0, 1) := by decide +kernel
theorem d_MD_one_110 : decode b_MD_one 110 = .ok (.getfield 73, 3) := by decide +kernel
theorem d_MD_one_113 : decode b_MD_one 113 = .ok (.ishl, 1) := by decide +kernel
theorem d_MD_one_114 : decode b_MD_one 114 = .ok (.iconst 1, 1) := by decide +kernel
theorem d_MD_one_115 : decode b_MD_one 115 = .ok (.isub, 1) := by decide +kernel
theorem d_MD_one_116 : decode b_MD_one 116 = .ok (.iand, 1) := by decide +kernel
theorem d_MD_one_117 : decode b_MD_one 117 = .ok (.iastore, 1) := by decide +kernel
theorem d_MD_one_118 : decode b_MD_one 118 = .ok (.iinc 2 1, 3) := by decide +kernel
theorem d_MD_one_121 : decode b_MD_one 121 = .ok (.goto (-43), 3) := by decide +kernel
theorem d_MD_one_124 : decode b_MD_one 124 = .ok (.iinc 1 1, 3) := by decide +kernel
theorem d_MD_one_127 : decode b_MD_one 127 = .ok (.goto (-59), 3) := by decide +kernel
theorem d_MD_one_130 : decode b_MD_one 130 = .ok (.iconst 0, 1) := by decide +kernel
theorem d_MD_one_131 : decode b_MD_one 131 = .ok (.istore_n 1, 1) := by decide +kernel
theorem d_MD_one_132 : decode b_MD_one 132 = .ok (.iload_n 1, 1) := by decide +kernel
theorem d_MD_one_133 : decode b_MD_one 133 = .ok (.aload_n 0, 1) := by decide +kernel
theorem d_MD_one_134 : decode b_MD_one 134 = .ok (.getfield 73, 3) := by decide +kernel
theorem d_MD_one_137 : decode b_MD_one 137 = .ok (.if_icmp .ge 14, 3) := by decide +kernel
theorem d_MD_one_140 : decode b_MD_one 140 = .ok (.aload_n 0, 1) := by decide +kernel
theorem d_MD_one_141 : decode b_MD_one 141 = .ok (.iload_n 1, 1) := by decide +kernel
theorem d_MD_one_142 : decode b_MD_one 142 = .ok (.invokevirtual 167, 3) := by decide +kernel
theorem d_MD_one_145 : decode b_MD_one 145 = .ok (.iinc 1 1, 3) := by decide +kernel
theorem d_MD_one_148 : decode b_MD_one 148 = .ok (.goto (-16), 3) := by decide +kernel
theorem d_MD_one_151 : decode b_MD_one 151 = .ok (.iconst 0, 1) := by decide +kernel
theorem d_MD_one_152 : decode b_MD_one 152 = .ok (.istore_n 1, 1) := by decide +kernel
theorem d_MD_one_153 : decode b_MD_one 153 = .ok (.iload_n 1, 1) := by decide +kernel
theorem d_MD_one_154 : decode b_MD_one 154 = .ok (.aload_n 0, 1) := by decide +kernel
theorem d_MD_one_155 : decode b_MD_one 155 = .ok (.getfield 73, 3) := by decide +kernel
theorem d_MD_one_158 : decode b_MD_one 158 = .ok (.if_icmp .ge 20, 3) := by decide +kernel
theorem d_MD_one_161 : decode b_MD_one 161 = .ok (.aload_n 0, 1) := by decide +kernel
theorem d_MD_one_162 : decode b_MD_one 162 = .ok (.getfield 31, 3) := by decide +kernel
theorem d_MD_one_165 : decode b_MD_one 165 = .ok (.iload_n 1, 1) := by decide +kernel
theorem d_MD_one_166 : decode b_MD_one 166 = .ok (.aload_n 0, 1) := by decide +kernel
theorem d_MD_one_167 : decode b_MD_one 167 = .ok (.iload_n 1, 1) := by decide +kernel
theorem d_MD_one_168 : decode b_MD_one 168 = .ok (.invokevirtual 170, 3) := by decide +kernel
theorem d_MD_one_171 : decode b_MD_one 171 = .ok (.iastore, 1) := by decide +kernel
theorem d_MD_one_172 : decode b_MD_one 172 = .ok (.iinc 1 1, 3) := by decide +kernel
theorem d_MD_one_175 : decode b_MD_one 175 = .ok (.goto (-22), 3) := by decide +kernel
theorem d_MD_one_178 : decode b_MD_one 178 = .ok (.iconst 0, 1) := by decide +kernel
theorem d_MD_one_179 : decode b_MD_one 179 = .ok (.istore_n 1, 1) := by decide +kernel
theorem d_MD_one_180 : decode b_MD_one 180 = .ok (.iload_n 1, 1) := by decide +kernel
theorem d_MD_one_181 : decode b_MD_one 181 = .ok (.aload_n 0, 1) := by decide +kernel
theorem d_MD_one_182 : decode b_MD_one 182 = .ok (.getfield 73, 3) := by decide +kernel
theorem d_MD_one_185 : decode b_MD_one 185 = .ok (.if_icmp .ge 35, 3) := by decide +kernel
theorem d_MD_one_188 : decode b_MD_one 188 = .ok (.aload_n 0, 1) := by decide +kernel
theorem d_MD_one_189 : decode b_MD_one 189 = .ok (.getfield 7, 3) := by decide +kernel
theorem d_MD_one_192 : decode b_MD_one 192 = .ok (.iload_n 1, 1) := by decide +kernel
theorem d_MD_one_193 : decode b_MD_one 193 = .ok (.aload_n 0, 1) := by decide +kernel
theorem d_MD_one_194 : decode b_MD_one 194 = .ok (.getfield 7, 3) := by decide +kernel
theorem d_MD_one_197 : decode b_MD_one 197 = .ok (.iload_n 1, 1) := by decide +kernel
theorem d_MD_one_198 : decode b_MD_one 198 = .ok (.iaload, 1) := by decide +kernel
theorem d_MD_one_199 : decode b_MD_one 199 = .ok (.aload_n 0, 1) := by decide +kernel
theorem d_MD_one_200 : decode b_MD_one 200 = .ok (.getfield 31, 3) := by decide +kernel
theorem d_MD_one_203 : decode b_MD_one 203 = .ok (.iload_n 1, 1) := by decide +kernel
theorem d_MD_one_204 : decode b_MD_one 204 = .ok (.iaload, 1) := by decide +kernel
theorem d_MD_one_205 : decode b_MD_one 205 = .ok (.iadd, 1) := by decide +kernel
theorem d_MD_one_206 : decode b_MD_one 206 = .ok (.aload_n 0, 1) := by decide +kernel
theorem d_MD_one_207 : decode b_MD_one 207 = .ok (.getfield 13, 3) := by decide +kernel
theorem d_MD_one_210 : decode b_MD_one 210 = .ok (.iload_n 1, 1) := by decide +kernel
theorem d_MD_one_211 : decode b_MD_one 211 = .ok (.iaload, 1) := by decide +kernel
theorem d_MD_one_212 : decode b_MD_one 212 = .ok (.iadd, 1) := by decide +kernel
theorem d_MD_one_213 : decode b_MD_one 213 = .ok (.iastore, 1) := by decide +kernel
theorem d_MD_one_214 : decode b_MD_one 214 = .ok (.iinc 1 1, 3) := by decide +kernel
theorem d_MD_one_217 : decode b_MD_one 217 = .ok (.goto (-37), 3) := by decide +kernel
theorem d_MD_one_220 : decode b_MD_one 220 = .ok (.aload_n 0, 1) := by decide +kernel
theorem d_MD_one_221 : decode b_MD_one 221 = .ok (.dup, 1) := by decide +kernel
theorem d_MD_one_222 : decode b_MD_one 222 = .ok (.getfield 94, 3) := by decide +kernel
theorem d_MD_one_225 : decode b_MD_one 225 = .ok (.iconst 1, 1) := by decide +kernel
theorem d_MD_one_226 : decode b_MD_one 226 = .ok (.iadd, 1) := by decide +kernel
theorem d_MD_one_227 : decode b_MD_one 227 = .ok (.putfield 94, 3) := by decide +kernel
theorem d_MD_one_230 : decode b_MD_one 230 = .ok (.return_, 1) := by decide +kernel
theorem d_MD_agrees_0 : decode b_MD_agrees 0 = .ok (.iload_n 1, 1) := by decide +kernel
theorem d_MD_agrees_1 : decode b_MD_agrees 1 = .ok (.iload_n 2, 1) := by decide +kernel
theorem d_MD_agrees_2 : decode b_MD_agrees 2 = .ok (.if_icmp .ne 5, 3) := by decide +kernel
theorem d_MD_agrees_5 : decode b_MD_agrees 5 = .ok (.iload_n 3, 1) := by decide +kernel
theorem d_MD_agrees_6 : decode b_MD_agrees 6 = .ok (.ireturn, 1) := by decide +kernel
theorem d_MD_agrees_7 : decode b_MD_agrees 7 = .ok (.aload_n 0, 1) := by decide +kernel
theorem d_MD_agrees_8 : decode b_MD_agrees 8 = .ok (.iload_n 1, 1) := by decide +kernel
theorem d_MD_agrees_9 : decode b_MD_agrees 9 = .ok (.iload_n 2, 1) := by decide +kernel
theorem d_MD_agrees_10 : decode b_MD_agrees 10 = .ok (.invokevirtual 90, 3) := by decide +kernel
theorem d_MD_agrees_13 : decode b_MD_agrees 13 = .ok (.ifCond .eq 13, 3) := by decide +kernel
theorem d_MD_agrees_16 : decode b_MD_agrees 16 = .ok (.aload_n 0, 1) := by decide +kernel
theorem d_MD_agrees_17 : decode b_MD_agrees 17 = .ok (.iload_n 1, 1) := by decide +kernel
theorem d_MD_agrees_18 : decode b_MD_agrees 18 = .ok (.iload_n 2, 1) := by decide +kernel
theorem d_MD_agrees_19 : decode b_MD_agrees 19 = .ok (.iload_n 3, 1) := by decide +kernel
theorem d_MD_agrees_20 : decode b_MD_agrees 20 = .ok (.invokevirtual 123, 3) := by decide +kernel
theorem d_MD_agrees_23 : decode b_MD_agrees 23 = .ok (.goto 4, 3) := by decide +kernel
theorem d_MD_agrees_26 : decode b_MD_agrees 26 = .ok (.iconst 0, 1) := by decide +kernel
theorem d_MD_agrees_27 : decode b_MD_agrees 27 = .ok (.ireturn, 1) := by decide +kernel
theorem d_MD_member_0 : decode b_MD_member 0 = .ok (.aload_n 0, 1) := by decide +kernel
theorem d_MD_member_1 : decode b_MD_member 1 = .ok (.getfield 25, 3) := by decide +kernel
theorem d_MD_member_4 : decode b_MD_member 4 = .ok (.iload_n 1, 1) := by decide +kernel
theorem d_MD_member_5 : decode b_MD_member 5 = .ok (.iaload, 1) := by decide +kernel
theorem d_MD_member_6 : decode b_MD_member 6 = .ok (.iload_n 2, 1) := by decide +kernel
theorem d_MD_member_7 : decode b_MD_member 7 = .ok (.ishr, 1) := by decide +kernel
theorem d_MD_member_8 : decode b_MD_member 8 = .ok (.iconst 1, 1) := by decide +kernel
theorem d_MD_member_9 : decode b_MD_member 9 = .ok (.iand, 1) := by decide +kernel
theorem d_MD_member_10 : decode b_MD_member 10 = .ok (.iconst 1, 1) := by decide +kernel
theorem d_MD_member_11 : decode b_MD_member 11 = .ok (.if_icmp .ne 7, 3) := by decide +kernel
theorem d_MD_member_14 : decode b_MD_member 14 = .ok (.iconst 1, 1) := by decide +kernel
theorem d_MD_member_15 : decode b_MD_member 15 = .ok (.goto 4, 3) := by decide +kernel
theorem d_MD_member_18 : decode b_MD_member 18 = .ok (.iconst 0, 1) := by decide +kernel
theorem d_MD_member_19 : decode b_MD_member 19 = .ok (.ireturn, 1) := by decide +kernel
theorem d_MD_makesOfOne_0 : decode b_MD_makesOfOne 0 = .ok (.aload_n 0, 1) := by decide +kernel
theorem d_MD_makesOfOne_1 : decode b_MD_makesOfOne 1 = .ok (.iload_n 1, 1) := by decide +kernel
theorem d_MD_makesOfOne_2 : decode b_MD_makesOfOne 2 = .ok (.iload_n 2, 1) := by decide +kernel
theorem d_MD_makesOfOne_3 : decode b_MD_makesOfOne 3 = .ok (.iconst (-1), 1) := by decide +kernel
theorem d_MD_makesOfOne_4 : decode b_MD_makesOfOne 4 = .ok (.iconst (-1), 1) := by decide +kernel
theorem d_MD_makesOfOne_5 : decode b_MD_makesOfOne 5 = .ok (.iload_n 3, 1) := by decide +kernel
theorem d_MD_makesOfOne_6 : decode b_MD_makesOfOne 6 = .ok (.invokevirtual 107, 3) := by decide +kernel
theorem d_MD_makesOfOne_9 : decode b_MD_makesOfOne 9 = .ok (.istore 4, 2) := by decide +kernel
theorem d_MD_makesOfOne_11 : decode b_MD_makesOfOne 11 = .ok (.aload_n 0, 1) := by decide +kernel
theorem d_MD_makesOfOne_12 : decode b_MD_makesOfOne 12 = .ok (.iload_n 1, 1) := by decide +kernel
theorem d_MD_makesOfOne_13 : decode b_MD_makesOfOne 13 = .ok (.invokevirtual 111, 3) := by decide +kernel
theorem d_MD_makesOfOne_16 : decode b_MD_makesOfOne 16 = .ok (.ifCond .ne 6, 3) := by decide +kernel
theorem d_MD_makesOfOne_19 : decode b_MD_makesOfOne 19 = .ok (.iload 4, 2) := by decide +kernel
theorem d_MD_makesOfOne_21 : decode b_MD_makesOfOne 21 = .ok (.ireturn, 1) := by decide +kernel
theorem d_MD_makesOfOne_22 : decode b_MD_makesOfOne 22 = .ok (.aload_n 0, 1) := by decide +kernel
theorem d_MD_makesOfOne_23 : decode b_MD_makesOfOne 23 = .ok (.getfield 70, 3) := by decide +kernel
theorem d_MD_makesOfOne_26 : decode b_MD_makesOfOne 26 = .ok (.iconst 0, 1) := by decide +kernel
theorem d_MD_makesOfOne_27 : decode b_MD_makesOfOne 27 = .ok (.iload 4, 2) := by decide +kernel
theorem d_MD_makesOfOne_29 : decode b_MD_makesOfOne 29 = .ok (.iastore, 1) := by decide +kernel
theorem d_MD_makesOfOne_30 : decode b_MD_makesOfOne 30 = .ok (.iconst 1, 1) := by decide +kernel
theorem d_MD_makesOfOne_31 : decode b_MD_makesOfOne 31 = .ok (.istore 5, 2) := by decide +kernel
theorem d_MD_makesOfOne_33 : decode b_MD_makesOfOne 33 = .ok (.iconst 0, 1) := by decide +kernel
theorem d_MD_makesOfOne_34 : decode b_MD_makesOfOne 34 = .ok (.istore 6, 2) := by decide +kernel
theorem d_MD_makesOfOne_36 : decode b_MD_makesOfOne 36 = .ok (.iload 6, 2) := by decide +kernel
theorem d_MD_makesOfOne_38 : decode b_MD_makesOfOne 38 = .ok (.aload_n 0, 1) := by decide +kernel
theorem d_MD_makesOfOne_39 : decode b_MD_makesOfOne 39 = .ok (.getfield 73, 3) := by decide +kernel
theorem d_MD_makesOfOne_42 : decode b_MD_makesOfOne 42 = .ok (.if_icmp .ge 50, 3) := by decide +kernel
theorem d_MD_makesOfOne_45 : decode b_MD_makesOfOne 45 = .ok (.aload_n 0, 1) := by decide +kernel
theorem d_MD_makesOfOne_46 : decode b_MD_makesOfOne 46 = .ok (.iload_n 1, 1) := by decide +kernel
theorem d_MD_makesOfOne_47 : decode b_MD_makesOfOne 47 = .ok (.iload 6, 2) := by decide +kernel
theorem d_MD_makesOfOne_49 : decode b_MD_makesOfOne 49 = .ok (.invokevirtual 90, 3) := by decide +kernel
theorem d_MD_makesOfOne_52 : decode b_MD_makesOfOne 52 = .ok (.ifCond .eq 34, 3) := by decide +kernel
theorem d_MD_makesOfOne_55 : decode b_MD_makesOfOne 55 = .ok (.iload 6, 2) := by decide +kernel
theorem d_MD_makesOfOne_57 : decode b_MD_makesOfOne 57 = .ok (.iload_n 1, 1) := by decide +kernel
theorem d_MD_makesOfOne_58 : decode b_MD_makesOfOne 58 = .ok (.if_icmp .eq 28, 3) := by decide +kernel
theorem d_MD_makesOfOne_61 : decode b_MD_makesOfOne 61 = .ok (.iload 6, 2) := by decide +kernel
theorem d_MD_makesOfOne_63 : decode b_MD_makesOfOne 63 = .ok (.iload_n 2, 1) := by decide +kernel
theorem d_MD_makesOfOne_64 : decode b_MD_makesOfOne 64 = .ok (.if_icmp .eq 22, 3) := by decide +kernel
theorem d_MD_makesOfOne_67 : decode b_MD_makesOfOne 67 = .ok (.aload_n 0, 1) := by decide +kernel
theorem d_MD_makesOfOne_68 : decode b_MD_makesOfOne 68 = .ok (.getfield 70, 3) := by decide +kernel
theorem d_MD_makesOfOne_71 : decode b_MD_makesOfOne 71 = .ok (.iload 5, 2) := by decide +kernel
theorem d_MD_makesOfOne_73 : decode b_MD_makesOfOne 73 = .ok (.aload_n 0, 1) := by decide +kernel
theorem d_MD_makesOfOne_74 : decode b_MD_makesOfOne 74 = .ok (.iload_n 1, 1) := by decide +kernel
theorem d_MD_makesOfOne_75 : decode b_MD_makesOfOne 75 = .ok (.iload_n 2, 1) := by decide +kernel
theorem d_MD_makesOfOne_76 : decode b_MD_makesOfOne 76 = .ok (.iload 6, 2) := by decide +kernel
theorem d_MD_makesOfOne_78 : decode b_MD_makesOfOne 78 = .ok (.iload_n 3, 1) := by decide +kernel
theorem d_MD_makesOfOne_79 : decode b_MD_makesOfOne 79 = .ok (.invokevirtual 119, 3) := by decide +kernel
theorem d_MD_makesOfOne_82 : decode b_MD_makesOfOne 82 = .ok (.iastore, 1) := by decide +kernel
theorem d_MD_makesOfOne_83 : decode b_MD_makesOfOne 83 = .ok (.iinc 5 1, 3) := by decide +kernel
theorem d_MD_makesOfOne_86 : decode b_MD_makesOfOne 86 = .ok (.iinc 6 1, 3) := by decide +kernel
theorem d_MD_makesOfOne_89 : decode b_MD_makesOfOne 89 = .ok (.goto (-53), 3) := by decide +kernel
theorem d_MD_makesOfOne_92 : decode b_MD_makesOfOne 92 = .ok (.aload_n 0, 1) := by decide +kernel
theorem d_MD_makesOfOne_93 : decode b_MD_makesOfOne 93 = .ok (.iconst 0, 1) := by decide +kernel
theorem d_MD_makesOfOne_94 : decode b_MD_makesOfOne 94 = .ok (.iload 5, 2) := by decide +kernel
theorem d_MD_makesOfOne_96 : decode b_MD_makesOfOne 96 = .ok (.invokevirtual 115, 3) := by decide +kernel
theorem d_MD_makesOfOne_99 : decode b_MD_makesOfOne 99 = .ok (.ireturn, 1) := by decide +kernel
theorem d_MD_holds_0 : decode b_MD_holds 0 = .ok (.iload 5, 2) := by decide +kernel
theorem d_MD_holds_2 : decode b_MD_holds 2 = .ok (.istore 6, 2) := by decide +kernel
theorem d_MD_holds_4 : decode b_MD_holds 4 = .ok (.iload_n 2, 1) := by decide +kernel
theorem d_MD_holds_5 : decode b_MD_holds 5 = .ok (.istore 7, 2) := by decide +kernel
theorem d_MD_holds_7 : decode b_MD_holds 7 = .ok (.iload_n 3, 1) := by decide +kernel
theorem d_MD_holds_8 : decode b_MD_holds 8 = .ok (.ifCond .lt 17, 3) := by decide +kernel
theorem d_MD_holds_11 : decode b_MD_holds 11 = .ok (.aload_n 0, 1) := by decide +kernel
theorem d_MD_holds_12 : decode b_MD_holds 12 = .ok (.iload 7, 2) := by decide +kernel
theorem d_MD_holds_14 : decode b_MD_holds 14 = .ok (.iload_n 3, 1) := by decide +kernel
theorem d_MD_holds_15 : decode b_MD_holds 15 = .ok (.iload 6, 2) := by decide +kernel
theorem d_MD_holds_17 : decode b_MD_holds 17 = .ok (.invokevirtual 104, 3) := by decide +kernel
theorem d_MD_holds_20 : decode b_MD_holds 20 = .ok (.istore 6, 2) := by decide +kernel
theorem d_MD_holds_22 : decode b_MD_holds 22 = .ok (.iload_n 3, 1) := by decide +kernel
theorem d_MD_holds_23 : decode b_MD_holds 23 = .ok (.istore 7, 2) := by decide +kernel
theorem d_MD_holds_25 : decode b_MD_holds 25 = .ok (.iload 4, 2) := by decide +kernel
theorem d_MD_holds_27 : decode b_MD_holds 27 = .ok (.ifCond .lt 19, 3) := by decide +kernel
theorem d_MD_holds_30 : decode b_MD_holds 30 = .ok (.aload_n 0, 1) := by decide +kernel
theorem d_MD_holds_31 : decode b_MD_holds 31 = .ok (.iload 7, 2) := by decide +kernel
theorem d_MD_holds_33 : decode b_MD_holds 33 = .ok (.iload 4, 2) := by decide +kernel
theorem d_MD_holds_35 : decode b_MD_holds 35 = .ok (.iload 6, 2) := by decide +kernel
theorem d_MD_holds_37 : decode b_MD_holds 37 = .ok (.invokevirtual 104, 3) := by decide +kernel
theorem d_MD_holds_40 : decode b_MD_holds 40 = .ok (.istore 6, 2) := by decide +kernel
theorem d_MD_holds_42 : decode b_MD_holds 42 = .ok (.iload 4, 2) := by decide +kernel
theorem d_MD_holds_44 : decode b_MD_holds 44 = .ok (.istore 7, 2) := by decide +kernel
theorem d_MD_holds_46 : decode b_MD_holds 46 = .ok (.aload_n 0, 1) := by decide +kernel
theorem d_MD_holds_47 : decode b_MD_holds 47 = .ok (.iload 7, 2) := by decide +kernel
theorem d_MD_holds_49 : decode b_MD_holds 49 = .ok (.iload_n 1, 1) := by decide +kernel
theorem d_MD_holds_50 : decode b_MD_holds 50 = .ok (.iload 6, 2) := by decide +kernel
theorem d_MD_holds_52 : decode b_MD_holds 52 = .ok (.invokevirtual 104, 3) := by decide +kernel
theorem d_MD_holds_55 : decode b_MD_holds 55 = .ok (.ireturn, 1) := by decide +kernel
theorem d_MD_sent_0 : decode b_MD_sent 0 = .ok (.aload_n 0, 1) := by decide +kernel
theorem d_MD_sent_1 : decode b_MD_sent 1 = .ok (.iload_n 1, 1) := by decide +kernel
theorem d_MD_sent_2 : decode b_MD_sent 2 = .ok (.iload_n 2, 1) := by decide +kernel
theorem d_MD_sent_3 : decode b_MD_sent 3 = .ok (.invokevirtual 97, 3) := by decide +kernel
theorem d_MD_sent_6 : decode b_MD_sent 6 = .ok (.ifCond .eq 13, 3) := by decide +kernel
theorem d_MD_sent_9 : decode b_MD_sent 9 = .ok (.aload_n 0, 1) := by decide +kernel
theorem d_MD_sent_10 : decode b_MD_sent 10 = .ok (.iload_n 1, 1) := by decide +kernel
theorem d_MD_sent_11 : decode b_MD_sent 11 = .ok (.iload_n 2, 1) := by decide +kernel
theorem d_MD_sent_12 : decode b_MD_sent 12 = .ok (.iload_n 3, 1) := by decide +kernel
theorem d_MD_sent_13 : decode b_MD_sent 13 = .ok (.invokevirtual 100, 3) := by decide +kernel
theorem d_MD_sent_16 : decode b_MD_sent 16 = .ok (.goto 4, 3) := by decide +kernel
theorem d_MD_sent_19 : decode b_MD_sent 19 = .ok (.iconst 0, 1) := by decide +kernel
theorem d_MD_sent_20 : decode b_MD_sent 20 = .ok (.ireturn, 1) := by decide +kernel
theorem d_MD_through_0 : decode b_MD_through 0 = .ok (.aload_n 0, 1) := by decide +kernel
theorem d_MD_through_1 : decode b_MD_through 1 = .ok (.iload_n 2, 1) := by decide +kernel
theorem d_MD_through_2 : decode b_MD_through 2 = .ok (.iload_n 1, 1) := by decide +kernel
theorem d_MD_through_3 : decode b_MD_through 3 = .ok (.invokevirtual 90, 3) := by decide +kernel
theorem d_MD_through_6 : decode b_MD_through 6 = .ok (.ifCond .eq 13, 3) := by decide +kernel
theorem d_MD_through_9 : decode b_MD_through 9 = .ok (.aload_n 0, 1) := by decide +kernel
theorem d_MD_through_10 : decode b_MD_through 10 = .ok (.getfield 19, 3) := by decide +kernel
theorem d_MD_through_13 : decode b_MD_through 13 = .ok (.iload_n 1, 1) := by decide +kernel
theorem d_MD_through_14 : decode b_MD_through 14 = .ok (.iaload, 1) := by decide +kernel
theorem d_MD_through_15 : decode b_MD_through 15 = .ok (.iconst 1, 1) := by decide +kernel
theorem d_MD_through_16 : decode b_MD_through 16 = .ok (.if_icmp .ne 5, 3) := by decide +kernel
theorem d_MD_through_19 : decode b_MD_through 19 = .ok (.iconst 0, 1) := by decide +kernel
theorem d_MD_through_20 : decode b_MD_through 20 = .ok (.ireturn, 1) := by decide +kernel
theorem d_MD_through_21 : decode b_MD_through 21 = .ok (.aload_n 0, 1) := by decide +kernel
theorem d_MD_through_22 : decode b_MD_through 22 = .ok (.getfield 7, 3) := by decide +kernel
theorem d_MD_through_25 : decode b_MD_through 25 = .ok (.iload_n 2, 1) := by decide +kernel
theorem d_MD_through_26 : decode b_MD_through 26 = .ok (.iaload, 1) := by decide +kernel
theorem d_MD_through_27 : decode b_MD_through 27 = .ok (.aload_n 0, 1) := by decide +kernel
theorem d_MD_through_28 : decode b_MD_through 28 = .ok (.getfield 7, 3) := by decide +kernel
theorem d_MD_through_31 : decode b_MD_through 31 = .ok (.iload_n 1, 1) := by decide +kernel
theorem d_MD_through_32 : decode b_MD_through 32 = .ok (.iaload, 1) := by decide +kernel
theorem d_MD_through_33 : decode b_MD_through 33 = .ok (.isub, 1) := by decide +kernel
theorem d_MD_through_34 : decode b_MD_through 34 = .ok (.aload_n 0, 1) := by decide +kernel
theorem d_MD_through_35 : decode b_MD_through 35 = .ok (.getfield 46, 3) := by decide +kernel
theorem d_MD_through_38 : decode b_MD_through 38 = .ok (.bipush 7, 2) := by decide +kernel
theorem d_MD_through_40 : decode b_MD_through 40 = .ok (.iload_n 1, 1) := by decide +kernel
theorem d_MD_through_41 : decode b_MD_through 41 = .ok (.imul, 1) := by decide +kernel
theorem d_MD_through_42 : decode b_MD_through 42 = .ok (.iload_n 2, 1) := by decide +kernel
theorem d_MD_through_43 : decode b_MD_through 43 = .ok (.iadd, 1) := by decide +kernel
theorem d_MD_through_44 : decode b_MD_through 44 = .ok (.iaload, 1) := by decide +kernel
theorem d_MD_through_45 : decode b_MD_through 45 = .ok (.iadd, 1) := by decide +kernel
theorem d_MD_through_46 : decode b_MD_through 46 = .ok (.istore_n 3, 1) := by decide +kernel
theorem d_MD_through_47 : decode b_MD_through 47 = .ok (.iload_n 3, 1) := by decide +kernel
theorem d_MD_through_48 : decode b_MD_through 48 = .ok (.aload_n 0, 1) := by decide +kernel
theorem d_MD_through_49 : decode b_MD_through 49 = .ok (.getfield 80, 3) := by decide +kernel
theorem d_MD_through_52 : decode b_MD_through 52 = .ok (.bipush 20, 2) := by decide +kernel
theorem d_MD_through_54 : decode b_MD_through 54 = .ok (.iadd, 1) := by decide +kernel
theorem d_MD_through_55 : decode b_MD_through 55 = .ok (.ineg, 1) := by decide +kernel
theorem d_MD_through_56 : decode b_MD_through 56 = .ok (.if_icmp .lt 18, 3) := by decide +kernel
theorem d_MD_through_59 : decode b_MD_through 59 = .ok (.iload_n 3, 1) := by decide +kernel
theorem d_MD_through_60 : decode b_MD_through 60 = .ok (.aload_n 0, 1) := by decide +kernel
theorem d_MD_through_61 : decode b_MD_through 61 = .ok (.getfield 80, 3) := by decide +kernel
theorem d_MD_through_64 : decode b_MD_through 64 = .ok (.bipush 20, 2) := by decide +kernel
theorem d_MD_through_66 : decode b_MD_through 66 = .ok (.iadd, 1) := by decide +kernel
theorem d_MD_through_67 : decode b_MD_through 67 = .ok (.if_icmp .gt 7, 3) := by decide +kernel
theorem d_MD_through_70 : decode b_MD_through 70 = .ok (.iconst 1, 1) := by decide +kernel
theorem d_MD_through_71 : decode b_MD_through 71 = .ok (.goto 4, 3) := by decide +kernel
theorem d_MD_through_74 : decode b_MD_through 74 = .ok (.iconst 0, 1) := by decide +kernel
theorem d_MD_through_75 : decode b_MD_through 75 = .ok (.ireturn, 1) := by decide +kernel
theorem d_MD_says_0 : decode b_MD_says 0 = .ok (.aload_n 0, 1) := by decide +kernel
theorem d_MD_says_1 : decode b_MD_says 1 = .ok (.getfield 22, 3) := by decide +kernel
theorem d_MD_says_4 : decode b_MD_says 4 = .ok (.iload_n 1, 1) := by decide +kernel
theorem d_MD_says_5 : decode b_MD_says 5 = .ok (.iaload, 1) := by decide +kernel
theorem d_MD_says_6 : decode b_MD_says 6 = .ok (.istore 4, 2) := by decide +kernel
theorem d_MD_says_8 : decode b_MD_says 8 = .ok (.aload_n 0, 1) := by decide +kernel
theorem d_MD_says_9 : decode b_MD_says 9 = .ok (.getfield 19, 3) := by decide +kernel
theorem d_MD_says_12 : decode b_MD_says 12 = .ok (.iload_n 1, 1) := by decide +kernel
theorem d_MD_says_13 : decode b_MD_says 13 = .ok (.iaload, 1) := by decide +kernel
theorem d_MD_says_14 : decode b_MD_says 14 = .ok (.tableswitch 75 2 5 #[30, 33, 49, 58], 30) := by decide +kernel
theorem d_MD_says_44 : decode b_MD_says 44 = .ok (.iload 4, 2) := by decide +kernel
theorem d_MD_says_46 : decode b_MD_says 46 = .ok (.ireturn, 1) := by decide +kernel
theorem d_MD_says_47 : decode b_MD_says 47 = .ok (.iload_n 2, 1) := by decide +kernel
theorem d_MD_says_48 : decode b_MD_says 48 = .ok (.iconst 2, 1) := by decide +kernel
theorem d_MD_says_49 : decode b_MD_says 49 = .ok (.irem, 1) := by decide +kernel
theorem d_MD_says_50 : decode b_MD_says 50 = .ok (.iconst 1, 1) := by decide +kernel
theorem d_MD_says_51 : decode b_MD_says 51 = .ok (.if_icmp .ne 10, 3) := by decide +kernel
theorem d_MD_says_54 : decode b_MD_says 54 = .ok (.iload_n 3, 1) := by decide +kernel
theorem d_MD_says_55 : decode b_MD_says 55 = .ok (.iload 4, 2) := by decide +kernel
theorem d_MD_says_57 : decode b_MD_says 57 = .ok (.iadd, 1) := by decide +kernel
theorem d_MD_says_58 : decode b_MD_says 58 = .ok (.goto 4, 3) := by decide +kernel
theorem d_MD_says_61 : decode b_MD_says 61 = .ok (.iload_n 3, 1) := by decide +kernel
theorem d_MD_says_62 : decode b_MD_says 62 = .ok (.ireturn, 1) := by decide +kernel
theorem d_MD_says_63 : decode b_MD_says 63 = .ok (.iload_n 3, 1) := by decide +kernel
theorem d_MD_says_64 : decode b_MD_says 64 = .ok (.iload 4, 2) := by decide +kernel
theorem d_MD_says_66 : decode b_MD_says 66 = .ok (.iload_n 2, 1) := by decide +kernel
theorem d_MD_says_67 : decode b_MD_says 67 = .ok (.iconst 1, 1) := by decide +kernel
theorem d_MD_says_68 : decode b_MD_says 68 = .ok (.iadd, 1) := by decide +kernel
theorem d_MD_says_69 : decode b_MD_says 69 = .ok (.imul, 1) := by decide +kernel
theorem d_MD_says_70 : decode b_MD_says 70 = .ok (.iadd, 1) := by decide +kernel
theorem d_MD_says_71 : decode b_MD_says 71 = .ok (.ireturn, 1) := by decide +kernel
theorem d_MD_says_72 : decode b_MD_says 72 = .ok (.aload_n 0, 1) := by decide +kernel
theorem d_MD_says_73 : decode b_MD_says 73 = .ok (.getfield 94, 3) := by decide +kernel
theorem d_MD_says_76 : decode b_MD_says 76 = .ok (.iconst 2, 1) := by decide +kernel
theorem d_MD_says_77 : decode b_MD_says 77 = .ok (.irem, 1) := by decide +kernel
theorem d_MD_says_78 : decode b_MD_says 78 = .ok (.iconst 1, 1) := by decide +kernel
theorem d_MD_says_79 : decode b_MD_says 79 = .ok (.if_icmp .ne 8, 3) := by decide +kernel
theorem d_MD_says_82 : decode b_MD_says 82 = .ok (.iload 4, 2) := by decide +kernel
theorem d_MD_says_84 : decode b_MD_says 84 = .ok (.goto 4, 3) := by decide +kernel
theorem d_MD_says_87 : decode b_MD_says 87 = .ok (.iload_n 3, 1) := by decide +kernel
theorem d_MD_says_88 : decode b_MD_says 88 = .ok (.ireturn, 1) := by decide +kernel
theorem d_MD_says_89 : decode b_MD_says 89 = .ok (.iload_n 3, 1) := by decide +kernel
theorem d_MD_says_90 : decode b_MD_says 90 = .ok (.ireturn, 1) := by decide +kernel
theorem d_MD_bears_0 : decode b_MD_bears 0 = .ok (.aload_n 0, 1) := by decide +kernel
theorem d_MD_bears_1 : decode b_MD_bears 1 = .ok (.iload_n 1, 1) := by decide +kernel
theorem d_MD_bears_2 : decode b_MD_bears 2 = .ok (.invokevirtual 83, 3) := by decide +kernel
theorem d_MD_bears_5 : decode b_MD_bears 5 = .ok (.ifCond .ne 5, 3) := by decide +kernel
theorem d_MD_bears_8 : decode b_MD_bears 8 = .ok (.iconst 0, 1) := by decide +kernel
theorem d_MD_bears_9 : decode b_MD_bears 9 = .ok (.ireturn, 1) := by decide +kernel
theorem d_MD_bears_10 : decode b_MD_bears 10 = .ok (.aload_n 0, 1) := by decide +kernel
theorem d_MD_bears_11 : decode b_MD_bears 11 = .ok (.iload_n 1, 1) := by decide +kernel
theorem d_MD_bears_12 : decode b_MD_bears 12 = .ok (.invokevirtual 142, 3) := by decide +kernel
theorem d_MD_bears_15 : decode b_MD_bears 15 = .ok (.iconst 1, 1) := by decide +kernel
theorem d_MD_bears_16 : decode b_MD_bears 16 = .ok (.isub, 1) := by decide +kernel
theorem d_MD_bears_17 : decode b_MD_bears 17 = .ok (.iconst 3, 1) := by decide +kernel
theorem d_MD_bears_18 : decode b_MD_bears 18 = .ok (.idiv, 1) := by decide +kernel
theorem d_MD_bears_19 : decode b_MD_bears 19 = .ok (.istore_n 2, 1) := by decide +kernel
theorem d_MD_bears_20 : decode b_MD_bears 20 = .ok (.aload_n 0, 1) := by decide +kernel
theorem d_MD_bears_21 : decode b_MD_bears 21 = .ok (.getfield 77, 3) := by decide +kernel
theorem d_MD_bears_24 : decode b_MD_bears 24 = .ok (.iload_n 2, 1) := by decide +kernel
theorem d_MD_bears_25 : decode b_MD_bears 25 = .ok (.if_icmp .ge 10, 3) := by decide +kernel
theorem d_MD_bears_28 : decode b_MD_bears 28 = .ok (.aload_n 0, 1) := by decide +kernel
theorem d_MD_bears_29 : decode b_MD_bears 29 = .ok (.getfield 77, 3) := by decide +kernel
theorem d_MD_bears_32 : decode b_MD_bears 32 = .ok (.goto 4, 3) := by decide +kernel
theorem d_MD_bears_35 : decode b_MD_bears 35 = .ok (.iload_n 2, 1) := by decide +kernel
theorem d_MD_bears_36 : decode b_MD_bears 36 = .ok (.ireturn, 1) := by decide +kernel
theorem d_MD_size_0 : decode b_MD_size 0 = .ok (.iconst 0, 1) := by decide +kernel
theorem d_MD_size_1 : decode b_MD_size 1 = .ok (.istore_n 2, 1) := by decide +kernel
theorem d_MD_size_2 : decode b_MD_size 2 = .ok (.iconst 0, 1) := by decide +kernel
theorem d_MD_size_3 : decode b_MD_size 3 = .ok (.istore_n 3, 1) := by decide +kernel
theorem d_MD_size_4 : decode b_MD_size 4 = .ok (.iload_n 3, 1) := by decide +kernel
theorem d_MD_size_5 : decode b_MD_size 5 = .ok (.aload_n 0, 1) := by decide +kernel
theorem d_MD_size_6 : decode b_MD_size 6 = .ok (.getfield 73, 3) := by decide +kernel
theorem d_MD_size_9 : decode b_MD_size 9 = .ok (.if_icmp .ge 26, 3) := by decide +kernel
theorem d_MD_size_12 : decode b_MD_size 12 = .ok (.aload_n 0, 1) := by decide +kernel
theorem d_MD_size_13 : decode b_MD_size 13 = .ok (.iload_n 1, 1) := by decide +kernel
theorem d_MD_size_14 : decode b_MD_size 14 = .ok (.iload_n 3, 1) := by decide +kernel
theorem d_MD_size_15 : decode b_MD_size 15 = .ok (.invokevirtual 90, 3) := by decide +kernel
theorem d_MD_size_18 : decode b_MD_size 18 = .ok (.ifCond .eq 9, 3) := by decide +kernel
theorem d_MD_size_21 : decode b_MD_size 21 = .ok (.iload_n 2, 1) := by decide +kernel
theorem d_MD_size_22 : decode b_MD_size 22 = .ok (.iconst 1, 1) := by decide +kernel
theorem d_MD_size_23 : decode b_MD_size 23 = .ok (.iadd, 1) := by decide +kernel
theorem d_MD_size_24 : decode b_MD_size 24 = .ok (.goto 4, 3) := by decide +kernel
theorem d_MD_size_27 : decode b_MD_size 27 = .ok (.iload_n 2, 1) := by decide +kernel
theorem d_MD_size_28 : decode b_MD_size 28 = .ok (.istore_n 2, 1) := by decide +kernel
theorem d_MD_size_29 : decode b_MD_size 29 = .ok (.iinc 3 1, 3) := by decide +kernel
theorem d_MD_size_32 : decode b_MD_size 32 = .ok (.goto (-28), 3) := by decide +kernel
theorem d_MD_size_35 : decode b_MD_size 35 = .ok (.iload_n 2, 1) := by decide +kernel
theorem d_MD_size_36 : decode b_MD_size 36 = .ok (.ireturn, 1) := by decide +kernel
theorem d_MD_makesOfTwo_0 : decode b_MD_makesOfTwo 0 = .ok (.aload_n 0, 1) := by decide +kernel
theorem d_MD_makesOfTwo_1 : decode b_MD_makesOfTwo 1 = .ok (.iload_n 1, 1) := by decide +kernel
theorem d_MD_makesOfTwo_2 : decode b_MD_makesOfTwo 2 = .ok (.iload_n 2, 1) := by decide +kernel
theorem d_MD_makesOfTwo_3 : decode b_MD_makesOfTwo 3 = .ok (.iload_n 3, 1) := by decide +kernel
theorem d_MD_makesOfTwo_4 : decode b_MD_makesOfTwo 4 = .ok (.iconst (-1), 1) := by decide +kernel
theorem d_MD_makesOfTwo_5 : decode b_MD_makesOfTwo 5 = .ok (.iload 4, 2) := by decide +kernel
theorem d_MD_makesOfTwo_7 : decode b_MD_makesOfTwo 7 = .ok (.invokevirtual 107, 3) := by decide +kernel
theorem d_MD_makesOfTwo_10 : decode b_MD_makesOfTwo 10 = .ok (.istore 5, 2) := by decide +kernel
theorem d_MD_makesOfTwo_12 : decode b_MD_makesOfTwo 12 = .ok (.aload_n 0, 1) := by decide +kernel
theorem d_MD_makesOfTwo_13 : decode b_MD_makesOfTwo 13 = .ok (.iload_n 1, 1) := by decide +kernel
theorem d_MD_makesOfTwo_14 : decode b_MD_makesOfTwo 14 = .ok (.invokevirtual 111, 3) := by decide +kernel
theorem d_MD_makesOfTwo_17 : decode b_MD_makesOfTwo 17 = .ok (.iconst 1, 1) := by decide +kernel
theorem d_MD_makesOfTwo_18 : decode b_MD_makesOfTwo 18 = .ok (.if_icmp .ne 6, 3) := by decide +kernel
theorem d_MD_makesOfTwo_21 : decode b_MD_makesOfTwo 21 = .ok (.iload 5, 2) := by decide +kernel
theorem d_MD_makesOfTwo_23 : decode b_MD_makesOfTwo 23 = .ok (.ireturn, 1) := by decide +kernel
theorem d_MD_makesOfTwo_24 : decode b_MD_makesOfTwo 24 = .ok (.aload_n 0, 1) := by decide +kernel
theorem d_MD_makesOfTwo_25 : decode b_MD_makesOfTwo 25 = .ok (.getfield 70, 3) := by decide +kernel
theorem d_MD_makesOfTwo_28 : decode b_MD_makesOfTwo 28 = .ok (.bipush 8, 2) := by decide +kernel
theorem d_MD_makesOfTwo_30 : decode b_MD_makesOfTwo 30 = .ok (.iload 5, 2) := by decide +kernel
theorem d_MD_makesOfTwo_32 : decode b_MD_makesOfTwo 32 = .ok (.iastore, 1) := by decide +kernel
theorem d_MD_makesOfTwo_33 : decode b_MD_makesOfTwo 33 = .ok (.iconst 1, 1) := by decide +kernel
theorem d_MD_makesOfTwo_34 : decode b_MD_makesOfTwo 34 = .ok (.istore 6, 2) := by decide +kernel
theorem d_MD_makesOfTwo_36 : decode b_MD_makesOfTwo 36 = .ok (.iconst 0, 1) := by decide +kernel
theorem d_MD_makesOfTwo_37 : decode b_MD_makesOfTwo 37 = .ok (.istore 7, 2) := by decide +kernel
theorem d_MD_makesOfTwo_39 : decode b_MD_makesOfTwo 39 = .ok (.iload 7, 2) := by decide +kernel
theorem d_MD_makesOfTwo_41 : decode b_MD_makesOfTwo 41 = .ok (.aload_n 0, 1) := by decide +kernel
theorem d_MD_makesOfTwo_42 : decode b_MD_makesOfTwo 42 = .ok (.getfield 73, 3) := by decide +kernel
theorem d_MD_makesOfTwo_45 : decode b_MD_makesOfTwo 45 = .ok (.if_icmp .ge 61, 3) := by decide +kernel
theorem d_MD_makesOfTwo_48 : decode b_MD_makesOfTwo 48 = .ok (.aload_n 0, 1) := by decide +kernel
theorem d_MD_makesOfTwo_49 : decode b_MD_makesOfTwo 49 = .ok (.iload_n 1, 1) := by decide +kernel
theorem d_MD_makesOfTwo_50 : decode b_MD_makesOfTwo 50 = .ok (.iload 7, 2) := by decide +kernel
theorem d_MD_makesOfTwo_52 : decode b_MD_makesOfTwo 52 = .ok (.invokevirtual 90, 3) := by decide +kernel
theorem d_MD_makesOfTwo_55 : decode b_MD_makesOfTwo 55 = .ok (.ifCond .eq 45, 3) := by decide +kernel
theorem d_MD_makesOfTwo_58 : decode b_MD_makesOfTwo 58 = .ok (.iload 7, 2) := by decide +kernel
theorem d_MD_makesOfTwo_60 : decode b_MD_makesOfTwo 60 = .ok (.iload_n 1, 1) := by decide +kernel
theorem d_MD_makesOfTwo_61 : decode b_MD_makesOfTwo 61 = .ok (.if_icmp .eq 39, 3) := by decide +kernel
theorem d_MD_makesOfTwo_64 : decode b_MD_makesOfTwo 64 = .ok (.iload 7, 2) := by decide +kernel
theorem d_MD_makesOfTwo_66 : decode b_MD_makesOfTwo 66 = .ok (.iload_n 2, 1) := by decide +kernel
theorem d_MD_makesOfTwo_67 : decode b_MD_makesOfTwo 67 = .ok (.if_icmp .eq 33, 3) := by decide +kernel
theorem d_MD_makesOfTwo_70 : decode b_MD_makesOfTwo 70 = .ok (.iload 7, 2) := by decide +kernel
theorem d_MD_makesOfTwo_72 : decode b_MD_makesOfTwo 72 = .ok (.iload_n 3, 1) := by decide +kernel
theorem d_MD_makesOfTwo_73 : decode b_MD_makesOfTwo 73 = .ok (.if_icmp .eq 27, 3) := by decide +kernel
theorem d_MD_makesOfTwo_76 : decode b_MD_makesOfTwo 76 = .ok (.aload_n 0, 1) := by decide +kernel
theorem d_MD_makesOfTwo_77 : decode b_MD_makesOfTwo 77 = .ok (.getfield 70, 3) := by decide +kernel
theorem d_MD_makesOfTwo_80 : decode b_MD_makesOfTwo 80 = .ok (.bipush 8, 2) := by decide +kernel
theorem d_MD_makesOfTwo_82 : decode b_MD_makesOfTwo 82 = .ok (.iload 6, 2) := by decide +kernel
theorem d_MD_makesOfTwo_84 : decode b_MD_makesOfTwo 84 = .ok (.iadd, 1) := by decide +kernel
theorem d_MD_makesOfTwo_85 : decode b_MD_makesOfTwo 85 = .ok (.aload_n 0, 1) := by decide +kernel
theorem d_MD_makesOfTwo_86 : decode b_MD_makesOfTwo 86 = .ok (.iload_n 1, 1) := by decide +kernel
theorem d_MD_makesOfTwo_87 : decode b_MD_makesOfTwo 87 = .ok (.iload_n 2, 1) := by decide +kernel
theorem d_MD_makesOfTwo_88 : decode b_MD_makesOfTwo 88 = .ok (.iload_n 3, 1) := by decide +kernel
theorem d_MD_makesOfTwo_89 : decode b_MD_makesOfTwo 89 = .ok (.iload 7, 2) := by decide +kernel
theorem d_MD_makesOfTwo_91 : decode b_MD_makesOfTwo 91 = .ok (.iload 4, 2) := by decide +kernel
theorem d_MD_makesOfTwo_93 : decode b_MD_makesOfTwo 93 = .ok (.invokevirtual 107, 3) := by decide +kernel
theorem d_MD_makesOfTwo_96 : decode b_MD_makesOfTwo 96 = .ok (.iastore, 1) := by decide +kernel
theorem d_MD_makesOfTwo_97 : decode b_MD_makesOfTwo 97 = .ok (.iinc 6 1, 3) := by decide +kernel
theorem d_MD_makesOfTwo_100 : decode b_MD_makesOfTwo 100 = .ok (.iinc 7 1, 3) := by decide +kernel
theorem d_MD_makesOfTwo_103 : decode b_MD_makesOfTwo 103 = .ok (.goto (-64), 3) := by decide +kernel
theorem d_MD_makesOfTwo_106 : decode b_MD_makesOfTwo 106 = .ok (.aload_n 0, 1) := by decide +kernel
theorem d_MD_makesOfTwo_107 : decode b_MD_makesOfTwo 107 = .ok (.bipush 8, 2) := by decide +kernel
theorem d_MD_makesOfTwo_109 : decode b_MD_makesOfTwo 109 = .ok (.iload 6, 2) := by decide +kernel
theorem d_MD_makesOfTwo_111 : decode b_MD_makesOfTwo 111 = .ok (.invokevirtual 115, 3) := by decide +kernel
theorem d_MD_makesOfTwo_114 : decode b_MD_makesOfTwo 114 = .ok (.ireturn, 1) := by decide +kernel
theorem d_MD_majority_0 : decode b_MD_majority 0 = .ok (.iconst 0, 1) := by decide +kernel
theorem d_MD_majority_1 : decode b_MD_majority 1 = .ok (.istore_n 3, 1) := by decide +kernel
theorem d_MD_majority_2 : decode b_MD_majority 2 = .ok (.iload_n 3, 1) := by decide +kernel
theorem d_MD_majority_3 : decode b_MD_majority 3 = .ok (.iload_n 2, 1) := by decide +kernel
theorem d_MD_majority_4 : decode b_MD_majority 4 = .ok (.if_icmp .ge 75, 3) := by decide +kernel
theorem d_MD_majority_7 : decode b_MD_majority 7 = .ok (.iconst 0, 1) := by decide +kernel
theorem d_MD_majority_8 : decode b_MD_majority 8 = .ok (.istore 4, 2) := by decide +kernel
theorem d_MD_majority_10 : decode b_MD_majority 10 = .ok (.iconst 0, 1) := by decide +kernel
theorem d_MD_majority_11 : decode b_MD_majority 11 = .ok (.istore 5, 2) := by decide +kernel
theorem d_MD_majority_13 : decode b_MD_majority 13 = .ok (.iload 5, 2) := by decide +kernel
theorem d_MD_majority_15 : decode b_MD_majority 15 = .ok (.iload_n 2, 1) := by decide +kernel
theorem d_MD_majority_16 : decode b_MD_majority 16 = .ok (.if_icmp .ge 40, 3) := by decide +kernel
theorem d_MD_majority_19 : decode b_MD_majority 19 = .ok (.aload_n 0, 1) := by decide +kernel
theorem d_MD_majority_20 : decode b_MD_majority 20 = .ok (.getfield 70, 3) := by decide +kernel
theorem d_MD_majority_23 : decode b_MD_majority 23 = .ok (.iload_n 1, 1) := by decide +kernel
theorem d_MD_majority_24 : decode b_MD_majority 24 = .ok (.iload 5, 2) := by decide +kernel
theorem d_MD_majority_26 : decode b_MD_majority 26 = .ok (.iadd, 1) := by decide +kernel
theorem d_MD_majority_27 : decode b_MD_majority 27 = .ok (.iaload, 1) := by decide +kernel
theorem d_MD_majority_28 : decode b_MD_majority 28 = .ok (.aload_n 0, 1) := by decide +kernel
theorem d_MD_majority_29 : decode b_MD_majority 29 = .ok (.getfield 70, 3) := by decide +kernel
theorem d_MD_majority_32 : decode b_MD_majority 32 = .ok (.iload_n 1, 1) := by decide +kernel
theorem d_MD_majority_33 : decode b_MD_majority 33 = .ok (.iload_n 3, 1) := by decide +kernel
theorem d_MD_majority_34 : decode b_MD_majority 34 = .ok (.iadd, 1) := by decide +kernel
theorem d_MD_majority_35 : decode b_MD_majority 35 = .ok (.iaload, 1) := by decide +kernel
theorem d_MD_majority_36 : decode b_MD_majority 36 = .ok (.if_icmp .ne 10, 3) := by decide +kernel
theorem d_MD_majority_39 : decode b_MD_majority 39 = .ok (.iload 4, 2) := by decide +kernel
theorem d_MD_majority_41 : decode b_MD_majority 41 = .ok (.iconst 1, 1) := by decide +kernel
theorem d_MD_majority_42 : decode b_MD_majority 42 = .ok (.iadd, 1) := by decide +kernel
theorem d_MD_majority_43 : decode b_MD_majority 43 = .ok (.goto 5, 3) := by decide +kernel
theorem d_MD_majority_46 : decode b_MD_majority 46 = .ok (.iload 4, 2) := by decide +kernel
theorem d_MD_majority_48 : decode b_MD_majority 48 = .ok (.istore 4, 2) := by decide +kernel
theorem d_MD_majority_50 : decode b_MD_majority 50 = .ok (.iinc 5 1, 3) := by decide +kernel
theorem d_MD_majority_53 : decode b_MD_majority 53 = .ok (.goto (-40), 3) := by decide +kernel
theorem d_MD_majority_56 : decode b_MD_majority 56 = .ok (.iconst 2, 1) := by decide +kernel
theorem d_MD_majority_57 : decode b_MD_majority 57 = .ok (.iload 4, 2) := by decide +kernel
theorem d_MD_majority_59 : decode b_MD_majority 59 = .ok (.imul, 1) := by decide +kernel
theorem d_MD_majority_60 : decode b_MD_majority 60 = .ok (.iload_n 2, 1) := by decide +kernel
theorem d_MD_majority_61 : decode b_MD_majority 61 = .ok (.if_icmp .le 12, 3) := by decide +kernel
theorem d_MD_majority_64 : decode b_MD_majority 64 = .ok (.aload_n 0, 1) := by decide +kernel
theorem d_MD_majority_65 : decode b_MD_majority 65 = .ok (.getfield 70, 3) := by decide +kernel
theorem d_MD_majority_68 : decode b_MD_majority 68 = .ok (.iload_n 1, 1) := by decide +kernel
theorem d_MD_majority_69 : decode b_MD_majority 69 = .ok (.iload_n 3, 1) := by decide +kernel
theorem d_MD_majority_70 : decode b_MD_majority 70 = .ok (.iadd, 1) := by decide +kernel
theorem d_MD_majority_71 : decode b_MD_majority 71 = .ok (.iaload, 1) := by decide +kernel
theorem d_MD_majority_72 : decode b_MD_majority 72 = .ok (.ireturn, 1) := by decide +kernel
theorem d_MD_majority_73 : decode b_MD_majority 73 = .ok (.iinc 3 1, 3) := by decide +kernel
theorem d_MD_majority_76 : decode b_MD_majority 76 = .ok (.goto (-74), 3) := by decide +kernel
theorem d_MD_majority_79 : decode b_MD_majority 79 = .ok (.iconst 0, 1) := by decide +kernel
theorem d_MD_majority_80 : decode b_MD_majority 80 = .ok (.ireturn, 1) := by decide +kernel
theorem d_MD_tasks_0 : decode b_MD_tasks 0 = .ok (.iconst 0, 1) := by decide +kernel
theorem d_MD_tasks_1 : decode b_MD_tasks 1 = .ok (.istore_n 1, 1) := by decide +kernel
theorem d_MD_tasks_2 : decode b_MD_tasks 2 = .ok (.iload_n 1, 1) := by decide +kernel
theorem d_MD_tasks_3 : decode b_MD_tasks 3 = .ok (.aload_n 0, 1) := by decide +kernel
theorem d_MD_tasks_4 : decode b_MD_tasks 4 = .ok (.getfield 73, 3) := by decide +kernel
theorem d_MD_tasks_7 : decode b_MD_tasks 7 = .ok (.if_icmp .ge 18, 3) := by decide +kernel
theorem d_MD_tasks_10 : decode b_MD_tasks 10 = .ok (.aload_n 0, 1) := by decide +kernel
theorem d_MD_tasks_11 : decode b_MD_tasks 11 = .ok (.getfield 19, 3) := by decide +kernel
theorem d_MD_tasks_14 : decode b_MD_tasks 14 = .ok (.iload_n 1, 1) := by decide +kernel
theorem d_MD_tasks_15 : decode b_MD_tasks 15 = .ok (.iaload, 1) := by decide +kernel
theorem d_MD_tasks_16 : decode b_MD_tasks 16 = .ok (.ifCond .eq 9, 3) := by decide +kernel
theorem d_MD_tasks_19 : decode b_MD_tasks 19 = .ok (.iinc 1 1, 3) := by decide +kernel
theorem d_MD_tasks_22 : decode b_MD_tasks 22 = .ok (.goto (-20), 3) := by decide +kernel
theorem d_MD_tasks_25 : decode b_MD_tasks 25 = .ok (.iload_n 1, 1) := by decide +kernel
theorem d_MD_tasks_26 : decode b_MD_tasks 26 = .ok (.aload_n 0, 1) := by decide +kernel
theorem d_MD_tasks_27 : decode b_MD_tasks 27 = .ok (.getfield 73, 3) := by decide +kernel
theorem d_MD_tasks_30 : decode b_MD_tasks 30 = .ok (.if_icmp .ge 10, 3) := by decide +kernel
theorem d_MD_tasks_33 : decode b_MD_tasks 33 = .ok (.bipush 7, 2) := by decide +kernel
theorem d_MD_tasks_35 : decode b_MD_tasks 35 = .ok (.iload_n 1, 1) := by decide +kernel
theorem d_MD_tasks_36 : decode b_MD_tasks 36 = .ok (.imul, 1) := by decide +kernel
theorem d_MD_tasks_37 : decode b_MD_tasks 37 = .ok (.goto 5, 3) := by decide +kernel
theorem d_MD_tasks_40 : decode b_MD_tasks 40 = .ok (.bipush 49, 2) := by decide +kernel
theorem d_MD_tasks_42 : decode b_MD_tasks 42 = .ok (.istore_n 2, 1) := by decide +kernel
theorem d_MD_tasks_43 : decode b_MD_tasks 43 = .ok (.iconst 0, 1) := by decide +kernel
theorem d_MD_tasks_44 : decode b_MD_tasks 44 = .ok (.istore_n 3, 1) := by decide +kernel
theorem d_MD_tasks_45 : decode b_MD_tasks 45 = .ok (.iload_n 3, 1) := by decide +kernel
theorem d_MD_tasks_46 : decode b_MD_tasks 46 = .ok (.iconst 4, 1) := by decide +kernel
theorem d_MD_tasks_47 : decode b_MD_tasks 47 = .ok (.if_icmp .ge 98, 3) := by decide +kernel
theorem d_MD_tasks_50 : decode b_MD_tasks 50 = .ok (.aload_n 0, 1) := by decide +kernel
theorem d_MD_tasks_51 : decode b_MD_tasks 51 = .ok (.iload_n 3, 1) := by decide +kernel
theorem d_MD_tasks_52 : decode b_MD_tasks 52 = .ok (.invokevirtual 145, 3) := by decide +kernel
theorem d_MD_tasks_55 : decode b_MD_tasks 55 = .ok (.ifCond .eq 84, 3) := by decide +kernel
theorem d_MD_tasks_58 : decode b_MD_tasks 58 = .ok (.iconst 0, 1) := by decide +kernel
theorem d_MD_tasks_59 : decode b_MD_tasks 59 = .ok (.istore 4, 2) := by decide +kernel
theorem d_MD_tasks_61 : decode b_MD_tasks 61 = .ok (.iload 4, 2) := by decide +kernel
theorem d_MD_tasks_63 : decode b_MD_tasks 63 = .ok (.aload_n 0, 1) := by decide +kernel
theorem d_MD_tasks_64 : decode b_MD_tasks 64 = .ok (.getfield 73, 3) := by decide +kernel
theorem d_MD_tasks_67 : decode b_MD_tasks 67 = .ok (.if_icmp .ge 30, 3) := by decide +kernel
theorem d_MD_tasks_70 : decode b_MD_tasks 70 = .ok (.aload_n 0, 1) := by decide +kernel
theorem d_MD_tasks_71 : decode b_MD_tasks 71 = .ok (.getfield 34, 3) := by decide +kernel
theorem d_MD_tasks_74 : decode b_MD_tasks 74 = .ok (.iload 4, 2) := by decide +kernel
theorem d_MD_tasks_76 : decode b_MD_tasks 76 = .ok (.aload_n 0, 1) := by decide +kernel
theorem d_MD_tasks_77 : decode b_MD_tasks 77 = .ok (.iload_n 3, 1) := by decide +kernel
theorem d_MD_tasks_78 : decode b_MD_tasks 78 = .ok (.bipush 7, 2) := by decide +kernel
theorem d_MD_tasks_80 : decode b_MD_tasks 80 = .ok (.iload 4, 2) := by decide +kernel
theorem d_MD_tasks_82 : decode b_MD_tasks 82 = .ok (.imul, 1) := by decide +kernel
theorem d_MD_tasks_83 : decode b_MD_tasks 83 = .ok (.iconst 4, 1) := by decide +kernel
theorem d_MD_tasks_84 : decode b_MD_tasks 84 = .ok (.iload 4, 2) := by decide +kernel
theorem d_MD_tasks_86 : decode b_MD_tasks 86 = .ok (.imul, 1) := by decide +kernel
theorem d_MD_tasks_87 : decode b_MD_tasks 87 = .ok (.invokevirtual 148, 3) := by decide +kernel
theorem d_MD_tasks_90 : decode b_MD_tasks 90 = .ok (.iastore, 1) := by decide +kernel
theorem d_MD_tasks_91 : decode b_MD_tasks 91 = .ok (.iinc 4 1, 3) := by decide +kernel
theorem d_MD_tasks_94 : decode b_MD_tasks 94 = .ok (.goto (-33), 3) := by decide +kernel
theorem d_MD_tasks_97 : decode b_MD_tasks 97 = .ok (.iconst 0, 1) := by decide +kernel
theorem d_MD_tasks_98 : decode b_MD_tasks 98 = .ok (.istore 4, 2) := by decide +kernel
theorem d_MD_tasks_100 : decode b_MD_tasks 100 = .ok (.iload 4, 2) := by decide +kernel
theorem d_MD_tasks_102 : decode b_MD_tasks 102 = .ok (.aload_n 0, 1) := by decide +kernel
theorem d_MD_tasks_103 : decode b_MD_tasks 103 = .ok (.getfield 73, 3) := by decide +kernel
theorem d_MD_tasks_106 : decode b_MD_tasks 106 = .ok (.if_icmp .ge 16, 3) := by decide +kernel
theorem d_MD_tasks_109 : decode b_MD_tasks 109 = .ok (.aload_n 0, 1) := by decide +kernel
theorem d_MD_tasks_110 : decode b_MD_tasks 110 = .ok (.iload 4, 2) := by decide +kernel
theorem d_MD_tasks_112 : decode b_MD_tasks 112 = .ok (.iload_n 3, 1) := by decide +kernel
theorem d_MD_tasks_113 : decode b_MD_tasks 113 = .ok (.invokevirtual 151, 3) := by decide +kernel
theorem d_MD_tasks_116 : decode b_MD_tasks 116 = .ok (.iinc 4 1, 3) := by decide +kernel
theorem d_MD_tasks_119 : decode b_MD_tasks 119 = .ok (.goto (-19), 3) := by decide +kernel
theorem d_MD_tasks_122 : decode b_MD_tasks 122 = .ok (.aload_n 0, 1) := by decide +kernel
theorem d_MD_tasks_123 : decode b_MD_tasks 123 = .ok (.getfield 37, 3) := by decide +kernel
theorem d_MD_tasks_126 : decode b_MD_tasks 126 = .ok (.bipush 28, 2) := by decide +kernel
theorem d_MD_tasks_128 : decode b_MD_tasks 128 = .ok (.iload_n 3, 1) := by decide +kernel
theorem d_MD_tasks_129 : decode b_MD_tasks 129 = .ok (.iadd, 1) := by decide +kernel
theorem d_MD_tasks_130 : decode b_MD_tasks 130 = .ok (.aload_n 0, 1) := by decide +kernel
theorem d_MD_tasks_131 : decode b_MD_tasks 131 = .ok (.iload_n 3, 1) := by decide +kernel
theorem d_MD_tasks_132 : decode b_MD_tasks 132 = .ok (.iload_n 2, 1) := by decide +kernel
theorem d_MD_tasks_133 : decode b_MD_tasks 133 = .ok (.bipush 28, 2) := by decide +kernel
theorem d_MD_tasks_135 : decode b_MD_tasks 135 = .ok (.invokevirtual 148, 3) := by decide +kernel
theorem d_MD_tasks_138 : decode b_MD_tasks 138 = .ok (.iastore, 1) := by decide +kernel
theorem d_MD_tasks_139 : decode b_MD_tasks 139 = .ok (.iinc 3 1, 3) := by decide +kernel
theorem d_MD_tasks_142 : decode b_MD_tasks 142 = .ok (.goto (-97), 3) := by decide +kernel
theorem d_MD_tasks_145 : decode b_MD_tasks 145 = .ok (.return_, 1) := by decide +kernel
theorem d_MD_isDue_0 : decode b_MD_isDue 0 = .ok (.aload_n 0, 1) := by decide +kernel
theorem d_MD_isDue_1 : decode b_MD_isDue 1 = .ok (.getfield 61, 3) := by decide +kernel
theorem d_MD_isDue_4 : decode b_MD_isDue 4 = .ok (.iload_n 1, 1) := by decide +kernel
theorem d_MD_isDue_5 : decode b_MD_isDue 5 = .ok (.iaload, 1) := by decide +kernel
theorem d_MD_isDue_6 : decode b_MD_isDue 6 = .ok (.ifCond .le 27, 3) := by decide +kernel
theorem d_MD_isDue_9 : decode b_MD_isDue 9 = .ok (.aload_n 0, 1) := by decide +kernel
theorem d_MD_isDue_10 : decode b_MD_isDue 10 = .ok (.getfield 94, 3) := by decide +kernel
theorem d_MD_isDue_13 : decode b_MD_isDue 13 = .ok (.aload_n 0, 1) := by decide +kernel
theorem d_MD_isDue_14 : decode b_MD_isDue 14 = .ok (.getfield 61, 3) := by decide +kernel
theorem d_MD_isDue_17 : decode b_MD_isDue 17 = .ok (.iload_n 1, 1) := by decide +kernel
theorem d_MD_isDue_18 : decode b_MD_isDue 18 = .ok (.iaload, 1) := by decide +kernel
theorem d_MD_isDue_19 : decode b_MD_isDue 19 = .ok (.irem, 1) := by decide +kernel
theorem d_MD_isDue_20 : decode b_MD_isDue 20 = .ok (.aload_n 0, 1) := by decide +kernel
theorem d_MD_isDue_21 : decode b_MD_isDue 21 = .ok (.getfield 64, 3) := by decide +kernel
theorem d_MD_isDue_24 : decode b_MD_isDue 24 = .ok (.iload_n 1, 1) := by decide +kernel
theorem d_MD_isDue_25 : decode b_MD_isDue 25 = .ok (.iaload, 1) := by decide +kernel
theorem d_MD_isDue_26 : decode b_MD_isDue 26 = .ok (.if_icmp .ne 7, 3) := by decide +kernel
theorem d_MD_isDue_29 : decode b_MD_isDue 29 = .ok (.iconst 1, 1) := by decide +kernel
theorem d_MD_isDue_30 : decode b_MD_isDue 30 = .ok (.goto 4, 3) := by decide +kernel
theorem d_MD_isDue_33 : decode b_MD_isDue 33 = .ok (.iconst 0, 1) := by decide +kernel
theorem d_MD_isDue_34 : decode b_MD_isDue 34 = .ok (.ireturn, 1) := by decide +kernel
theorem d_MD_play_0 : decode b_MD_play 0 = .ok (.aload_n 0, 1) := by decide +kernel
theorem d_MD_play_1 : decode b_MD_play 1 = .ok (.iconst 0, 1) := by decide +kernel
theorem d_MD_play_2 : decode b_MD_play 2 = .ok (.putfield 129, 3) := by decide +kernel
theorem d_MD_play_5 : decode b_MD_play 5 = .ok (.iconst 0, 1) := by decide +kernel
theorem d_MD_play_6 : decode b_MD_play 6 = .ok (.istore 4, 2) := by decide +kernel
theorem d_MD_play_8 : decode b_MD_play 8 = .ok (.iload 4, 2) := by decide +kernel
theorem d_MD_play_10 : decode b_MD_play 10 = .ok (.aload_n 0, 1) := by decide +kernel
theorem d_MD_play_11 : decode b_MD_play 11 = .ok (.getfield 58, 3) := by decide +kernel
theorem d_MD_play_14 : decode b_MD_play 14 = .ok (.iload_n 1, 1) := by decide +kernel
theorem d_MD_play_15 : decode b_MD_play 15 = .ok (.iaload, 1) := by decide +kernel
theorem d_MD_play_16 : decode b_MD_play 16 = .ok (.if_icmp .ge 291, 3) := by decide +kernel
theorem d_MD_play_19 : decode b_MD_play 19 = .ok (.aload_n 0, 1) := by decide +kernel
theorem d_MD_play_20 : decode b_MD_play 20 = .ok (.getfield 52, 3) := by decide +kernel
theorem d_MD_play_23 : decode b_MD_play 23 = .ok (.bipush 12, 2) := by decide +kernel
theorem d_MD_play_25 : decode b_MD_play 25 = .ok (.iload_n 1, 1) := by decide +kernel
theorem d_MD_play_26 : decode b_MD_play 26 = .ok (.imul, 1) := by decide +kernel
theorem d_MD_play_27 : decode b_MD_play 27 = .ok (.iload 4, 2) := by decide +kernel
theorem d_MD_play_29 : decode b_MD_play 29 = .ok (.iadd, 1) := by decide +kernel
theorem d_MD_play_30 : decode b_MD_play 30 = .ok (.iaload, 1) := by decide +kernel
theorem d_MD_play_31 : decode b_MD_play 31 = .ok (.istore 5, 2) := by decide +kernel
theorem d_MD_play_33 : decode b_MD_play 33 = .ok (.aload_n 0, 1) := by decide +kernel
theorem d_MD_play_34 : decode b_MD_play 34 = .ok (.getfield 55, 3) := by decide +kernel
theorem d_MD_play_37 : decode b_MD_play 37 = .ok (.bipush 12, 2) := by decide +kernel
theorem d_MD_play_39 : decode b_MD_play 39 = .ok (.iload_n 1, 1) := by decide +kernel
theorem d_MD_play_40 : decode b_MD_play 40 = .ok (.imul, 1) := by decide +kernel
theorem d_MD_play_41 : decode b_MD_play 41 = .ok (.iload 4, 2) := by decide +kernel
theorem d_MD_play_43 : decode b_MD_play 43 = .ok (.iadd, 1) := by decide +kernel
theorem d_MD_play_44 : decode b_MD_play 44 = .ok (.iaload, 1) := by decide +kernel
theorem d_MD_play_45 : decode b_MD_play 45 = .ok (.istore 6, 2) := by decide +kernel
theorem d_MD_play_47 : decode b_MD_play 47 = .ok (.iinc 4 1, 3) := by decide +kernel
theorem d_MD_play_50 : decode b_MD_play 50 = .ok (.iload 5, 2) := by decide +kernel
theorem d_MD_play_52 : decode b_MD_play 52 = .ok (.iconst 3, 1) := by decide +kernel
theorem d_MD_play_53 : decode b_MD_play 53 = .ok (.if_icmp .ge 7, 3) := by decide +kernel
theorem d_MD_play_56 : decode b_MD_play 56 = .ok (.iconst 0, 1) := by decide +kernel
theorem d_MD_play_57 : decode b_MD_play 57 = .ok (.goto 15, 3) := by decide +kernel
theorem d_MD_play_60 : decode b_MD_play 60 = .ok (.iload 5, 2) := by decide +kernel
theorem d_MD_play_62 : decode b_MD_play 62 = .ok (.bipush 8, 2) := by decide +kernel
theorem d_MD_play_64 : decode b_MD_play 64 = .ok (.if_icmp .ge 7, 3) := by decide +kernel
theorem d_MD_play_67 : decode b_MD_play 67 = .ok (.iconst 2, 1) := by decide +kernel
theorem d_MD_play_68 : decode b_MD_play 68 = .ok (.goto 4, 3) := by decide +kernel
theorem d_MD_play_71 : decode b_MD_play 71 = .ok (.iconst 1, 1) := by decide +kernel
theorem d_MD_play_72 : decode b_MD_play 72 = .ok (.istore 7, 2) := by decide +kernel
theorem d_MD_play_74 : decode b_MD_play 74 = .ok (.aload_n 0, 1) := by decide +kernel
theorem d_MD_play_75 : decode b_MD_play 75 = .ok (.getfield 129, 3) := by decide +kernel
theorem d_MD_play_78 : decode b_MD_play 78 = .ok (.iload 7, 2) := by decide +kernel
theorem d_MD_play_80 : decode b_MD_play 80 = .ok (.if_icmp .ge 6, 3) := by decide +kernel
theorem d_MD_play_83 : decode b_MD_play 83 = .ok (.ldc 132, 2) := by decide +kernel
theorem d_MD_play_85 : decode b_MD_play 85 = .ok (.ireturn, 1) := by decide +kernel
theorem d_MD_play_86 : decode b_MD_play 86 = .ok (.aload_n 0, 1) := by decide +kernel
theorem d_MD_play_87 : decode b_MD_play 87 = .ok (.getfield 129, 3) := by decide +kernel
theorem d_MD_play_90 : decode b_MD_play 90 = .ok (.ifCond .le 17, 3) := by decide +kernel
theorem d_MD_play_93 : decode b_MD_play 93 = .ok (.aload_n 0, 1) := by decide +kernel
theorem d_MD_play_94 : decode b_MD_play 94 = .ok (.getfield 67, 3) := by decide +kernel
theorem d_MD_play_97 : decode b_MD_play 97 = .ok (.aload_n 0, 1) := by decide +kernel
theorem d_MD_play_98 : decode b_MD_play 98 = .ok (.getfield 129, 3) := by decide +kernel
theorem d_MD_play_101 : decode b_MD_play 101 = .ok (.iconst 1, 1) := by decide +kernel
theorem d_MD_play_102 : decode b_MD_play 102 = .ok (.isub, 1) := by decide +kernel
theorem d_MD_play_103 : decode b_MD_play 103 = .ok (.iaload, 1) := by decide +kernel
theorem d_MD_play_104 : decode b_MD_play 104 = .ok (.goto 4, 3) := by decide +kernel
theorem d_MD_play_107 : decode b_MD_play 107 = .ok (.iconst 0, 1) := by decide +kernel
theorem d_MD_play_108 : decode b_MD_play 108 = .ok (.istore 8, 2) := by decide +kernel
theorem d_MD_play_110 : decode b_MD_play 110 = .ok (.aload_n 0, 1) := by decide +kernel
theorem d_MD_play_111 : decode b_MD_play 111 = .ok (.getfield 129, 3) := by decide +kernel
theorem d_MD_play_114 : decode b_MD_play 114 = .ok (.iconst 1, 1) := by decide +kernel
theorem d_MD_play_115 : decode b_MD_play 115 = .ok (.if_icmp .le 17, 3) := by decide +kernel
theorem d_MD_play_118 : decode b_MD_play 118 = .ok (.aload_n 0, 1) := by decide +kernel
theorem d_MD_play_119 : decode b_MD_play 119 = .ok (.getfield 67, 3) := by decide +kernel
theorem d_MD_play_122 : decode b_MD_play 122 = .ok (.aload_n 0, 1) := by decide +kernel
theorem d_MD_play_123 : decode b_MD_play 123 = .ok (.getfield 129, 3) := by decide +kernel
theorem d_MD_play_126 : decode b_MD_play 126 = .ok (.iconst 2, 1) := by decide +kernel
theorem d_MD_play_127 : decode b_MD_play 127 = .ok (.isub, 1) := by decide +kernel
theorem d_MD_play_128 : decode b_MD_play 128 = .ok (.iaload, 1) := by decide +kernel
theorem d_MD_play_129 : decode b_MD_play 129 = .ok (.goto 4, 3) := by decide +kernel
theorem d_MD_play_132 : decode b_MD_play 132 = .ok (.iconst 0, 1) := by decide +kernel
theorem d_MD_play_133 : decode b_MD_play 133 = .ok (.istore 9, 2) := by decide +kernel
theorem d_MD_play_135 : decode b_MD_play 135 = .ok (.iload 5, 2) := by decide +kernel
theorem d_MD_play_137 : decode b_MD_play 137 = .ok (.bipush 6, 2) := by decide +kernel
theorem d_MD_play_139 : decode b_MD_play 139 = .ok (.if_icmp .ne 11, 3) := by decide +kernel
theorem d_MD_play_142 : decode b_MD_play 142 = .ok (.iload 8, 2) := by decide +kernel
theorem d_MD_play_144 : decode b_MD_play 144 = .ok (.ifCond .ne 6, 3) := by decide +kernel
theorem d_MD_play_147 : decode b_MD_play 147 = .ok (.ldc 133, 2) := by decide +kernel
theorem d_MD_play_149 : decode b_MD_play 149 = .ok (.ireturn, 1) := by decide +kernel
theorem d_MD_play_150 : decode b_MD_play 150 = .ok (.iload 5, 2) := by decide +kernel
theorem d_MD_play_152 : decode b_MD_play 152 = .ok (.iconst 3, 1) := by decide +kernel
theorem d_MD_play_153 : decode b_MD_play 153 = .ok (.if_icmp .lt 10, 3) := by decide +kernel
theorem d_MD_play_156 : decode b_MD_play 156 = .ok (.iload 5, 2) := by decide +kernel
theorem d_MD_play_158 : decode b_MD_play 158 = .ok (.bipush 9, 2) := by decide +kernel
theorem d_MD_play_160 : decode b_MD_play 160 = .ok (.if_icmp .ne 15, 3) := by decide +kernel
theorem d_MD_play_163 : decode b_MD_play 163 = .ok (.aload_n 0, 1) := by decide +kernel
theorem d_MD_play_164 : decode b_MD_play 164 = .ok (.getfield 129, 3) := by decide +kernel
theorem d_MD_play_167 : decode b_MD_play 167 = .ok (.bipush 6, 2) := by decide +kernel
theorem d_MD_play_169 : decode b_MD_play 169 = .ok (.if_icmp .ne 6, 3) := by decide +kernel
theorem d_MD_play_172 : decode b_MD_play 172 = .ok (.ldc 134, 2) := by decide +kernel
theorem d_MD_play_174 : decode b_MD_play 174 = .ok (.ireturn, 1) := by decide +kernel
theorem d_MD_play_175 : decode b_MD_play 175 = .ok (.iload 5, 2) := by decide +kernel
theorem d_MD_play_177 : decode b_MD_play 177 = .ok (.bipush 8, 2) := by decide +kernel
theorem d_MD_play_179 : decode b_MD_play 179 = .ok (.if_icmp .ne 33, 3) := by decide +kernel
theorem d_MD_play_182 : decode b_MD_play 182 = .ok (.aload_n 0, 1) := by decide +kernel
theorem d_MD_play_183 : decode b_MD_play 183 = .ok (.dup, 1) := by decide +kernel
theorem d_MD_play_184 : decode b_MD_play 184 = .ok (.getfield 129, 3) := by decide +kernel
theorem d_MD_play_187 : decode b_MD_play 187 = .ok (.iconst 1, 1) := by decide +kernel
theorem d_MD_play_188 : decode b_MD_play 188 = .ok (.isub, 1) := by decide +kernel
theorem d_MD_play_189 : decode b_MD_play 189 = .ok (.putfield 129, 3) := by decide +kernel
theorem d_MD_play_192 : decode b_MD_play 192 = .ok (.iload 8, 2) := by decide +kernel
theorem d_MD_play_194 : decode b_MD_play 194 = .ok (.ifCond .ne 11, 3) := by decide +kernel
theorem d_MD_play_197 : decode b_MD_play 197 = .ok (.iload 4, 2) := by decide +kernel
theorem d_MD_play_199 : decode b_MD_play 199 = .ok (.iload 6, 2) := by decide +kernel
theorem d_MD_play_201 : decode b_MD_play 201 = .ok (.iadd, 1) := by decide +kernel
theorem d_MD_play_202 : decode b_MD_play 202 = .ok (.goto 5, 3) := by decide +kernel
theorem d_MD_play_205 : decode b_MD_play 205 = .ok (.iload 4, 2) := by decide +kernel
theorem d_MD_play_207 : decode b_MD_play 207 = .ok (.istore 4, 2) := by decide +kernel
theorem d_MD_play_209 : decode b_MD_play 209 = .ok (.goto 95, 3) := by decide +kernel
theorem d_MD_play_212 : decode b_MD_play 212 = .ok (.iload 7, 2) := by decide +kernel
theorem d_MD_play_214 : decode b_MD_play 214 = .ok (.iconst 2, 1) := by decide +kernel
theorem d_MD_play_215 : decode b_MD_play 215 = .ok (.if_icmp .ne 33, 3) := by decide +kernel
theorem d_MD_play_218 : decode b_MD_play 218 = .ok (.iload 5, 2) := by decide +kernel
theorem d_MD_play_220 : decode b_MD_play 220 = .ok (.iload 9, 2) := by decide +kernel
theorem d_MD_play_222 : decode b_MD_play 222 = .ok (.iload 8, 2) := by decide +kernel
theorem d_MD_play_224 : decode b_MD_play 224 = .ok (.invokestatic 135, 3) := by decide +kernel
theorem d_MD_play_227 : decode b_MD_play 227 = .ok (.istore 10, 2) := by decide +kernel
theorem d_MD_play_229 : decode b_MD_play 229 = .ok (.aload_n 0, 1) := by decide +kernel
theorem d_MD_play_230 : decode b_MD_play 230 = .ok (.dup, 1) := by decide +kernel
theorem d_MD_play_231 : decode b_MD_play 231 = .ok (.getfield 129, 3) := by decide +kernel
theorem d_MD_play_234 : decode b_MD_play 234 = .ok (.iconst 2, 1) := by decide +kernel
theorem d_MD_play_235 : decode b_MD_play 235 = .ok (.isub, 1) := by decide +kernel
theorem d_MD_play_236 : decode b_MD_play 236 = .ok (.putfield 129, 3) := by decide +kernel
theorem d_MD_play_239 : decode b_MD_play 239 = .ok (.aload_n 0, 1) := by decide +kernel
theorem d_MD_play_240 : decode b_MD_play 240 = .ok (.iload 10, 2) := by decide +kernel
theorem d_MD_play_242 : decode b_MD_play 242 = .ok (.invokevirtual 138, 3) := by decide +kernel
theorem d_MD_play_245 : decode b_MD_play 245 = .ok (.goto 59, 3) := by decide +kernel
theorem d_MD_play_248 : decode b_MD_play 248 = .ok (.iload 5, 2) := by decide +kernel
theorem d_MD_play_250 : decode b_MD_play 250 = .ok (.ifCond .ne 8, 3) := by decide +kernel
theorem d_MD_play_253 : decode b_MD_play 253 = .ok (.iload 6, 2) := by decide +kernel
theorem d_MD_play_255 : decode b_MD_play 255 = .ok (.goto 41, 3) := by decide +kernel
theorem d_MD_play_258 : decode b_MD_play 258 = .ok (.iload 5, 2) := by decide +kernel
theorem d_MD_play_260 : decode b_MD_play 260 = .ok (.iconst 1, 1) := by decide +kernel
theorem d_MD_play_261 : decode b_MD_play 261 = .ok (.if_icmp .ne 15, 3) := by decide +kernel
theorem d_MD_play_264 : decode b_MD_play 264 = .ok (.aload_n 0, 1) := by decide +kernel
theorem d_MD_play_265 : decode b_MD_play 265 = .ok (.getfield 40, 3) := by decide +kernel
theorem d_MD_play_268 : decode b_MD_play 268 = .ok (.iload_n 2, 1) := by decide +kernel
theorem d_MD_play_269 : decode b_MD_play 269 = .ok (.iload 6, 2) := by decide +kernel
theorem d_MD_play_271 : decode b_MD_play 271 = .ok (.iadd, 1) := by decide +kernel
theorem d_MD_play_272 : decode b_MD_play 272 = .ok (.iaload, 1) := by decide +kernel
theorem d_MD_play_273 : decode b_MD_play 273 = .ok (.goto 23, 3) := by decide +kernel
theorem d_MD_play_276 : decode b_MD_play 276 = .ok (.iload 5, 2) := by decide +kernel
theorem d_MD_play_278 : decode b_MD_play 278 = .ok (.iconst 2, 1) := by decide +kernel
theorem d_MD_play_279 : decode b_MD_play 279 = .ok (.if_icmp .ne 15, 3) := by decide +kernel
theorem d_MD_play_282 : decode b_MD_play 282 = .ok (.aload_n 0, 1) := by decide +kernel
theorem d_MD_play_283 : decode b_MD_play 283 = .ok (.getfield 37, 3) := by decide +kernel
theorem d_MD_play_286 : decode b_MD_play 286 = .ok (.iload_n 3, 1) := by decide +kernel
theorem d_MD_play_287 : decode b_MD_play 287 = .ok (.iload 6, 2) := by decide +kernel
theorem d_MD_play_289 : decode b_MD_play 289 = .ok (.iadd, 1) := by decide +kernel
theorem d_MD_play_290 : decode b_MD_play 290 = .ok (.iaload, 1) := by decide +kernel
theorem d_MD_play_291 : decode b_MD_play 291 = .ok (.goto 5, 3) := by decide +kernel
theorem d_MD_play_294 : decode b_MD_play 294 = .ok (.iload 8, 2) := by decide +kernel
theorem d_MD_play_296 : decode b_MD_play 296 = .ok (.istore 10, 2) := by decide +kernel
theorem d_MD_play_298 : decode b_MD_play 298 = .ok (.aload_n 0, 1) := by decide +kernel
theorem d_MD_play_299 : decode b_MD_play 299 = .ok (.iload 10, 2) := by decide +kernel
theorem d_MD_play_301 : decode b_MD_play 301 = .ok (.invokevirtual 138, 3) := by decide +kernel
theorem d_MD_play_304 : decode b_MD_play 304 = .ok (.goto (-296), 3) := by decide +kernel
theorem d_MD_play_307 : decode b_MD_play 307 = .ok (.aload_n 0, 1) := by decide +kernel
theorem d_MD_play_308 : decode b_MD_play 308 = .ok (.getfield 129, 3) := by decide +kernel
theorem d_MD_play_311 : decode b_MD_play 311 = .ok (.ifCond .le 17, 3) := by decide +kernel
theorem d_MD_play_314 : decode b_MD_play 314 = .ok (.aload_n 0, 1) := by decide +kernel
theorem d_MD_play_315 : decode b_MD_play 315 = .ok (.getfield 67, 3) := by decide +kernel
theorem d_MD_play_318 : decode b_MD_play 318 = .ok (.aload_n 0, 1) := by decide +kernel
theorem d_MD_play_319 : decode b_MD_play 319 = .ok (.getfield 129, 3) := by decide +kernel
theorem d_MD_play_322 : decode b_MD_play 322 = .ok (.iconst 1, 1) := by decide +kernel
theorem d_MD_play_323 : decode b_MD_play 323 = .ok (.isub, 1) := by decide +kernel
theorem d_MD_play_324 : decode b_MD_play 324 = .ok (.iaload, 1) := by decide +kernel
theorem d_MD_play_325 : decode b_MD_play 325 = .ok (.goto 5, 3) := by decide +kernel
theorem d_MD_play_328 : decode b_MD_play 328 = .ok (.ldc 132, 2) := by decide +kernel
theorem d_MD_play_330 : decode b_MD_play 330 = .ok (.ireturn, 1) := by decide +kernel
theorem d_MD_two_0 : decode b_MD_two 0 = .ok (.iload_n 0, 1) := by decide +kernel
theorem d_MD_two_1 : decode b_MD_two 1 = .ok (.tableswitch 49 3 6 #[31, 35, 39, 43], 31) := by decide +kernel
theorem d_MD_two_32 : decode b_MD_two 32 = .ok (.iload_n 1, 1) := by decide +kernel
theorem d_MD_two_33 : decode b_MD_two 33 = .ok (.iload_n 2, 1) := by decide +kernel
theorem d_MD_two_34 : decode b_MD_two 34 = .ok (.iadd, 1) := by decide +kernel
theorem d_MD_two_35 : decode b_MD_two 35 = .ok (.ireturn, 1) := by decide +kernel
theorem d_MD_two_36 : decode b_MD_two 36 = .ok (.iload_n 1, 1) := by decide +kernel
theorem d_MD_two_37 : decode b_MD_two 37 = .ok (.iload_n 2, 1) := by decide +kernel
theorem d_MD_two_38 : decode b_MD_two 38 = .ok (.isub, 1) := by decide +kernel
theorem d_MD_two_39 : decode b_MD_two 39 = .ok (.ireturn, 1) := by decide +kernel
theorem d_MD_two_40 : decode b_MD_two 40 = .ok (.iload_n 1, 1) := by decide +kernel
theorem d_MD_two_41 : decode b_MD_two 41 = .ok (.iload_n 2, 1) := by decide +kernel
theorem d_MD_two_42 : decode b_MD_two 42 = .ok (.imul, 1) := by decide +kernel
theorem d_MD_two_43 : decode b_MD_two 43 = .ok (.ireturn, 1) := by decide +kernel
theorem d_MD_two_44 : decode b_MD_two 44 = .ok (.iload_n 1, 1) := by decide +kernel
theorem d_MD_two_45 : decode b_MD_two 45 = .ok (.iload_n 2, 1) := by decide +kernel
theorem d_MD_two_46 : decode b_MD_two 46 = .ok (.invokestatic 126, 3) := by decide +kernel
theorem d_MD_two_49 : decode b_MD_two 49 = .ok (.ireturn, 1) := by decide +kernel
theorem d_MD_two_50 : decode b_MD_two 50 = .ok (.iload_n 1, 1) := by decide +kernel
theorem d_MD_two_51 : decode b_MD_two 51 = .ok (.iload_n 2, 1) := by decide +kernel
theorem d_MD_two_52 : decode b_MD_two 52 = .ok (.if_icmp .ge 7, 3) := by decide +kernel
theorem d_MD_two_55 : decode b_MD_two 55 = .ok (.iconst 1, 1) := by decide +kernel
theorem d_MD_two_56 : decode b_MD_two 56 = .ok (.goto 4, 3) := by decide +kernel
theorem d_MD_two_59 : decode b_MD_two 59 = .ok (.iconst 0, 1) := by decide +kernel
theorem d_MD_two_60 : decode b_MD_two 60 = .ok (.ireturn, 1) := by decide +kernel
theorem d_MD_down_0 : decode b_MD_down 0 = .ok (.iload_n 0, 1) := by decide +kernel
theorem d_MD_down_1 : decode b_MD_down 1 = .ok (.iload_n 1, 1) := by decide +kernel
theorem d_MD_down_2 : decode b_MD_down 2 = .ok (.idiv, 1) := by decide +kernel
theorem d_MD_down_3 : decode b_MD_down 3 = .ok (.istore_n 2, 1) := by decide +kernel
theorem d_MD_down_4 : decode b_MD_down 4 = .ok (.iload_n 0, 1) := by decide +kernel
theorem d_MD_down_5 : decode b_MD_down 5 = .ok (.iload_n 1, 1) := by decide +kernel
theorem d_MD_down_6 : decode b_MD_down 6 = .ok (.irem, 1) := by decide +kernel
theorem d_MD_down_7 : decode b_MD_down 7 = .ok (.ifCond .eq 30, 3) := by decide +kernel
theorem d_MD_down_10 : decode b_MD_down 10 = .ok (.iload_n 0, 1) := by decide +kernel
theorem d_MD_down_11 : decode b_MD_down 11 = .ok (.ifCond .ge 7, 3) := by decide +kernel
theorem d_MD_down_14 : decode b_MD_down 14 = .ok (.iconst 1, 1) := by decide +kernel
theorem d_MD_down_15 : decode b_MD_down 15 = .ok (.goto 4, 3) := by decide +kernel
theorem d_MD_down_18 : decode b_MD_down 18 = .ok (.iconst 0, 1) := by decide +kernel
theorem d_MD_down_19 : decode b_MD_down 19 = .ok (.iload_n 1, 1) := by decide +kernel
theorem d_MD_down_20 : decode b_MD_down 20 = .ok (.ifCond .ge 7, 3) := by decide +kernel
theorem d_MD_down_23 : decode b_MD_down 23 = .ok (.iconst 1, 1) := by decide +kernel
theorem d_MD_down_24 : decode b_MD_down 24 = .ok (.goto 4, 3) := by decide +kernel
theorem d_MD_down_27 : decode b_MD_down 27 = .ok (.iconst 0, 1) := by decide +kernel
theorem d_MD_down_28 : decode b_MD_down 28 = .ok (.if_icmp .eq 9, 3) := by decide +kernel
theorem d_MD_down_31 : decode b_MD_down 31 = .ok (.iload_n 2, 1) := by decide +kernel
theorem d_MD_down_32 : decode b_MD_down 32 = .ok (.iconst 1, 1) := by decide +kernel
theorem d_MD_down_33 : decode b_MD_down 33 = .ok (.isub, 1) := by decide +kernel
theorem d_MD_down_34 : decode b_MD_down 34 = .ok (.goto 4, 3) := by decide +kernel
theorem d_MD_down_37 : decode b_MD_down 37 = .ok (.iload_n 2, 1) := by decide +kernel
theorem d_MD_down_38 : decode b_MD_down 38 = .ok (.ireturn, 1) := by decide +kernel
theorem d_MD_push_0 : decode b_MD_push 0 = .ok (.aload_n 0, 1) := by decide +kernel
theorem d_MD_push_1 : decode b_MD_push 1 = .ok (.getfield 67, 3) := by decide +kernel
theorem d_MD_push_4 : decode b_MD_push 4 = .ok (.aload_n 0, 1) := by decide +kernel
theorem d_MD_push_5 : decode b_MD_push 5 = .ok (.getfield 129, 3) := by decide +kernel
theorem d_MD_push_8 : decode b_MD_push 8 = .ok (.iload_n 1, 1) := by decide +kernel
theorem d_MD_push_9 : decode b_MD_push 9 = .ok (.iastore, 1) := by decide +kernel
theorem d_MD_push_10 : decode b_MD_push 10 = .ok (.aload_n 0, 1) := by decide +kernel
theorem d_MD_push_11 : decode b_MD_push 11 = .ok (.dup, 1) := by decide +kernel
theorem d_MD_push_12 : decode b_MD_push 12 = .ok (.getfield 129, 3) := by decide +kernel
theorem d_MD_push_15 : decode b_MD_push 15 = .ok (.iconst 1, 1) := by decide +kernel
theorem d_MD_push_16 : decode b_MD_push 16 = .ok (.iadd, 1) := by decide +kernel
theorem d_MD_push_17 : decode b_MD_push 17 = .ok (.putfield 129, 3) := by decide +kernel
theorem d_MD_push_20 : decode b_MD_push 20 = .ok (.return_, 1) := by decide +kernel
theorem d_MD_vote_0 : decode b_MD_vote 0 = .ok (.iconst 0, 1) := by decide +kernel
theorem d_MD_vote_1 : decode b_MD_vote 1 = .ok (.istore_n 3, 1) := by decide +kernel
theorem d_MD_vote_2 : decode b_MD_vote 2 = .ok (.iconst 0, 1) := by decide +kernel
theorem d_MD_vote_3 : decode b_MD_vote 3 = .ok (.istore 4, 2) := by decide +kernel
theorem d_MD_vote_5 : decode b_MD_vote 5 = .ok (.iload 4, 2) := by decide +kernel
theorem d_MD_vote_7 : decode b_MD_vote 7 = .ok (.aload_n 0, 1) := by decide +kernel
theorem d_MD_vote_8 : decode b_MD_vote 8 = .ok (.getfield 73, 3) := by decide +kernel
theorem d_MD_vote_11 : decode b_MD_vote 11 = .ok (.if_icmp .ge 63, 3) := by decide +kernel
theorem d_MD_vote_14 : decode b_MD_vote 14 = .ok (.iload 4, 2) := by decide +kernel
theorem d_MD_vote_16 : decode b_MD_vote 16 = .ok (.iload_n 1, 1) := by decide +kernel
theorem d_MD_vote_17 : decode b_MD_vote 17 = .ok (.if_icmp .eq 13, 3) := by decide +kernel
theorem d_MD_vote_20 : decode b_MD_vote 20 = .ok (.aload_n 0, 1) := by decide +kernel
theorem d_MD_vote_21 : decode b_MD_vote 21 = .ok (.iload 4, 2) := by decide +kernel
theorem d_MD_vote_23 : decode b_MD_vote 23 = .ok (.iload_n 1, 1) := by decide +kernel
theorem d_MD_vote_24 : decode b_MD_vote 24 = .ok (.invokevirtual 97, 3) := by decide +kernel
theorem d_MD_vote_27 : decode b_MD_vote 27 = .ok (.ifCond .eq 41, 3) := by decide +kernel
theorem d_MD_vote_30 : decode b_MD_vote 30 = .ok (.aload_n 0, 1) := by decide +kernel
theorem d_MD_vote_31 : decode b_MD_vote 31 = .ok (.getfield 70, 3) := by decide +kernel
theorem d_MD_vote_34 : decode b_MD_vote 34 = .ok (.iload_n 3, 1) := by decide +kernel
theorem d_MD_vote_35 : decode b_MD_vote 35 = .ok (.iload 4, 2) := by decide +kernel
theorem d_MD_vote_37 : decode b_MD_vote 37 = .ok (.iload_n 1, 1) := by decide +kernel
theorem d_MD_vote_38 : decode b_MD_vote 38 = .ok (.if_icmp .ne 12, 3) := by decide +kernel
theorem d_MD_vote_41 : decode b_MD_vote 41 = .ok (.aload_n 0, 1) := by decide +kernel
theorem d_MD_vote_42 : decode b_MD_vote 42 = .ok (.getfield 34, 3) := by decide +kernel
theorem d_MD_vote_45 : decode b_MD_vote 45 = .ok (.iload_n 1, 1) := by decide +kernel
theorem d_MD_vote_46 : decode b_MD_vote 46 = .ok (.iaload, 1) := by decide +kernel
theorem d_MD_vote_47 : decode b_MD_vote 47 = .ok (.goto 17, 3) := by decide +kernel
theorem d_MD_vote_50 : decode b_MD_vote 50 = .ok (.aload_n 0, 1) := by decide +kernel
theorem d_MD_vote_51 : decode b_MD_vote 51 = .ok (.iload 4, 2) := by decide +kernel
theorem d_MD_vote_53 : decode b_MD_vote 53 = .ok (.iload_n 1, 1) := by decide +kernel
theorem d_MD_vote_54 : decode b_MD_vote 54 = .ok (.aload_n 0, 1) := by decide +kernel
theorem d_MD_vote_55 : decode b_MD_vote 55 = .ok (.getfield 34, 3) := by decide +kernel
theorem d_MD_vote_58 : decode b_MD_vote 58 = .ok (.iload 4, 2) := by decide +kernel
theorem d_MD_vote_60 : decode b_MD_vote 60 = .ok (.iaload, 1) := by decide +kernel
theorem d_MD_vote_61 : decode b_MD_vote 61 = .ok (.invokevirtual 100, 3) := by decide +kernel
theorem d_MD_vote_64 : decode b_MD_vote 64 = .ok (.iastore, 1) := by decide +kernel
theorem d_MD_vote_65 : decode b_MD_vote 65 = .ok (.iinc 3 1, 3) := by decide +kernel
theorem d_MD_vote_68 : decode b_MD_vote 68 = .ok (.iinc 4 1, 3) := by decide +kernel
theorem d_MD_vote_71 : decode b_MD_vote 71 = .ok (.goto (-66), 3) := by decide +kernel
theorem d_MD_vote_74 : decode b_MD_vote 74 = .ok (.aload_n 0, 1) := by decide +kernel
theorem d_MD_vote_75 : decode b_MD_vote 75 = .ok (.iload_n 1, 1) := by decide +kernel
theorem d_MD_vote_76 : decode b_MD_vote 76 = .ok (.invokevirtual 142, 3) := by decide +kernel
theorem d_MD_vote_79 : decode b_MD_vote 79 = .ok (.istore 4, 2) := by decide +kernel
theorem d_MD_vote_81 : decode b_MD_vote 81 = .ok (.iconst 0, 1) := by decide +kernel
theorem d_MD_vote_82 : decode b_MD_vote 82 = .ok (.istore 5, 2) := by decide +kernel
theorem d_MD_vote_84 : decode b_MD_vote 84 = .ok (.iconst 0, 1) := by decide +kernel
theorem d_MD_vote_85 : decode b_MD_vote 85 = .ok (.istore 6, 2) := by decide +kernel
theorem d_MD_vote_87 : decode b_MD_vote 87 = .ok (.iconst 0, 1) := by decide +kernel
theorem d_MD_vote_88 : decode b_MD_vote 88 = .ok (.istore 7, 2) := by decide +kernel
theorem d_MD_vote_90 : decode b_MD_vote 90 = .ok (.iload 7, 2) := by decide +kernel
theorem d_MD_vote_92 : decode b_MD_vote 92 = .ok (.iload_n 3, 1) := by decide +kernel
theorem d_MD_vote_93 : decode b_MD_vote 93 = .ok (.if_icmp .ge 76, 3) := by decide +kernel
theorem d_MD_vote_96 : decode b_MD_vote 96 = .ok (.iconst 0, 1) := by decide +kernel
theorem d_MD_vote_97 : decode b_MD_vote 97 = .ok (.istore 8, 2) := by decide +kernel
theorem d_MD_vote_99 : decode b_MD_vote 99 = .ok (.iconst 0, 1) := by decide +kernel
theorem d_MD_vote_100 : decode b_MD_vote 100 = .ok (.istore 9, 2) := by decide +kernel
theorem d_MD_vote_102 : decode b_MD_vote 102 = .ok (.iload 9, 2) := by decide +kernel
theorem d_MD_vote_104 : decode b_MD_vote 104 = .ok (.iload_n 3, 1) := by decide +kernel
theorem d_MD_vote_105 : decode b_MD_vote 105 = .ok (.if_icmp .ge 37, 3) := by decide +kernel
theorem d_MD_vote_108 : decode b_MD_vote 108 = .ok (.aload_n 0, 1) := by decide +kernel
theorem d_MD_vote_109 : decode b_MD_vote 109 = .ok (.getfield 70, 3) := by decide +kernel
theorem d_MD_vote_112 : decode b_MD_vote 112 = .ok (.iload 9, 2) := by decide +kernel
theorem d_MD_vote_114 : decode b_MD_vote 114 = .ok (.iaload, 1) := by decide +kernel
theorem d_MD_vote_115 : decode b_MD_vote 115 = .ok (.aload_n 0, 1) := by decide +kernel
theorem d_MD_vote_116 : decode b_MD_vote 116 = .ok (.getfield 70, 3) := by decide +kernel
theorem d_MD_vote_119 : decode b_MD_vote 119 = .ok (.iload 7, 2) := by decide +kernel
theorem d_MD_vote_121 : decode b_MD_vote 121 = .ok (.iaload, 1) := by decide +kernel
theorem d_MD_vote_122 : decode b_MD_vote 122 = .ok (.if_icmp .ne 10, 3) := by decide +kernel
theorem d_MD_vote_125 : decode b_MD_vote 125 = .ok (.iload 8, 2) := by decide +kernel
theorem d_MD_vote_127 : decode b_MD_vote 127 = .ok (.iconst 1, 1) := by decide +kernel
theorem d_MD_vote_128 : decode b_MD_vote 128 = .ok (.iadd, 1) := by decide +kernel
theorem d_MD_vote_129 : decode b_MD_vote 129 = .ok (.goto 5, 3) := by decide +kernel
theorem d_MD_vote_132 : decode b_MD_vote 132 = .ok (.iload 8, 2) := by decide +kernel
theorem d_MD_vote_134 : decode b_MD_vote 134 = .ok (.istore 8, 2) := by decide +kernel
theorem d_MD_vote_136 : decode b_MD_vote 136 = .ok (.iinc 9 1, 3) := by decide +kernel
theorem d_MD_vote_139 : decode b_MD_vote 139 = .ok (.goto (-37), 3) := by decide +kernel
theorem d_MD_vote_142 : decode b_MD_vote 142 = .ok (.iconst 2, 1) := by decide +kernel
theorem d_MD_vote_143 : decode b_MD_vote 143 = .ok (.iload 8, 2) := by decide +kernel
theorem d_MD_vote_145 : decode b_MD_vote 145 = .ok (.imul, 1) := by decide +kernel
theorem d_MD_vote_146 : decode b_MD_vote 146 = .ok (.iload 4, 2) := by decide +kernel
theorem d_MD_vote_148 : decode b_MD_vote 148 = .ok (.if_icmp .le 15, 3) := by decide +kernel
theorem d_MD_vote_151 : decode b_MD_vote 151 = .ok (.iconst 1, 1) := by decide +kernel
theorem d_MD_vote_152 : decode b_MD_vote 152 = .ok (.istore 5, 2) := by decide +kernel
theorem d_MD_vote_154 : decode b_MD_vote 154 = .ok (.aload_n 0, 1) := by decide +kernel
theorem d_MD_vote_155 : decode b_MD_vote 155 = .ok (.getfield 70, 3) := by decide +kernel
theorem d_MD_vote_158 : decode b_MD_vote 158 = .ok (.iload 7, 2) := by decide +kernel
theorem d_MD_vote_160 : decode b_MD_vote 160 = .ok (.iaload, 1) := by decide +kernel
theorem d_MD_vote_161 : decode b_MD_vote 161 = .ok (.istore 6, 2) := by decide +kernel
theorem d_MD_vote_163 : decode b_MD_vote 163 = .ok (.iinc 7 1, 3) := by decide +kernel
theorem d_MD_vote_166 : decode b_MD_vote 166 = .ok (.goto (-76), 3) := by decide +kernel
theorem d_MD_vote_169 : decode b_MD_vote 169 = .ok (.aload_n 0, 1) := by decide +kernel
theorem d_MD_vote_170 : decode b_MD_vote 170 = .ok (.getfield 37, 3) := by decide +kernel
theorem d_MD_vote_173 : decode b_MD_vote 173 = .ok (.iconst 4, 1) := by decide +kernel
theorem d_MD_vote_174 : decode b_MD_vote 174 = .ok (.iload_n 1, 1) := by decide +kernel
theorem d_MD_vote_175 : decode b_MD_vote 175 = .ok (.imul, 1) := by decide +kernel
theorem d_MD_vote_176 : decode b_MD_vote 176 = .ok (.iload_n 2, 1) := by decide +kernel
theorem d_MD_vote_177 : decode b_MD_vote 177 = .ok (.iadd, 1) := by decide +kernel
theorem d_MD_vote_178 : decode b_MD_vote 178 = .ok (.iload 6, 2) := by decide +kernel
theorem d_MD_vote_180 : decode b_MD_vote 180 = .ok (.iastore, 1) := by decide +kernel
theorem d_MD_vote_181 : decode b_MD_vote 181 = .ok (.iconst 0, 1) := by decide +kernel
theorem d_MD_vote_182 : decode b_MD_vote 182 = .ok (.istore 7, 2) := by decide +kernel
theorem d_MD_vote_184 : decode b_MD_vote 184 = .ok (.iload 7, 2) := by decide +kernel
theorem d_MD_vote_186 : decode b_MD_vote 186 = .ok (.aload_n 0, 1) := by decide +kernel
theorem d_MD_vote_187 : decode b_MD_vote 187 = .ok (.getfield 73, 3) := by decide +kernel
theorem d_MD_vote_190 : decode b_MD_vote 190 = .ok (.if_icmp .ge 88, 3) := by decide +kernel
theorem d_MD_vote_193 : decode b_MD_vote 193 = .ok (.aload_n 0, 1) := by decide +kernel
theorem d_MD_vote_194 : decode b_MD_vote 194 = .ok (.iload 7, 2) := by decide +kernel
theorem d_MD_vote_196 : decode b_MD_vote 196 = .ok (.iload_n 1, 1) := by decide +kernel
theorem d_MD_vote_197 : decode b_MD_vote 197 = .ok (.invokevirtual 97, 3) := by decide +kernel
theorem d_MD_vote_200 : decode b_MD_vote 200 = .ok (.ifCond .eq 26, 3) := by decide +kernel
theorem d_MD_vote_203 : decode b_MD_vote 203 = .ok (.aload_n 0, 1) := by decide +kernel
theorem d_MD_vote_204 : decode b_MD_vote 204 = .ok (.iload 7, 2) := by decide +kernel
theorem d_MD_vote_206 : decode b_MD_vote 206 = .ok (.iload_n 1, 1) := by decide +kernel
theorem d_MD_vote_207 : decode b_MD_vote 207 = .ok (.aload_n 0, 1) := by decide +kernel
theorem d_MD_vote_208 : decode b_MD_vote 208 = .ok (.getfield 34, 3) := by decide +kernel
theorem d_MD_vote_211 : decode b_MD_vote 211 = .ok (.iload 7, 2) := by decide +kernel
theorem d_MD_vote_213 : decode b_MD_vote 213 = .ok (.iaload, 1) := by decide +kernel
theorem d_MD_vote_214 : decode b_MD_vote 214 = .ok (.invokevirtual 100, 3) := by decide +kernel
theorem d_MD_vote_217 : decode b_MD_vote 217 = .ok (.iload 6, 2) := by decide +kernel
theorem d_MD_vote_219 : decode b_MD_vote 219 = .ok (.if_icmp .ne 7, 3) := by decide +kernel
theorem d_MD_vote_222 : decode b_MD_vote 222 = .ok (.iconst 1, 1) := by decide +kernel
theorem d_MD_vote_223 : decode b_MD_vote 223 = .ok (.goto 4, 3) := by decide +kernel
theorem d_MD_vote_226 : decode b_MD_vote 226 = .ok (.iconst 0, 1) := by decide +kernel
theorem d_MD_vote_227 : decode b_MD_vote 227 = .ok (.istore 8, 2) := by decide +kernel
theorem d_MD_vote_229 : decode b_MD_vote 229 = .ok (.iload 5, 2) := by decide +kernel
theorem d_MD_vote_231 : decode b_MD_vote 231 = .ok (.ifCond .eq 41, 3) := by decide +kernel
theorem d_MD_vote_234 : decode b_MD_vote 234 = .ok (.iload 7, 2) := by decide +kernel
theorem d_MD_vote_236 : decode b_MD_vote 236 = .ok (.iload_n 1, 1) := by decide +kernel
theorem d_MD_vote_237 : decode b_MD_vote 237 = .ok (.if_icmp .eq 35, 3) := by decide +kernel
theorem d_MD_vote_240 : decode b_MD_vote 240 = .ok (.aload_n 0, 1) := by decide +kernel
theorem d_MD_vote_241 : decode b_MD_vote 241 = .ok (.iload_n 1, 1) := by decide +kernel
theorem d_MD_vote_242 : decode b_MD_vote 242 = .ok (.iload 7, 2) := by decide +kernel
theorem d_MD_vote_244 : decode b_MD_vote 244 = .ok (.invokevirtual 90, 3) := by decide +kernel
theorem d_MD_vote_247 : decode b_MD_vote 247 = .ok (.ifCond .eq 25, 3) := by decide +kernel
theorem d_MD_vote_250 : decode b_MD_vote 250 = .ok (.iload 8, 2) := by decide +kernel
theorem d_MD_vote_252 : decode b_MD_vote 252 = .ok (.ifCond .ne 20, 3) := by decide +kernel
theorem d_MD_vote_255 : decode b_MD_vote 255 = .ok (.aload_n 0, 1) := by decide +kernel
theorem d_MD_vote_256 : decode b_MD_vote 256 = .ok (.getfield 28, 3) := by decide +kernel
theorem d_MD_vote_259 : decode b_MD_vote 259 = .ok (.iload_n 1, 1) := by decide +kernel
theorem d_MD_vote_260 : decode b_MD_vote 260 = .ok (.aload_n 0, 1) := by decide +kernel
theorem d_MD_vote_261 : decode b_MD_vote 261 = .ok (.getfield 28, 3) := by decide +kernel
theorem d_MD_vote_264 : decode b_MD_vote 264 = .ok (.iload_n 1, 1) := by decide +kernel
theorem d_MD_vote_265 : decode b_MD_vote 265 = .ok (.iaload, 1) := by decide +kernel
theorem d_MD_vote_266 : decode b_MD_vote 266 = .ok (.iconst 1, 1) := by decide +kernel
theorem d_MD_vote_267 : decode b_MD_vote 267 = .ok (.iload 7, 2) := by decide +kernel
theorem d_MD_vote_269 : decode b_MD_vote 269 = .ok (.ishl, 1) := by decide +kernel
theorem d_MD_vote_270 : decode b_MD_vote 270 = .ok (.ior, 1) := by decide +kernel
theorem d_MD_vote_271 : decode b_MD_vote 271 = .ok (.iastore, 1) := by decide +kernel
theorem d_MD_vote_272 : decode b_MD_vote 272 = .ok (.iinc 7 1, 3) := by decide +kernel
theorem d_MD_vote_275 : decode b_MD_vote 275 = .ok (.goto (-91), 3) := by decide +kernel
theorem d_MD_vote_278 : decode b_MD_vote 278 = .ok (.return_, 1) := by decide +kernel
theorem d_MD_strike_0 : decode b_MD_strike 0 = .ok (.aload_n 0, 1) := by decide +kernel
theorem d_MD_strike_1 : decode b_MD_strike 1 = .ok (.iload_n 1, 1) := by decide +kernel
theorem d_MD_strike_2 : decode b_MD_strike 2 = .ok (.invokevirtual 111, 3) := by decide +kernel
theorem d_MD_strike_5 : decode b_MD_strike 5 = .ok (.istore_n 2, 1) := by decide +kernel
theorem d_MD_strike_6 : decode b_MD_strike 6 = .ok (.iconst 0, 1) := by decide +kernel
theorem d_MD_strike_7 : decode b_MD_strike 7 = .ok (.istore_n 3, 1) := by decide +kernel
theorem d_MD_strike_8 : decode b_MD_strike 8 = .ok (.iconst 0, 1) := by decide +kernel
theorem d_MD_strike_9 : decode b_MD_strike 9 = .ok (.istore 4, 2) := by decide +kernel
theorem d_MD_strike_11 : decode b_MD_strike 11 = .ok (.iload 4, 2) := by decide +kernel
theorem d_MD_strike_13 : decode b_MD_strike 13 = .ok (.aload_n 0, 1) := by decide +kernel
theorem d_MD_strike_14 : decode b_MD_strike 14 = .ok (.getfield 73, 3) := by decide +kernel
theorem d_MD_strike_17 : decode b_MD_strike 17 = .ok (.if_icmp .ge 110, 3) := by decide +kernel
theorem d_MD_strike_20 : decode b_MD_strike 20 = .ok (.iconst 0, 1) := by decide +kernel
theorem d_MD_strike_21 : decode b_MD_strike 21 = .ok (.istore 5, 2) := by decide +kernel
theorem d_MD_strike_23 : decode b_MD_strike 23 = .ok (.iconst 0, 1) := by decide +kernel
theorem d_MD_strike_24 : decode b_MD_strike 24 = .ok (.istore 6, 2) := by decide +kernel
theorem d_MD_strike_26 : decode b_MD_strike 26 = .ok (.iload 6, 2) := by decide +kernel
theorem d_MD_strike_28 : decode b_MD_strike 28 = .ok (.aload_n 0, 1) := by decide +kernel
theorem d_MD_strike_29 : decode b_MD_strike 29 = .ok (.getfield 73, 3) := by decide +kernel
theorem d_MD_strike_32 : decode b_MD_strike 32 = .ok (.if_icmp .ge 50, 3) := by decide +kernel
theorem d_MD_strike_35 : decode b_MD_strike 35 = .ok (.iload 6, 2) := by decide +kernel
theorem d_MD_strike_37 : decode b_MD_strike 37 = .ok (.iload 4, 2) := by decide +kernel
theorem d_MD_strike_39 : decode b_MD_strike 39 = .ok (.if_icmp .eq 37, 3) := by decide +kernel
theorem d_MD_strike_42 : decode b_MD_strike 42 = .ok (.aload_n 0, 1) := by decide +kernel
theorem d_MD_strike_43 : decode b_MD_strike 43 = .ok (.iload_n 1, 1) := by decide +kernel
theorem d_MD_strike_44 : decode b_MD_strike 44 = .ok (.iload 6, 2) := by decide +kernel
theorem d_MD_strike_46 : decode b_MD_strike 46 = .ok (.invokevirtual 90, 3) := by decide +kernel
theorem d_MD_strike_49 : decode b_MD_strike 49 = .ok (.ifCond .eq 27, 3) := by decide +kernel
theorem d_MD_strike_52 : decode b_MD_strike 52 = .ok (.aload_n 0, 1) := by decide +kernel
theorem d_MD_strike_53 : decode b_MD_strike 53 = .ok (.getfield 43, 3) := by decide +kernel
theorem d_MD_strike_56 : decode b_MD_strike 56 = .ok (.bipush 7, 2) := by decide +kernel
theorem d_MD_strike_58 : decode b_MD_strike 58 = .ok (.iload_n 1, 1) := by decide +kernel
theorem d_MD_strike_59 : decode b_MD_strike 59 = .ok (.imul, 1) := by decide +kernel
theorem d_MD_strike_60 : decode b_MD_strike 60 = .ok (.iload 6, 2) := by decide +kernel
theorem d_MD_strike_62 : decode b_MD_strike 62 = .ok (.iadd, 1) := by decide +kernel
theorem d_MD_strike_63 : decode b_MD_strike 63 = .ok (.iaload, 1) := by decide +kernel
theorem d_MD_strike_64 : decode b_MD_strike 64 = .ok (.iload 4, 2) := by decide +kernel
theorem d_MD_strike_66 : decode b_MD_strike 66 = .ok (.ishr, 1) := by decide +kernel
theorem d_MD_strike_67 : decode b_MD_strike 67 = .ok (.iconst 1, 1) := by decide +kernel
theorem d_MD_strike_68 : decode b_MD_strike 68 = .ok (.iand, 1) := by decide +kernel
theorem d_MD_strike_69 : decode b_MD_strike 69 = .ok (.iconst 1, 1) := by decide +kernel
theorem d_MD_strike_70 : decode b_MD_strike 70 = .ok (.if_icmp .ne 6, 3) := by decide +kernel
theorem d_MD_strike_73 : decode b_MD_strike 73 = .ok (.iinc 5 1, 3) := by decide +kernel
theorem d_MD_strike_76 : decode b_MD_strike 76 = .ok (.iinc 6 1, 3) := by decide +kernel
theorem d_MD_strike_79 : decode b_MD_strike 79 = .ok (.goto (-53), 3) := by decide +kernel
theorem d_MD_strike_82 : decode b_MD_strike 82 = .ok (.iload 4, 2) := by decide +kernel
theorem d_MD_strike_84 : decode b_MD_strike 84 = .ok (.iload_n 1, 1) := by decide +kernel
theorem d_MD_strike_85 : decode b_MD_strike 85 = .ok (.if_icmp .eq 36, 3) := by decide +kernel
theorem d_MD_strike_88 : decode b_MD_strike 88 = .ok (.aload_n 0, 1) := by decide +kernel
theorem d_MD_strike_89 : decode b_MD_strike 89 = .ok (.iload_n 1, 1) := by decide +kernel
theorem d_MD_strike_90 : decode b_MD_strike 90 = .ok (.iload 4, 2) := by decide +kernel
theorem d_MD_strike_92 : decode b_MD_strike 92 = .ok (.invokevirtual 90, 3) := by decide +kernel
theorem d_MD_strike_95 : decode b_MD_strike 95 = .ok (.ifCond .eq 26, 3) := by decide +kernel
theorem d_MD_strike_98 : decode b_MD_strike 98 = .ok (.iload 5, 2) := by decide +kernel
theorem d_MD_strike_100 : decode b_MD_strike 100 = .ok (.iload_n 2, 1) := by decide +kernel
theorem d_MD_strike_101 : decode b_MD_strike 101 = .ok (.if_icmp .le 20, 3) := by decide +kernel
theorem d_MD_strike_104 : decode b_MD_strike 104 = .ok (.iload_n 3, 1) := by decide +kernel
theorem d_MD_strike_105 : decode b_MD_strike 105 = .ok (.iconst 1, 1) := by decide +kernel
theorem d_MD_strike_106 : decode b_MD_strike 106 = .ok (.iload 4, 2) := by decide +kernel
theorem d_MD_strike_108 : decode b_MD_strike 108 = .ok (.ishl, 1) := by decide +kernel
theorem d_MD_strike_109 : decode b_MD_strike 109 = .ok (.ior, 1) := by decide +kernel
theorem d_MD_strike_110 : decode b_MD_strike 110 = .ok (.istore_n 3, 1) := by decide +kernel
theorem d_MD_strike_111 : decode b_MD_strike 111 = .ok (.aload_n 0, 1) := by decide +kernel
theorem d_MD_strike_112 : decode b_MD_strike 112 = .ok (.dup, 1) := by decide +kernel
theorem d_MD_strike_113 : decode b_MD_strike 113 = .ok (.getfield 155, 3) := by decide +kernel
theorem d_MD_strike_116 : decode b_MD_strike 116 = .ok (.iconst 1, 1) := by decide +kernel
theorem d_MD_strike_117 : decode b_MD_strike 117 = .ok (.iadd, 1) := by decide +kernel
theorem d_MD_strike_118 : decode b_MD_strike 118 = .ok (.putfield 155, 3) := by decide +kernel
theorem d_MD_strike_121 : decode b_MD_strike 121 = .ok (.iinc 4 1, 3) := by decide +kernel
theorem d_MD_strike_124 : decode b_MD_strike 124 = .ok (.goto (-113), 3) := by decide +kernel
theorem d_MD_strike_127 : decode b_MD_strike 127 = .ok (.aload_n 0, 1) := by decide +kernel
theorem d_MD_strike_128 : decode b_MD_strike 128 = .ok (.getfield 25, 3) := by decide +kernel
theorem d_MD_strike_131 : decode b_MD_strike 131 = .ok (.iload_n 1, 1) := by decide +kernel
theorem d_MD_strike_132 : decode b_MD_strike 132 = .ok (.aload_n 0, 1) := by decide +kernel
theorem d_MD_strike_133 : decode b_MD_strike 133 = .ok (.getfield 25, 3) := by decide +kernel
theorem d_MD_strike_136 : decode b_MD_strike 136 = .ok (.iload_n 1, 1) := by decide +kernel
theorem d_MD_strike_137 : decode b_MD_strike 137 = .ok (.iaload, 1) := by decide +kernel
theorem d_MD_strike_138 : decode b_MD_strike 138 = .ok (.iload_n 3, 1) := by decide +kernel
theorem d_MD_strike_139 : decode b_MD_strike 139 = .ok (.iconst (-1), 1) := by decide +kernel
theorem d_MD_strike_140 : decode b_MD_strike 140 = .ok (.ixor, 1) := by decide +kernel
theorem d_MD_strike_141 : decode b_MD_strike 141 = .ok (.iand, 1) := by decide +kernel
theorem d_MD_strike_142 : decode b_MD_strike 142 = .ok (.iastore, 1) := by decide +kernel
theorem d_MD_strike_143 : decode b_MD_strike 143 = .ok (.return_, 1) := by decide +kernel
theorem d_MD_mean_0 : decode b_MD_mean 0 = .ok (.iconst 0, 1) := by decide +kernel
theorem d_MD_mean_1 : decode b_MD_mean 1 = .ok (.istore_n 2, 1) := by decide +kernel
theorem d_MD_mean_2 : decode b_MD_mean 2 = .ok (.iconst 0, 1) := by decide +kernel
theorem d_MD_mean_3 : decode b_MD_mean 3 = .ok (.istore_n 3, 1) := by decide +kernel
theorem d_MD_mean_4 : decode b_MD_mean 4 = .ok (.iload_n 3, 1) := by decide +kernel
theorem d_MD_mean_5 : decode b_MD_mean 5 = .ok (.aload_n 0, 1) := by decide +kernel
theorem d_MD_mean_6 : decode b_MD_mean 6 = .ok (.getfield 73, 3) := by decide +kernel
theorem d_MD_mean_9 : decode b_MD_mean 9 = .ok (.if_icmp .ge 92, 3) := by decide +kernel
theorem d_MD_mean_12 : decode b_MD_mean 12 = .ok (.iload_n 3, 1) := by decide +kernel
theorem d_MD_mean_13 : decode b_MD_mean 13 = .ok (.iload_n 1, 1) := by decide +kernel
theorem d_MD_mean_14 : decode b_MD_mean 14 = .ok (.if_icmp .eq 81, 3) := by decide +kernel
theorem d_MD_mean_17 : decode b_MD_mean 17 = .ok (.aload_n 0, 1) := by decide +kernel
theorem d_MD_mean_18 : decode b_MD_mean 18 = .ok (.iload_n 1, 1) := by decide +kernel
theorem d_MD_mean_19 : decode b_MD_mean 19 = .ok (.iload_n 3, 1) := by decide +kernel
theorem d_MD_mean_20 : decode b_MD_mean 20 = .ok (.invokevirtual 90, 3) := by decide +kernel
theorem d_MD_mean_23 : decode b_MD_mean 23 = .ok (.ifCond .eq 72, 3) := by decide +kernel
theorem d_MD_mean_26 : decode b_MD_mean 26 = .ok (.aload_n 0, 1) := by decide +kernel
theorem d_MD_mean_27 : decode b_MD_mean 27 = .ok (.getfield 19, 3) := by decide +kernel
theorem d_MD_mean_30 : decode b_MD_mean 30 = .ok (.iload_n 3, 1) := by decide +kernel
theorem d_MD_mean_31 : decode b_MD_mean 31 = .ok (.iaload, 1) := by decide +kernel
theorem d_MD_mean_32 : decode b_MD_mean 32 = .ok (.iconst 1, 1) := by decide +kernel
theorem d_MD_mean_33 : decode b_MD_mean 33 = .ok (.if_icmp .eq 62, 3) := by decide +kernel
theorem d_MD_mean_36 : decode b_MD_mean 36 = .ok (.aload_n 0, 1) := by decide +kernel
theorem d_MD_mean_37 : decode b_MD_mean 37 = .ok (.iload_n 3, 1) := by decide +kernel
theorem d_MD_mean_38 : decode b_MD_mean 38 = .ok (.iload_n 1, 1) := by decide +kernel
theorem d_MD_mean_39 : decode b_MD_mean 39 = .ok (.invokevirtual 158, 3) := by decide +kernel
theorem d_MD_mean_42 : decode b_MD_mean 42 = .ok (.aload_n 0, 1) := by decide +kernel
theorem d_MD_mean_43 : decode b_MD_mean 43 = .ok (.getfield 49, 3) := by decide +kernel
theorem d_MD_mean_46 : decode b_MD_mean 46 = .ok (.bipush 7, 2) := by decide +kernel
theorem d_MD_mean_48 : decode b_MD_mean 48 = .ok (.iload_n 3, 1) := by decide +kernel
theorem d_MD_mean_49 : decode b_MD_mean 49 = .ok (.imul, 1) := by decide +kernel
theorem d_MD_mean_50 : decode b_MD_mean 50 = .ok (.iload_n 1, 1) := by decide +kernel
theorem d_MD_mean_51 : decode b_MD_mean 51 = .ok (.iadd, 1) := by decide +kernel
theorem d_MD_mean_52 : decode b_MD_mean 52 = .ok (.iaload, 1) := by decide +kernel
theorem d_MD_mean_53 : decode b_MD_mean 53 = .ok (.iadd, 1) := by decide +kernel
theorem d_MD_mean_54 : decode b_MD_mean 54 = .ok (.aload_n 0, 1) := by decide +kernel
theorem d_MD_mean_55 : decode b_MD_mean 55 = .ok (.getfield 7, 3) := by decide +kernel
theorem d_MD_mean_58 : decode b_MD_mean 58 = .ok (.iload_n 1, 1) := by decide +kernel
theorem d_MD_mean_59 : decode b_MD_mean 59 = .ok (.iaload, 1) := by decide +kernel
theorem d_MD_mean_60 : decode b_MD_mean 60 = .ok (.isub, 1) := by decide +kernel
theorem d_MD_mean_61 : decode b_MD_mean 61 = .ok (.istore 4, 2) := by decide +kernel
theorem d_MD_mean_63 : decode b_MD_mean 63 = .ok (.iload 4, 2) := by decide +kernel
theorem d_MD_mean_65 : decode b_MD_mean 65 = .ok (.aload_n 0, 1) := by decide +kernel
theorem d_MD_mean_66 : decode b_MD_mean 66 = .ok (.getfield 80, 3) := by decide +kernel
theorem d_MD_mean_69 : decode b_MD_mean 69 = .ok (.iconst 3, 1) := by decide +kernel
theorem d_MD_mean_70 : decode b_MD_mean 70 = .ok (.iadd, 1) := by decide +kernel
theorem d_MD_mean_71 : decode b_MD_mean 71 = .ok (.ineg, 1) := by decide +kernel
theorem d_MD_mean_72 : decode b_MD_mean 72 = .ok (.if_icmp .lt 14, 3) := by decide +kernel
theorem d_MD_mean_75 : decode b_MD_mean 75 = .ok (.iload 4, 2) := by decide +kernel
theorem d_MD_mean_77 : decode b_MD_mean 77 = .ok (.aload_n 0, 1) := by decide +kernel
theorem d_MD_mean_78 : decode b_MD_mean 78 = .ok (.getfield 80, 3) := by decide +kernel
theorem d_MD_mean_81 : decode b_MD_mean 81 = .ok (.iconst 3, 1) := by decide +kernel
theorem d_MD_mean_82 : decode b_MD_mean 82 = .ok (.iadd, 1) := by decide +kernel
theorem d_MD_mean_83 : decode b_MD_mean 83 = .ok (.if_icmp .le 7, 3) := by decide +kernel
theorem d_MD_mean_86 : decode b_MD_mean 86 = .ok (.iload_n 2, 1) := by decide +kernel
theorem d_MD_mean_87 : decode b_MD_mean 87 = .ok (.goto 7, 3) := by decide +kernel
theorem d_MD_mean_90 : decode b_MD_mean 90 = .ok (.iload_n 2, 1) := by decide +kernel
theorem d_MD_mean_91 : decode b_MD_mean 91 = .ok (.iload 4, 2) := by decide +kernel
theorem d_MD_mean_93 : decode b_MD_mean 93 = .ok (.iadd, 1) := by decide +kernel
theorem d_MD_mean_94 : decode b_MD_mean 94 = .ok (.istore_n 2, 1) := by decide +kernel
theorem d_MD_mean_95 : decode b_MD_mean 95 = .ok (.iinc 3 1, 3) := by decide +kernel
theorem d_MD_mean_98 : decode b_MD_mean 98 = .ok (.goto (-94), 3) := by decide +kernel
theorem d_MD_mean_101 : decode b_MD_mean 101 = .ok (.iload_n 2, 1) := by decide +kernel
theorem d_MD_mean_102 : decode b_MD_mean 102 = .ok (.aload_n 0, 1) := by decide +kernel
theorem d_MD_mean_103 : decode b_MD_mean 103 = .ok (.iload_n 1, 1) := by decide +kernel
theorem d_MD_mean_104 : decode b_MD_mean 104 = .ok (.invokevirtual 142, 3) := by decide +kernel
theorem d_MD_mean_107 : decode b_MD_mean 107 = .ok (.invokestatic 126, 3) := by decide +kernel
theorem d_MD_mean_110 : decode b_MD_mean 110 = .ok (.ireturn, 1) := by decide +kernel
theorem d_MD_shows_0 : decode b_MD_shows 0 = .ok (.aload_n 0, 1) := by decide +kernel
theorem d_MD_shows_1 : decode b_MD_shows 1 = .ok (.getfield 22, 3) := by decide +kernel
theorem d_MD_shows_4 : decode b_MD_shows 4 = .ok (.iload_n 1, 1) := by decide +kernel
theorem d_MD_shows_5 : decode b_MD_shows 5 = .ok (.iaload, 1) := by decide +kernel
theorem d_MD_shows_6 : decode b_MD_shows 6 = .ok (.istore_n 3, 1) := by decide +kernel
theorem d_MD_shows_7 : decode b_MD_shows 7 = .ok (.aload_n 0, 1) := by decide +kernel
theorem d_MD_shows_8 : decode b_MD_shows 8 = .ok (.getfield 19, 3) := by decide +kernel
theorem d_MD_shows_11 : decode b_MD_shows 11 = .ok (.iload_n 1, 1) := by decide +kernel
theorem d_MD_shows_12 : decode b_MD_shows 12 = .ok (.iaload, 1) := by decide +kernel
theorem d_MD_shows_13 : decode b_MD_shows 13 = .ok (.istore 4, 2) := by decide +kernel
theorem d_MD_shows_15 : decode b_MD_shows 15 = .ok (.iload 4, 2) := by decide +kernel
theorem d_MD_shows_17 : decode b_MD_shows 17 = .ok (.iconst 2, 1) := by decide +kernel
theorem d_MD_shows_18 : decode b_MD_shows 18 = .ok (.if_icmp .ne 7, 3) := by decide +kernel
theorem d_MD_shows_21 : decode b_MD_shows 21 = .ok (.iload_n 3, 1) := by decide +kernel
theorem d_MD_shows_22 : decode b_MD_shows 22 = .ok (.goto 54, 3) := by decide +kernel
theorem d_MD_shows_25 : decode b_MD_shows 25 = .ok (.iload 4, 2) := by decide +kernel
theorem d_MD_shows_27 : decode b_MD_shows 27 = .ok (.iconst 3, 1) := by decide +kernel
theorem d_MD_shows_28 : decode b_MD_shows 28 = .ok (.if_icmp .ne 21, 3) := by decide +kernel
theorem d_MD_shows_31 : decode b_MD_shows 31 = .ok (.iload_n 2, 1) := by decide +kernel
theorem d_MD_shows_32 : decode b_MD_shows 32 = .ok (.iconst 2, 1) := by decide +kernel
theorem d_MD_shows_33 : decode b_MD_shows 33 = .ok (.irem, 1) := by decide +kernel
theorem d_MD_shows_34 : decode b_MD_shows 34 = .ok (.iconst 1, 1) := by decide +kernel
theorem d_MD_shows_35 : decode b_MD_shows 35 = .ok (.if_icmp .ne 14, 3) := by decide +kernel
theorem d_MD_shows_38 : decode b_MD_shows 38 = .ok (.aload_n 0, 1) := by decide +kernel
theorem d_MD_shows_39 : decode b_MD_shows 39 = .ok (.getfield 7, 3) := by decide +kernel
theorem d_MD_shows_42 : decode b_MD_shows 42 = .ok (.iload_n 1, 1) := by decide +kernel
theorem d_MD_shows_43 : decode b_MD_shows 43 = .ok (.iaload, 1) := by decide +kernel
theorem d_MD_shows_44 : decode b_MD_shows 44 = .ok (.iload_n 3, 1) := by decide +kernel
theorem d_MD_shows_45 : decode b_MD_shows 45 = .ok (.iadd, 1) := by decide +kernel
theorem d_MD_shows_46 : decode b_MD_shows 46 = .ok (.goto 30, 3) := by decide +kernel
theorem d_MD_shows_49 : decode b_MD_shows 49 = .ok (.iload 4, 2) := by decide +kernel
theorem d_MD_shows_51 : decode b_MD_shows 51 = .ok (.iconst 4, 1) := by decide +kernel
theorem d_MD_shows_52 : decode b_MD_shows 52 = .ok (.if_icmp .ne 18, 3) := by decide +kernel
theorem d_MD_shows_55 : decode b_MD_shows 55 = .ok (.aload_n 0, 1) := by decide +kernel
theorem d_MD_shows_56 : decode b_MD_shows 56 = .ok (.getfield 7, 3) := by decide +kernel
theorem d_MD_shows_59 : decode b_MD_shows 59 = .ok (.iload_n 1, 1) := by decide +kernel
theorem d_MD_shows_60 : decode b_MD_shows 60 = .ok (.iaload, 1) := by decide +kernel
theorem d_MD_shows_61 : decode b_MD_shows 61 = .ok (.iload_n 3, 1) := by decide +kernel
theorem d_MD_shows_62 : decode b_MD_shows 62 = .ok (.iload_n 2, 1) := by decide +kernel
theorem d_MD_shows_63 : decode b_MD_shows 63 = .ok (.iconst 1, 1) := by decide +kernel
theorem d_MD_shows_64 : decode b_MD_shows 64 = .ok (.iadd, 1) := by decide +kernel
theorem d_MD_shows_65 : decode b_MD_shows 65 = .ok (.imul, 1) := by decide +kernel
theorem d_MD_shows_66 : decode b_MD_shows 66 = .ok (.iadd, 1) := by decide +kernel
theorem d_MD_shows_67 : decode b_MD_shows 67 = .ok (.goto 9, 3) := by decide +kernel
theorem d_MD_shows_70 : decode b_MD_shows 70 = .ok (.aload_n 0, 1) := by decide +kernel
theorem d_MD_shows_71 : decode b_MD_shows 71 = .ok (.getfield 7, 3) := by decide +kernel
theorem d_MD_shows_74 : decode b_MD_shows 74 = .ok (.iload_n 1, 1) := by decide +kernel
theorem d_MD_shows_75 : decode b_MD_shows 75 = .ok (.iaload, 1) := by decide +kernel
theorem d_MD_shows_76 : decode b_MD_shows 76 = .ok (.ireturn, 1) := by decide +kernel
theorem d_MD_frame_0 : decode b_MD_frame 0 = .ok (.aload_n 0, 1) := by decide +kernel
theorem d_MD_frame_1 : decode b_MD_frame 1 = .ok (.getfield 94, 3) := by decide +kernel
theorem d_MD_frame_4 : decode b_MD_frame 4 = .ok (.ireturn, 1) := by decide +kernel
theorem d_MD_reading_0 : decode b_MD_reading 0 = .ok (.aload_n 0, 1) := by decide +kernel
theorem d_MD_reading_1 : decode b_MD_reading 1 = .ok (.iload_n 1, 1) := by decide +kernel
theorem d_MD_reading_2 : decode b_MD_reading 2 = .ok (.invokevirtual 83, 3) := by decide +kernel
theorem d_MD_reading_5 : decode b_MD_reading 5 = .ok (.ifCond .eq 12, 3) := by decide +kernel
theorem d_MD_reading_8 : decode b_MD_reading 8 = .ok (.aload_n 0, 1) := by decide +kernel
theorem d_MD_reading_9 : decode b_MD_reading 9 = .ok (.getfield 7, 3) := by decide +kernel
theorem d_MD_reading_12 : decode b_MD_reading 12 = .ok (.iload_n 1, 1) := by decide +kernel
theorem d_MD_reading_13 : decode b_MD_reading 13 = .ok (.iaload, 1) := by decide +kernel
theorem d_MD_reading_14 : decode b_MD_reading 14 = .ok (.goto 4, 3) := by decide +kernel
theorem d_MD_reading_17 : decode b_MD_reading 17 = .ok (.iconst 0, 1) := by decide +kernel
theorem d_MD_reading_18 : decode b_MD_reading 18 = .ok (.ireturn, 1) := by decide +kernel
theorem d_MD_correction_0 : decode b_MD_correction 0 = .ok (.aload_n 0, 1) := by decide +kernel
theorem d_MD_correction_1 : decode b_MD_correction 1 = .ok (.iload_n 1, 1) := by decide +kernel
theorem d_MD_correction_2 : decode b_MD_correction 2 = .ok (.invokevirtual 83, 3) := by decide +kernel
theorem d_MD_correction_5 : decode b_MD_correction 5 = .ok (.ifCond .eq 12, 3) := by decide +kernel
theorem d_MD_correction_8 : decode b_MD_correction 8 = .ok (.aload_n 0, 1) := by decide +kernel
theorem d_MD_correction_9 : decode b_MD_correction 9 = .ok (.getfield 31, 3) := by decide +kernel
theorem d_MD_correction_12 : decode b_MD_correction 12 = .ok (.iload_n 1, 1) := by decide +kernel
theorem d_MD_correction_13 : decode b_MD_correction 13 = .ok (.iaload, 1) := by decide +kernel
theorem d_MD_correction_14 : decode b_MD_correction 14 = .ok (.goto 4, 3) := by decide +kernel
theorem d_MD_correction_17 : decode b_MD_correction 17 = .ok (.iconst 0, 1) := by decide +kernel
theorem d_MD_correction_18 : decode b_MD_correction 18 = .ok (.ireturn, 1) := by decide +kernel
theorem d_MD_input_0 : decode b_MD_input 0 = .ok (.aload_n 0, 1) := by decide +kernel
theorem d_MD_input_1 : decode b_MD_input 1 = .ok (.iload_n 1, 1) := by decide +kernel
theorem d_MD_input_2 : decode b_MD_input 2 = .ok (.invokevirtual 83, 3) := by decide +kernel
theorem d_MD_input_5 : decode b_MD_input 5 = .ok (.ifCond .eq 25, 3) := by decide +kernel
theorem d_MD_input_8 : decode b_MD_input 8 = .ok (.aload_n 0, 1) := by decide +kernel
theorem d_MD_input_9 : decode b_MD_input 9 = .ok (.iload_n 2, 1) := by decide +kernel
theorem d_MD_input_10 : decode b_MD_input 10 = .ok (.invokevirtual 83, 3) := by decide +kernel
theorem d_MD_input_13 : decode b_MD_input 13 = .ok (.ifCond .eq 17, 3) := by decide +kernel
theorem d_MD_input_16 : decode b_MD_input 16 = .ok (.aload_n 0, 1) := by decide +kernel
theorem d_MD_input_17 : decode b_MD_input 17 = .ok (.getfield 40, 3) := by decide +kernel
theorem d_MD_input_20 : decode b_MD_input 20 = .ok (.bipush 7, 2) := by decide +kernel
theorem d_MD_input_22 : decode b_MD_input 22 = .ok (.iload_n 1, 1) := by decide +kernel
theorem d_MD_input_23 : decode b_MD_input 23 = .ok (.imul, 1) := by decide +kernel
theorem d_MD_input_24 : decode b_MD_input 24 = .ok (.iload_n 2, 1) := by decide +kernel
theorem d_MD_input_25 : decode b_MD_input 25 = .ok (.iadd, 1) := by decide +kernel
theorem d_MD_input_26 : decode b_MD_input 26 = .ok (.iaload, 1) := by decide +kernel
theorem d_MD_input_27 : decode b_MD_input 27 = .ok (.goto 4, 3) := by decide +kernel
theorem d_MD_input_30 : decode b_MD_input 30 = .ok (.iconst 0, 1) := by decide +kernel
theorem d_MD_input_31 : decode b_MD_input 31 = .ok (.ireturn, 1) := by decide +kernel
theorem d_MD_charge_0 : decode b_MD_charge 0 = .ok (.aload_n 0, 1) := by decide +kernel
theorem d_MD_charge_1 : decode b_MD_charge 1 = .ok (.iload_n 1, 1) := by decide +kernel
theorem d_MD_charge_2 : decode b_MD_charge 2 = .ok (.invokevirtual 83, 3) := by decide +kernel
theorem d_MD_charge_5 : decode b_MD_charge 5 = .ok (.ifCond .eq 25, 3) := by decide +kernel
theorem d_MD_charge_8 : decode b_MD_charge 8 = .ok (.aload_n 0, 1) := by decide +kernel
theorem d_MD_charge_9 : decode b_MD_charge 9 = .ok (.iload_n 2, 1) := by decide +kernel
theorem d_MD_charge_10 : decode b_MD_charge 10 = .ok (.invokevirtual 83, 3) := by decide +kernel
theorem d_MD_charge_13 : decode b_MD_charge 13 = .ok (.ifCond .eq 17, 3) := by decide +kernel
theorem d_MD_charge_16 : decode b_MD_charge 16 = .ok (.aload_n 0, 1) := by decide +kernel
theorem d_MD_charge_17 : decode b_MD_charge 17 = .ok (.getfield 43, 3) := by decide +kernel
theorem d_MD_charge_20 : decode b_MD_charge 20 = .ok (.bipush 7, 2) := by decide +kernel
theorem d_MD_charge_22 : decode b_MD_charge 22 = .ok (.iload_n 1, 1) := by decide +kernel
theorem d_MD_charge_23 : decode b_MD_charge 23 = .ok (.imul, 1) := by decide +kernel
theorem d_MD_charge_24 : decode b_MD_charge 24 = .ok (.iload_n 2, 1) := by decide +kernel
theorem d_MD_charge_25 : decode b_MD_charge 25 = .ok (.iadd, 1) := by decide +kernel
theorem d_MD_charge_26 : decode b_MD_charge 26 = .ok (.iaload, 1) := by decide +kernel
theorem d_MD_charge_27 : decode b_MD_charge 27 = .ok (.goto 4, 3) := by decide +kernel
theorem d_MD_charge_30 : decode b_MD_charge 30 = .ok (.iconst 0, 1) := by decide +kernel
theorem d_MD_charge_31 : decode b_MD_charge 31 = .ok (.ireturn, 1) := by decide +kernel
theorem d_MD_word_0 : decode b_MD_word 0 = .ok (.aload_n 0, 1) := by decide +kernel
theorem d_MD_word_1 : decode b_MD_word 1 = .ok (.iload_n 1, 1) := by decide +kernel
theorem d_MD_word_2 : decode b_MD_word 2 = .ok (.invokevirtual 83, 3) := by decide +kernel
theorem d_MD_word_5 : decode b_MD_word 5 = .ok (.ifCond .eq 23, 3) := by decide +kernel
theorem d_MD_word_8 : decode b_MD_word 8 = .ok (.iload_n 2, 1) := by decide +kernel
theorem d_MD_word_9 : decode b_MD_word 9 = .ok (.invokestatic 87, 3) := by decide +kernel
theorem d_MD_word_12 : decode b_MD_word 12 = .ok (.ifCond .eq 16, 3) := by decide +kernel
theorem d_MD_word_15 : decode b_MD_word 15 = .ok (.aload_n 0, 1) := by decide +kernel
theorem d_MD_word_16 : decode b_MD_word 16 = .ok (.getfield 37, 3) := by decide +kernel
theorem d_MD_word_19 : decode b_MD_word 19 = .ok (.iconst 4, 1) := by decide +kernel
theorem d_MD_word_20 : decode b_MD_word 20 = .ok (.iload_n 1, 1) := by decide +kernel
theorem d_MD_word_21 : decode b_MD_word 21 = .ok (.imul, 1) := by decide +kernel
theorem d_MD_word_22 : decode b_MD_word 22 = .ok (.iload_n 2, 1) := by decide +kernel
theorem d_MD_word_23 : decode b_MD_word 23 = .ok (.iadd, 1) := by decide +kernel
theorem d_MD_word_24 : decode b_MD_word 24 = .ok (.iaload, 1) := by decide +kernel
theorem d_MD_word_25 : decode b_MD_word 25 = .ok (.goto 4, 3) := by decide +kernel
theorem d_MD_word_28 : decode b_MD_word 28 = .ok (.iconst 0, 1) := by decide +kernel
theorem d_MD_word_29 : decode b_MD_word 29 = .ok (.ireturn, 1) := by decide +kernel
theorem d_MD_members_0 : decode b_MD_members 0 = .ok (.aload_n 0, 1) := by decide +kernel
theorem d_MD_members_1 : decode b_MD_members 1 = .ok (.iload_n 1, 1) := by decide +kernel
theorem d_MD_members_2 : decode b_MD_members 2 = .ok (.invokevirtual 83, 3) := by decide +kernel
theorem d_MD_members_5 : decode b_MD_members 5 = .ok (.ifCond .eq 12, 3) := by decide +kernel
theorem d_MD_members_8 : decode b_MD_members 8 = .ok (.aload_n 0, 1) := by decide +kernel
theorem d_MD_members_9 : decode b_MD_members 9 = .ok (.getfield 25, 3) := by decide +kernel
theorem d_MD_members_12 : decode b_MD_members 12 = .ok (.iload_n 1, 1) := by decide +kernel
theorem d_MD_members_13 : decode b_MD_members 13 = .ok (.iaload, 1) := by decide +kernel
theorem d_MD_members_14 : decode b_MD_members 14 = .ok (.goto 4, 3) := by decide +kernel
theorem d_MD_members_17 : decode b_MD_members 17 = .ok (.iconst 0, 1) := by decide +kernel
theorem d_MD_members_18 : decode b_MD_members 18 = .ok (.ireturn, 1) := by decide +kernel
theorem d_MD_accused_0 : decode b_MD_accused 0 = .ok (.aload_n 0, 1) := by decide +kernel
theorem d_MD_accused_1 : decode b_MD_accused 1 = .ok (.iload_n 1, 1) := by decide +kernel
theorem d_MD_accused_2 : decode b_MD_accused 2 = .ok (.invokevirtual 83, 3) := by decide +kernel
theorem d_MD_accused_5 : decode b_MD_accused 5 = .ok (.ifCond .eq 12, 3) := by decide +kernel
theorem d_MD_accused_8 : decode b_MD_accused 8 = .ok (.aload_n 0, 1) := by decide +kernel
theorem d_MD_accused_9 : decode b_MD_accused 9 = .ok (.getfield 28, 3) := by decide +kernel
theorem d_MD_accused_12 : decode b_MD_accused 12 = .ok (.iload_n 1, 1) := by decide +kernel
theorem d_MD_accused_13 : decode b_MD_accused 13 = .ok (.iaload, 1) := by decide +kernel
theorem d_MD_accused_14 : decode b_MD_accused 14 = .ok (.goto 4, 3) := by decide +kernel
theorem d_MD_accused_17 : decode b_MD_accused 17 = .ok (.iconst 0, 1) := by decide +kernel
theorem d_MD_accused_18 : decode b_MD_accused 18 = .ok (.ireturn, 1) := by decide +kernel
theorem d_MD_spread_0 : decode b_MD_spread 0 = .ok (.iconst 0, 1) := by decide +kernel
theorem d_MD_spread_1 : decode b_MD_spread 1 = .ok (.istore_n 1, 1) := by decide +kernel
theorem d_MD_spread_2 : decode b_MD_spread 2 = .ok (.iconst 0, 1) := by decide +kernel
theorem d_MD_spread_3 : decode b_MD_spread 3 = .ok (.istore_n 2, 1) := by decide +kernel
theorem d_MD_spread_4 : decode b_MD_spread 4 = .ok (.iload_n 2, 1) := by decide +kernel
theorem d_MD_spread_5 : decode b_MD_spread 5 = .ok (.aload_n 0, 1) := by decide +kernel
theorem d_MD_spread_6 : decode b_MD_spread 6 = .ok (.getfield 73, 3) := by decide +kernel
theorem d_MD_spread_9 : decode b_MD_spread 9 = .ok (.if_icmp .ge 67, 3) := by decide +kernel
theorem d_MD_spread_12 : decode b_MD_spread 12 = .ok (.iconst 0, 1) := by decide +kernel
theorem d_MD_spread_13 : decode b_MD_spread 13 = .ok (.istore_n 3, 1) := by decide +kernel
theorem d_MD_spread_14 : decode b_MD_spread 14 = .ok (.iload_n 3, 1) := by decide +kernel
theorem d_MD_spread_15 : decode b_MD_spread 15 = .ok (.aload_n 0, 1) := by decide +kernel
theorem d_MD_spread_16 : decode b_MD_spread 16 = .ok (.getfield 73, 3) := by decide +kernel
theorem d_MD_spread_19 : decode b_MD_spread 19 = .ok (.if_icmp .ge 51, 3) := by decide +kernel
theorem d_MD_spread_22 : decode b_MD_spread 22 = .ok (.aload_n 0, 1) := by decide +kernel
theorem d_MD_spread_23 : decode b_MD_spread 23 = .ok (.getfield 7, 3) := by decide +kernel
theorem d_MD_spread_26 : decode b_MD_spread 26 = .ok (.iload_n 2, 1) := by decide +kernel
theorem d_MD_spread_27 : decode b_MD_spread 27 = .ok (.iaload, 1) := by decide +kernel
theorem d_MD_spread_28 : decode b_MD_spread 28 = .ok (.aload_n 0, 1) := by decide +kernel
theorem d_MD_spread_29 : decode b_MD_spread 29 = .ok (.getfield 7, 3) := by decide +kernel
theorem d_MD_spread_32 : decode b_MD_spread 32 = .ok (.iload_n 3, 1) := by decide +kernel
theorem d_MD_spread_33 : decode b_MD_spread 33 = .ok (.iaload, 1) := by decide +kernel
theorem d_MD_spread_34 : decode b_MD_spread 34 = .ok (.isub, 1) := by decide +kernel
theorem d_MD_spread_35 : decode b_MD_spread 35 = .ok (.istore 4, 2) := by decide +kernel
theorem d_MD_spread_37 : decode b_MD_spread 37 = .ok (.aload_n 0, 1) := by decide +kernel
theorem d_MD_spread_38 : decode b_MD_spread 38 = .ok (.getfield 19, 3) := by decide +kernel
theorem d_MD_spread_41 : decode b_MD_spread 41 = .ok (.iload_n 2, 1) := by decide +kernel
theorem d_MD_spread_42 : decode b_MD_spread 42 = .ok (.iaload, 1) := by decide +kernel
theorem d_MD_spread_43 : decode b_MD_spread 43 = .ok (.ifCond .ne 21, 3) := by decide +kernel
theorem d_MD_spread_46 : decode b_MD_spread 46 = .ok (.aload_n 0, 1) := by decide +kernel
theorem d_MD_spread_47 : decode b_MD_spread 47 = .ok (.getfield 19, 3) := by decide +kernel
theorem d_MD_spread_50 : decode b_MD_spread 50 = .ok (.iload_n 3, 1) := by decide +kernel
theorem d_MD_spread_51 : decode b_MD_spread 51 = .ok (.iaload, 1) := by decide +kernel
theorem d_MD_spread_52 : decode b_MD_spread 52 = .ok (.ifCond .ne 12, 3) := by decide +kernel
theorem d_MD_spread_55 : decode b_MD_spread 55 = .ok (.iload 4, 2) := by decide +kernel
theorem d_MD_spread_57 : decode b_MD_spread 57 = .ok (.iload_n 1, 1) := by decide +kernel
theorem d_MD_spread_58 : decode b_MD_spread 58 = .ok (.if_icmp .le 6, 3) := by decide +kernel
theorem d_MD_spread_61 : decode b_MD_spread 61 = .ok (.iload 4, 2) := by decide +kernel
theorem d_MD_spread_63 : decode b_MD_spread 63 = .ok (.istore_n 1, 1) := by decide +kernel
theorem d_MD_spread_64 : decode b_MD_spread 64 = .ok (.iinc 3 1, 3) := by decide +kernel
theorem d_MD_spread_67 : decode b_MD_spread 67 = .ok (.goto (-53), 3) := by decide +kernel
theorem d_MD_spread_70 : decode b_MD_spread 70 = .ok (.iinc 2 1, 3) := by decide +kernel
theorem d_MD_spread_73 : decode b_MD_spread 73 = .ok (.goto (-69), 3) := by decide +kernel
theorem d_MD_spread_76 : decode b_MD_spread 76 = .ok (.iload_n 1, 1) := by decide +kernel
theorem d_MD_spread_77 : decode b_MD_spread 77 = .ok (.ireturn, 1) := by decide +kernel
theorem d_MD_alike_0 : decode b_MD_alike 0 = .ok (.iconst 1, 1) := by decide +kernel
theorem d_MD_alike_1 : decode b_MD_alike 1 = .ok (.istore_n 1, 1) := by decide +kernel
theorem d_MD_alike_2 : decode b_MD_alike 2 = .ok (.iconst 0, 1) := by decide +kernel
theorem d_MD_alike_3 : decode b_MD_alike 3 = .ok (.istore_n 2, 1) := by decide +kernel
theorem d_MD_alike_4 : decode b_MD_alike 4 = .ok (.iload_n 2, 1) := by decide +kernel
theorem d_MD_alike_5 : decode b_MD_alike 5 = .ok (.aload_n 0, 1) := by decide +kernel
theorem d_MD_alike_6 : decode b_MD_alike 6 = .ok (.getfield 73, 3) := by decide +kernel
theorem d_MD_alike_9 : decode b_MD_alike 9 = .ok (.if_icmp .ge 59, 3) := by decide +kernel
theorem d_MD_alike_12 : decode b_MD_alike 12 = .ok (.iconst 0, 1) := by decide +kernel
theorem d_MD_alike_13 : decode b_MD_alike 13 = .ok (.istore_n 3, 1) := by decide +kernel
theorem d_MD_alike_14 : decode b_MD_alike 14 = .ok (.iload_n 3, 1) := by decide +kernel
theorem d_MD_alike_15 : decode b_MD_alike 15 = .ok (.iload_n 2, 1) := by decide +kernel
theorem d_MD_alike_16 : decode b_MD_alike 16 = .ok (.if_icmp .ge 46, 3) := by decide +kernel
theorem d_MD_alike_19 : decode b_MD_alike 19 = .ok (.aload_n 0, 1) := by decide +kernel
theorem d_MD_alike_20 : decode b_MD_alike 20 = .ok (.getfield 19, 3) := by decide +kernel
theorem d_MD_alike_23 : decode b_MD_alike 23 = .ok (.iload_n 2, 1) := by decide +kernel
theorem d_MD_alike_24 : decode b_MD_alike 24 = .ok (.iaload, 1) := by decide +kernel
theorem d_MD_alike_25 : decode b_MD_alike 25 = .ok (.ifCond .ne 31, 3) := by decide +kernel
theorem d_MD_alike_28 : decode b_MD_alike 28 = .ok (.aload_n 0, 1) := by decide +kernel
theorem d_MD_alike_29 : decode b_MD_alike 29 = .ok (.getfield 19, 3) := by decide +kernel
theorem d_MD_alike_32 : decode b_MD_alike 32 = .ok (.iload_n 3, 1) := by decide +kernel
theorem d_MD_alike_33 : decode b_MD_alike 33 = .ok (.iaload, 1) := by decide +kernel
theorem d_MD_alike_34 : decode b_MD_alike 34 = .ok (.ifCond .ne 22, 3) := by decide +kernel
theorem d_MD_alike_37 : decode b_MD_alike 37 = .ok (.iload_n 1, 1) := by decide +kernel
theorem d_MD_alike_38 : decode b_MD_alike 38 = .ok (.ifCond .eq 16, 3) := by decide +kernel
theorem d_MD_alike_41 : decode b_MD_alike 41 = .ok (.aload_n 0, 1) := by decide +kernel
theorem d_MD_alike_42 : decode b_MD_alike 42 = .ok (.iload_n 2, 1) := by decide +kernel
theorem d_MD_alike_43 : decode b_MD_alike 43 = .ok (.iload_n 3, 1) := by decide +kernel
theorem d_MD_alike_44 : decode b_MD_alike 44 = .ok (.invokevirtual 176, 3) := by decide +kernel
theorem d_MD_alike_47 : decode b_MD_alike 47 = .ok (.ifCond .eq 7, 3) := by decide +kernel
theorem d_MD_alike_50 : decode b_MD_alike 50 = .ok (.iconst 1, 1) := by decide +kernel
theorem d_MD_alike_51 : decode b_MD_alike 51 = .ok (.goto 4, 3) := by decide +kernel
theorem d_MD_alike_54 : decode b_MD_alike 54 = .ok (.iconst 0, 1) := by decide +kernel
theorem d_MD_alike_55 : decode b_MD_alike 55 = .ok (.istore_n 1, 1) := by decide +kernel
theorem d_MD_alike_56 : decode b_MD_alike 56 = .ok (.iinc 3 1, 3) := by decide +kernel
theorem d_MD_alike_59 : decode b_MD_alike 59 = .ok (.goto (-45), 3) := by decide +kernel
theorem d_MD_alike_62 : decode b_MD_alike 62 = .ok (.iinc 2 1, 3) := by decide +kernel
theorem d_MD_alike_65 : decode b_MD_alike 65 = .ok (.goto (-61), 3) := by decide +kernel
theorem d_MD_alike_68 : decode b_MD_alike 68 = .ok (.iload_n 1, 1) := by decide +kernel
theorem d_MD_alike_69 : decode b_MD_alike 69 = .ok (.ireturn, 1) := by decide +kernel
theorem d_MD_twins_0 : decode b_MD_twins 0 = .ok (.aload_n 0, 1) := by decide +kernel
theorem d_MD_twins_1 : decode b_MD_twins 1 = .ok (.getfield 25, 3) := by decide +kernel
theorem d_MD_twins_4 : decode b_MD_twins 4 = .ok (.iload_n 1, 1) := by decide +kernel
theorem d_MD_twins_5 : decode b_MD_twins 5 = .ok (.iaload, 1) := by decide +kernel
theorem d_MD_twins_6 : decode b_MD_twins 6 = .ok (.aload_n 0, 1) := by decide +kernel
theorem d_MD_twins_7 : decode b_MD_twins 7 = .ok (.getfield 25, 3) := by decide +kernel
theorem d_MD_twins_10 : decode b_MD_twins 10 = .ok (.iload_n 2, 1) := by decide +kernel
theorem d_MD_twins_11 : decode b_MD_twins 11 = .ok (.iaload, 1) := by decide +kernel
theorem d_MD_twins_12 : decode b_MD_twins 12 = .ok (.if_icmp .ne 7, 3) := by decide +kernel
theorem d_MD_twins_15 : decode b_MD_twins 15 = .ok (.iconst 1, 1) := by decide +kernel
theorem d_MD_twins_16 : decode b_MD_twins 16 = .ok (.goto 4, 3) := by decide +kernel
theorem d_MD_twins_19 : decode b_MD_twins 19 = .ok (.iconst 0, 1) := by decide +kernel
theorem d_MD_twins_20 : decode b_MD_twins 20 = .ok (.istore_n 3, 1) := by decide +kernel
theorem d_MD_twins_21 : decode b_MD_twins 21 = .ok (.iconst 0, 1) := by decide +kernel
theorem d_MD_twins_22 : decode b_MD_twins 22 = .ok (.istore 4, 2) := by decide +kernel
theorem d_MD_twins_24 : decode b_MD_twins 24 = .ok (.iload 4, 2) := by decide +kernel
theorem d_MD_twins_26 : decode b_MD_twins 26 = .ok (.iconst 4, 1) := by decide +kernel
theorem d_MD_twins_27 : decode b_MD_twins 27 = .ok (.if_icmp .ge 44, 3) := by decide +kernel
theorem d_MD_twins_30 : decode b_MD_twins 30 = .ok (.iload_n 3, 1) := by decide +kernel
theorem d_MD_twins_31 : decode b_MD_twins 31 = .ok (.ifCond .eq 32, 3) := by decide +kernel
theorem d_MD_twins_34 : decode b_MD_twins 34 = .ok (.aload_n 0, 1) := by decide +kernel
theorem d_MD_twins_35 : decode b_MD_twins 35 = .ok (.getfield 37, 3) := by decide +kernel
theorem d_MD_twins_38 : decode b_MD_twins 38 = .ok (.iconst 4, 1) := by decide +kernel
theorem d_MD_twins_39 : decode b_MD_twins 39 = .ok (.iload_n 1, 1) := by decide +kernel
theorem d_MD_twins_40 : decode b_MD_twins 40 = .ok (.imul, 1) := by decide +kernel
theorem d_MD_twins_41 : decode b_MD_twins 41 = .ok (.iload 4, 2) := by decide +kernel
theorem d_MD_twins_43 : decode b_MD_twins 43 = .ok (.iadd, 1) := by decide +kernel
theorem d_MD_twins_44 : decode b_MD_twins 44 = .ok (.iaload, 1) := by decide +kernel
theorem d_MD_twins_45 : decode b_MD_twins 45 = .ok (.aload_n 0, 1) := by decide +kernel
theorem d_MD_twins_46 : decode b_MD_twins 46 = .ok (.getfield 37, 3) := by decide +kernel
theorem d_MD_twins_49 : decode b_MD_twins 49 = .ok (.iconst 4, 1) := by decide +kernel
theorem d_MD_twins_50 : decode b_MD_twins 50 = .ok (.iload_n 2, 1) := by decide +kernel
theorem d_MD_twins_51 : decode b_MD_twins 51 = .ok (.imul, 1) := by decide +kernel
theorem d_MD_twins_52 : decode b_MD_twins 52 = .ok (.iload 4, 2) := by decide +kernel
theorem d_MD_twins_54 : decode b_MD_twins 54 = .ok (.iadd, 1) := by decide +kernel
theorem d_MD_twins_55 : decode b_MD_twins 55 = .ok (.iaload, 1) := by decide +kernel
theorem d_MD_twins_56 : decode b_MD_twins 56 = .ok (.if_icmp .ne 7, 3) := by decide +kernel
theorem d_MD_twins_59 : decode b_MD_twins 59 = .ok (.iconst 1, 1) := by decide +kernel
theorem d_MD_twins_60 : decode b_MD_twins 60 = .ok (.goto 4, 3) := by decide +kernel
theorem d_MD_twins_63 : decode b_MD_twins 63 = .ok (.iconst 0, 1) := by decide +kernel
theorem d_MD_twins_64 : decode b_MD_twins 64 = .ok (.istore_n 3, 1) := by decide +kernel
theorem d_MD_twins_65 : decode b_MD_twins 65 = .ok (.iinc 4 1, 3) := by decide +kernel
theorem d_MD_twins_68 : decode b_MD_twins 68 = .ok (.goto (-44), 3) := by decide +kernel
theorem d_MD_twins_71 : decode b_MD_twins 71 = .ok (.iconst 0, 1) := by decide +kernel
theorem d_MD_twins_72 : decode b_MD_twins 72 = .ok (.istore 4, 2) := by decide +kernel
theorem d_MD_twins_74 : decode b_MD_twins 74 = .ok (.iload 4, 2) := by decide +kernel
theorem d_MD_twins_76 : decode b_MD_twins 76 = .ok (.aload_n 0, 1) := by decide +kernel
theorem d_MD_twins_77 : decode b_MD_twins 77 = .ok (.getfield 73, 3) := by decide +kernel
theorem d_MD_twins_80 : decode b_MD_twins 80 = .ok (.if_icmp .ge 46, 3) := by decide +kernel
theorem d_MD_twins_83 : decode b_MD_twins 83 = .ok (.iload_n 3, 1) := by decide +kernel
theorem d_MD_twins_84 : decode b_MD_twins 84 = .ok (.ifCond .eq 34, 3) := by decide +kernel
theorem d_MD_twins_87 : decode b_MD_twins 87 = .ok (.aload_n 0, 1) := by decide +kernel
theorem d_MD_twins_88 : decode b_MD_twins 88 = .ok (.getfield 40, 3) := by decide +kernel
theorem d_MD_twins_91 : decode b_MD_twins 91 = .ok (.bipush 7, 2) := by decide +kernel
theorem d_MD_twins_93 : decode b_MD_twins 93 = .ok (.iload_n 1, 1) := by decide +kernel
theorem d_MD_twins_94 : decode b_MD_twins 94 = .ok (.imul, 1) := by decide +kernel
theorem d_MD_twins_95 : decode b_MD_twins 95 = .ok (.iload 4, 2) := by decide +kernel
theorem d_MD_twins_97 : decode b_MD_twins 97 = .ok (.iadd, 1) := by decide +kernel
theorem d_MD_twins_98 : decode b_MD_twins 98 = .ok (.iaload, 1) := by decide +kernel
theorem d_MD_twins_99 : decode b_MD_twins 99 = .ok (.aload_n 0, 1) := by decide +kernel
theorem d_MD_twins_100 : decode b_MD_twins 100 = .ok (.getfield 40, 3) := by decide +kernel
theorem d_MD_twins_103 : decode b_MD_twins 103 = .ok (.bipush 7, 2) := by decide +kernel
theorem d_MD_twins_105 : decode b_MD_twins 105 = .ok (.iload_n 2, 1) := by decide +kernel
theorem d_MD_twins_106 : decode b_MD_twins 106 = .ok (.imul, 1) := by decide +kernel
theorem d_MD_twins_107 : decode b_MD_twins 107 = .ok (.iload 4, 2) := by decide +kernel
theorem d_MD_twins_109 : decode b_MD_twins 109 = .ok (.iadd, 1) := by decide +kernel
theorem d_MD_twins_110 : decode b_MD_twins 110 = .ok (.iaload, 1) := by decide +kernel
theorem d_MD_twins_111 : decode b_MD_twins 111 = .ok (.if_icmp .ne 7, 3) := by decide +kernel
theorem d_MD_twins_114 : decode b_MD_twins 114 = .ok (.iconst 1, 1) := by decide +kernel
theorem d_MD_twins_115 : decode b_MD_twins 115 = .ok (.goto 4, 3) := by decide +kernel
theorem d_MD_twins_118 : decode b_MD_twins 118 = .ok (.iconst 0, 1) := by decide +kernel
theorem d_MD_twins_119 : decode b_MD_twins 119 = .ok (.istore_n 3, 1) := by decide +kernel
theorem d_MD_twins_120 : decode b_MD_twins 120 = .ok (.iinc 4 1, 3) := by decide +kernel
theorem d_MD_twins_123 : decode b_MD_twins 123 = .ok (.goto (-49), 3) := by decide +kernel
theorem d_MD_twins_126 : decode b_MD_twins 126 = .ok (.iload_n 3, 1) := by decide +kernel
theorem d_MD_twins_127 : decode b_MD_twins 127 = .ok (.ireturn, 1) := by decide +kernel
theorem d_MD_solo_0 : decode b_MD_solo 0 = .ok (.iload_n 1, 1) := by decide +kernel
theorem d_MD_solo_1 : decode b_MD_solo 1 = .ok (.invokestatic 87, 3) := by decide +kernel
theorem d_MD_solo_4 : decode b_MD_solo 4 = .ok (.ifCond .eq 15, 3) := by decide +kernel
theorem d_MD_solo_7 : decode b_MD_solo 7 = .ok (.aload_n 0, 1) := by decide +kernel
theorem d_MD_solo_8 : decode b_MD_solo 8 = .ok (.getfield 37, 3) := by decide +kernel
theorem d_MD_solo_11 : decode b_MD_solo 11 = .ok (.bipush 28, 2) := by decide +kernel
theorem d_MD_solo_13 : decode b_MD_solo 13 = .ok (.iload_n 1, 1) := by decide +kernel
theorem d_MD_solo_14 : decode b_MD_solo 14 = .ok (.iadd, 1) := by decide +kernel
theorem d_MD_solo_15 : decode b_MD_solo 15 = .ok (.iaload, 1) := by decide +kernel
theorem d_MD_solo_16 : decode b_MD_solo 16 = .ok (.goto 4, 3) := by decide +kernel
theorem d_MD_solo_19 : decode b_MD_solo 19 = .ok (.iconst 0, 1) := by decide +kernel
theorem d_MD_solo_20 : decode b_MD_solo 20 = .ok (.ireturn, 1) := by decide +kernel
