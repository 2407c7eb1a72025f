theorem dX7_init_0 : decode cX7_init 0 = .ok (.aload_n 0, 1) := by decide +kernel
theorem dX7_init_1 : decode cX7_init 1 = .ok (.invokespecial 1, 3) := by decide +kernel
theorem dX7_init_4 : decode cX7_init 4 = .ok (.aload_n 0, 1) := by decide +kernel
theorem dX7_init_5 : decode cX7_init 5 = .ok (.iconst 1, 1) := by decide +kernel
theorem dX7_init_6 : decode cX7_init 6 = .ok (.putfield 7, 3) := by decide +kernel
theorem dX7_init_9 : decode cX7_init 9 = .ok (.aload_n 0, 1) := by decide +kernel
theorem dX7_init_10 : decode cX7_init 10 = .ok (.bipush 90, 2) := by decide +kernel
theorem dX7_init_12 : decode cX7_init 12 = .ok (.newarray .int, 2) := by decide +kernel
theorem dX7_init_14 : decode cX7_init 14 = .ok (.putfield 13, 3) := by decide +kernel
theorem dX7_init_17 : decode cX7_init 17 = .ok (.aload_n 0, 1) := by decide +kernel
theorem dX7_init_18 : decode cX7_init 18 = .ok (.bipush 80, 2) := by decide +kernel
theorem dX7_init_20 : decode cX7_init 20 = .ok (.newarray .int, 2) := by decide +kernel
theorem dX7_init_22 : decode cX7_init 22 = .ok (.putfield 17, 3) := by decide +kernel
theorem dX7_init_25 : decode cX7_init 25 = .ok (.aload_n 0, 1) := by decide +kernel
theorem dX7_init_26 : decode cX7_init 26 = .ok (.bipush 10, 2) := by decide +kernel
theorem dX7_init_28 : decode cX7_init 28 = .ok (.newarray .int, 2) := by decide +kernel
theorem dX7_init_30 : decode cX7_init 30 = .ok (.putfield 20, 3) := by decide +kernel
theorem dX7_init_33 : decode cX7_init 33 = .ok (.aload_n 0, 1) := by decide +kernel
theorem dX7_init_34 : decode cX7_init 34 = .ok (.bipush 10, 2) := by decide +kernel
theorem dX7_init_36 : decode cX7_init 36 = .ok (.newarray .int, 2) := by decide +kernel
theorem dX7_init_38 : decode cX7_init 38 = .ok (.putfield 23, 3) := by decide +kernel
theorem dX7_init_41 : decode cX7_init 41 = .ok (.aload_n 0, 1) := by decide +kernel
theorem dX7_init_42 : decode cX7_init 42 = .ok (.sipush 1001, 3) := by decide +kernel
theorem dX7_init_45 : decode cX7_init 45 = .ok (.newarray .int, 2) := by decide +kernel
theorem dX7_init_47 : decode cX7_init 47 = .ok (.putfield 26, 3) := by decide +kernel
theorem dX7_init_50 : decode cX7_init 50 = .ok (.aload_n 0, 1) := by decide +kernel
theorem dX7_init_51 : decode cX7_init 51 = .ok (.bipush 12, 2) := by decide +kernel
theorem dX7_init_53 : decode cX7_init 53 = .ok (.newarray .int, 2) := by decide +kernel
theorem dX7_init_55 : decode cX7_init 55 = .ok (.putfield 29, 3) := by decide +kernel
theorem dX7_init_58 : decode cX7_init 58 = .ok (.aload_n 0, 1) := by decide +kernel
theorem dX7_init_59 : decode cX7_init 59 = .ok (.bipush 12, 2) := by decide +kernel
theorem dX7_init_61 : decode cX7_init 61 = .ok (.newarray .int, 2) := by decide +kernel
theorem dX7_init_63 : decode cX7_init 63 = .ok (.putfield 32, 3) := by decide +kernel
theorem dX7_init_66 : decode cX7_init 66 = .ok (.aload_n 0, 1) := by decide +kernel
theorem dX7_init_67 : decode cX7_init 67 = .ok (.bipush 12, 2) := by decide +kernel
theorem dX7_init_69 : decode cX7_init 69 = .ok (.newarray .int, 2) := by decide +kernel
theorem dX7_init_71 : decode cX7_init 71 = .ok (.putfield 35, 3) := by decide +kernel
theorem dX7_init_74 : decode cX7_init 74 = .ok (.aload_n 0, 1) := by decide +kernel
theorem dX7_init_75 : decode cX7_init 75 = .ok (.bipush 120, 2) := by decide +kernel
theorem dX7_init_77 : decode cX7_init 77 = .ok (.newarray .boolean, 2) := by decide +kernel
theorem dX7_init_79 : decode cX7_init 79 = .ok (.putfield 38, 3) := by decide +kernel
theorem dX7_init_82 : decode cX7_init 82 = .ok (.aload_n 0, 1) := by decide +kernel
theorem dX7_init_83 : decode cX7_init 83 = .ok (.bipush 12, 2) := by decide +kernel
theorem dX7_init_85 : decode cX7_init 85 = .ok (.newarray .int, 2) := by decide +kernel
theorem dX7_init_87 : decode cX7_init 87 = .ok (.putfield 42, 3) := by decide +kernel
theorem dX7_init_90 : decode cX7_init 90 = .ok (.aload_n 0, 1) := by decide +kernel
theorem dX7_init_91 : decode cX7_init 91 = .ok (.bipush 12, 2) := by decide +kernel
theorem dX7_init_93 : decode cX7_init 93 = .ok (.newarray .int, 2) := by decide +kernel
theorem dX7_init_95 : decode cX7_init 95 = .ok (.putfield 45, 3) := by decide +kernel
theorem dX7_init_98 : decode cX7_init 98 = .ok (.aload_n 0, 1) := by decide +kernel
theorem dX7_init_99 : decode cX7_init 99 = .ok (.sipush 288, 3) := by decide +kernel
theorem dX7_init_102 : decode cX7_init 102 = .ok (.newarray .int, 2) := by decide +kernel
theorem dX7_init_104 : decode cX7_init 104 = .ok (.putfield 48, 3) := by decide +kernel
theorem dX7_init_107 : decode cX7_init 107 = .ok (.aload_n 0, 1) := by decide +kernel
theorem dX7_init_108 : decode cX7_init 108 = .ok (.sipush 288, 3) := by decide +kernel
theorem dX7_init_111 : decode cX7_init 111 = .ok (.newarray .int, 2) := by decide +kernel
theorem dX7_init_113 : decode cX7_init 113 = .ok (.putfield 51, 3) := by decide +kernel
theorem dX7_init_116 : decode cX7_init 116 = .ok (.aload_n 0, 1) := by decide +kernel
theorem dX7_init_117 : decode cX7_init 117 = .ok (.bipush 48, 2) := by decide +kernel
theorem dX7_init_119 : decode cX7_init 119 = .ok (.newarray .long, 2) := by decide +kernel
theorem dX7_init_121 : decode cX7_init 121 = .ok (.putfield 54, 3) := by decide +kernel
theorem dX7_init_124 : decode cX7_init 124 = .ok (.aload_n 0, 1) := by decide +kernel
theorem dX7_init_125 : decode cX7_init 125 = .ok (.bipush 64, 2) := by decide +kernel
theorem dX7_init_127 : decode cX7_init 127 = .ok (.newarray .int, 2) := by decide +kernel
theorem dX7_init_129 : decode cX7_init 129 = .ok (.putfield 58, 3) := by decide +kernel
theorem dX7_init_132 : decode cX7_init 132 = .ok (.aload_n 0, 1) := by decide +kernel
theorem dX7_init_133 : decode cX7_init 133 = .ok (.bipush 64, 2) := by decide +kernel
theorem dX7_init_135 : decode cX7_init 135 = .ok (.newarray .int, 2) := by decide +kernel
theorem dX7_init_137 : decode cX7_init 137 = .ok (.putfield 61, 3) := by decide +kernel
theorem dX7_init_140 : decode cX7_init 140 = .ok (.aload_n 0, 1) := by decide +kernel
theorem dX7_init_141 : decode cX7_init 141 = .ok (.bipush 64, 2) := by decide +kernel
theorem dX7_init_143 : decode cX7_init 143 = .ok (.newarray .long, 2) := by decide +kernel
theorem dX7_init_145 : decode cX7_init 145 = .ok (.putfield 64, 3) := by decide +kernel
theorem dX7_init_148 : decode cX7_init 148 = .ok (.aload_n 0, 1) := by decide +kernel
theorem dX7_init_149 : decode cX7_init 149 = .ok (.bipush 64, 2) := by decide +kernel
theorem dX7_init_151 : decode cX7_init 151 = .ok (.newarray .int, 2) := by decide +kernel
theorem dX7_init_153 : decode cX7_init 153 = .ok (.putfield 67, 3) := by decide +kernel
theorem dX7_init_156 : decode cX7_init 156 = .ok (.aload_n 0, 1) := by decide +kernel
theorem dX7_init_157 : decode cX7_init 157 = .ok (.bipush 64, 2) := by decide +kernel
theorem dX7_init_159 : decode cX7_init 159 = .ok (.newarray .int, 2) := by decide +kernel
theorem dX7_init_161 : decode cX7_init 161 = .ok (.putfield 70, 3) := by decide +kernel
theorem dX7_init_164 : decode cX7_init 164 = .ok (.aload_n 0, 1) := by decide +kernel
theorem dX7_init_165 : decode cX7_init 165 = .ok (.bipush 24, 2) := by decide +kernel
theorem dX7_init_167 : decode cX7_init 167 = .ok (.newarray .long, 2) := by decide +kernel
theorem dX7_init_169 : decode cX7_init 169 = .ok (.putfield 73, 3) := by decide +kernel
theorem dX7_init_172 : decode cX7_init 172 = .ok (.aload_n 0, 1) := by decide +kernel
theorem dX7_init_173 : decode cX7_init 173 = .ok (.iconst 4, 1) := by decide +kernel
theorem dX7_init_174 : decode cX7_init 174 = .ok (.newarray .long, 2) := by decide +kernel
theorem dX7_init_176 : decode cX7_init 176 = .ok (.putfield 76, 3) := by decide +kernel
theorem dX7_init_179 : decode cX7_init 179 = .ok (.aload_n 0, 1) := by decide +kernel
theorem dX7_init_180 : decode cX7_init 180 = .ok (.bipush 48, 2) := by decide +kernel
theorem dX7_init_182 : decode cX7_init 182 = .ok (.newarray .long, 2) := by decide +kernel
theorem dX7_init_184 : decode cX7_init 184 = .ok (.putfield 79, 3) := by decide +kernel
theorem dX7_init_187 : decode cX7_init 187 = .ok (.iconst 0, 1) := by decide +kernel
theorem dX7_init_188 : decode cX7_init 188 = .ok (.istore_n 1, 1) := by decide +kernel
theorem dX7_init_189 : decode cX7_init 189 = .ok (.iload_n 1, 1) := by decide +kernel
theorem dX7_init_190 : decode cX7_init 190 = .ok (.bipush 9, 2) := by decide +kernel
theorem dX7_init_192 : decode cX7_init 192 = .ok (.if_icmp .ge 16, 3) := by decide +kernel
theorem dX7_init_195 : decode cX7_init 195 = .ok (.aload_n 0, 1) := by decide +kernel
theorem dX7_init_196 : decode cX7_init 196 = .ok (.getfield 13, 3) := by decide +kernel
theorem dX7_init_199 : decode cX7_init 199 = .ok (.iload_n 1, 1) := by decide +kernel
theorem dX7_init_200 : decode cX7_init 200 = .ok (.iconst 1, 1) := by decide +kernel
theorem dX7_init_201 : decode cX7_init 201 = .ok (.iastore, 1) := by decide +kernel
theorem dX7_init_202 : decode cX7_init 202 = .ok (.iinc 1 1, 3) := by decide +kernel
theorem dX7_init_205 : decode cX7_init 205 = .ok (.goto (-16), 3) := by decide +kernel
theorem dX7_init_208 : decode cX7_init 208 = .ok (.iconst 0, 1) := by decide +kernel
theorem dX7_init_209 : decode cX7_init 209 = .ok (.istore_n 1, 1) := by decide +kernel
theorem dX7_init_210 : decode cX7_init 210 = .ok (.iload_n 1, 1) := by decide +kernel
theorem dX7_init_211 : decode cX7_init 211 = .ok (.bipush 8, 2) := by decide +kernel
theorem dX7_init_213 : decode cX7_init 213 = .ok (.if_icmp .ge 16, 3) := by decide +kernel
theorem dX7_init_216 : decode cX7_init 216 = .ok (.aload_n 0, 1) := by decide +kernel
theorem dX7_init_217 : decode cX7_init 217 = .ok (.getfield 17, 3) := by decide +kernel
theorem dX7_init_220 : decode cX7_init 220 = .ok (.iload_n 1, 1) := by decide +kernel
theorem dX7_init_221 : decode cX7_init 221 = .ok (.iconst (-1), 1) := by decide +kernel
theorem dX7_init_222 : decode cX7_init 222 = .ok (.iastore, 1) := by decide +kernel
theorem dX7_init_223 : decode cX7_init 223 = .ok (.iinc 1 1, 3) := by decide +kernel
theorem dX7_init_226 : decode cX7_init 226 = .ok (.goto (-16), 3) := by decide +kernel
theorem dX7_init_229 : decode cX7_init 229 = .ok (.aload_n 0, 1) := by decide +kernel
theorem dX7_init_230 : decode cX7_init 230 = .ok (.getfield 23, 3) := by decide +kernel
theorem dX7_init_233 : decode cX7_init 233 = .ok (.iconst 0, 1) := by decide +kernel
theorem dX7_init_234 : decode cX7_init 234 = .ok (.iconst 2, 1) := by decide +kernel
theorem dX7_init_235 : decode cX7_init 235 = .ok (.iastore, 1) := by decide +kernel
theorem dX7_init_236 : decode cX7_init 236 = .ok (.return_, 1) := by decide +kernel
theorem dX7_in_0 : decode cX7_in 0 = .ok (.iload_n 0, 1) := by decide +kernel
theorem dX7_in_1 : decode cX7_in 1 = .ok (.iload_n 1, 1) := by decide +kernel
theorem dX7_in_2 : decode cX7_in 2 = .ok (.if_icmp .lt 12, 3) := by decide +kernel
theorem dX7_in_5 : decode cX7_in 5 = .ok (.iload_n 0, 1) := by decide +kernel
theorem dX7_in_6 : decode cX7_in 6 = .ok (.iload_n 2, 1) := by decide +kernel
theorem dX7_in_7 : decode cX7_in 7 = .ok (.if_icmp .gt 7, 3) := by decide +kernel
theorem dX7_in_10 : decode cX7_in 10 = .ok (.iconst 1, 1) := by decide +kernel
theorem dX7_in_11 : decode cX7_in 11 = .ok (.goto 4, 3) := by decide +kernel
theorem dX7_in_14 : decode cX7_in 14 = .ok (.iconst 0, 1) := by decide +kernel
theorem dX7_in_15 : decode cX7_in 15 = .ok (.ireturn, 1) := by decide +kernel
theorem dX7_isEdition_0 : decode cX7_isEdition 0 = .ok (.iload_n 1, 1) := by decide +kernel
theorem dX7_isEdition_1 : decode cX7_isEdition 1 = .ok (.iconst 0, 1) := by decide +kernel
theorem dX7_isEdition_2 : decode cX7_isEdition 2 = .ok (.aload_n 0, 1) := by decide +kernel
theorem dX7_isEdition_3 : decode cX7_isEdition 3 = .ok (.getfield 7, 3) := by decide +kernel
theorem dX7_isEdition_6 : decode cX7_isEdition 6 = .ok (.iconst 1, 1) := by decide +kernel
theorem dX7_isEdition_7 : decode cX7_isEdition 7 = .ok (.isub, 1) := by decide +kernel
theorem dX7_isEdition_8 : decode cX7_isEdition 8 = .ok (.invokestatic 82, 3) := by decide +kernel
theorem dX7_isEdition_11 : decode cX7_isEdition 11 = .ok (.ireturn, 1) := by decide +kernel
theorem dX7_isNode_0 : decode cX7_isNode 0 = .ok (.iload_n 1, 1) := by decide +kernel
theorem dX7_isNode_1 : decode cX7_isNode 1 = .ok (.iconst 0, 1) := by decide +kernel
theorem dX7_isNode_2 : decode cX7_isNode 2 = .ok (.aload_n 0, 1) := by decide +kernel
theorem dX7_isNode_3 : decode cX7_isNode 3 = .ok (.getfield 86, 3) := by decide +kernel
theorem dX7_isNode_6 : decode cX7_isNode 6 = .ok (.iconst 1, 1) := by decide +kernel
theorem dX7_isNode_7 : decode cX7_isNode 7 = .ok (.isub, 1) := by decide +kernel
theorem dX7_isNode_8 : decode cX7_isNode 8 = .ok (.invokestatic 82, 3) := by decide +kernel
theorem dX7_isNode_11 : decode cX7_isNode 11 = .ok (.ireturn, 1) := by decide +kernel
theorem dX7_isContract_0 : decode cX7_isContract 0 = .ok (.iload_n 1, 1) := by decide +kernel
theorem dX7_isContract_1 : decode cX7_isContract 1 = .ok (.iconst 0, 1) := by decide +kernel
theorem dX7_isContract_2 : decode cX7_isContract 2 = .ok (.aload_n 0, 1) := by decide +kernel
theorem dX7_isContract_3 : decode cX7_isContract 3 = .ok (.getfield 89, 3) := by decide +kernel
theorem dX7_isContract_6 : decode cX7_isContract 6 = .ok (.iconst 1, 1) := by decide +kernel
theorem dX7_isContract_7 : decode cX7_isContract 7 = .ok (.isub, 1) := by decide +kernel
theorem dX7_isContract_8 : decode cX7_isContract 8 = .ok (.invokestatic 82, 3) := by decide +kernel
theorem dX7_isContract_11 : decode cX7_isContract 11 = .ok (.ireturn, 1) := by decide +kernel
theorem dX7_edition_0 : decode cX7_edition 0 = .ok (.aload_n 0, 1) := by decide +kernel
theorem dX7_edition_1 : decode cX7_edition 1 = .ok (.iload_n 1, 1) := by decide +kernel
theorem dX7_edition_2 : decode cX7_edition 2 = .ok (.invokevirtual 92, 3) := by decide +kernel
theorem dX7_edition_5 : decode cX7_edition 5 = .ok (.ifCond .ne 6, 3) := by decide +kernel
theorem dX7_edition_8 : decode cX7_edition 8 = .ok (.bipush (-2), 2) := by decide +kernel
theorem dX7_edition_10 : decode cX7_edition 10 = .ok (.ireturn, 1) := by decide +kernel
theorem dX7_edition_11 : decode cX7_edition 11 = .ok (.aload_n 0, 1) := by decide +kernel
theorem dX7_edition_12 : decode cX7_edition 12 = .ok (.getfield 7, 3) := by decide +kernel
theorem dX7_edition_15 : decode cX7_edition 15 = .ok (.bipush 10, 2) := by decide +kernel
theorem dX7_edition_17 : decode cX7_edition 17 = .ok (.if_icmp .ne 6, 3) := by decide +kernel
theorem dX7_edition_20 : decode cX7_edition 20 = .ok (.bipush (-4), 2) := by decide +kernel
theorem dX7_edition_22 : decode cX7_edition 22 = .ok (.ireturn, 1) := by decide +kernel
theorem dX7_edition_23 : decode cX7_edition 23 = .ok (.iconst 0, 1) := by decide +kernel
theorem dX7_edition_24 : decode cX7_edition 24 = .ok (.istore_n 2, 1) := by decide +kernel
theorem dX7_edition_25 : decode cX7_edition 25 = .ok (.iload_n 2, 1) := by decide +kernel
theorem dX7_edition_26 : decode cX7_edition 26 = .ok (.bipush 9, 2) := by decide +kernel
theorem dX7_edition_28 : decode cX7_edition 28 = .ok (.if_icmp .ge 34, 3) := by decide +kernel
theorem dX7_edition_31 : decode cX7_edition 31 = .ok (.aload_n 0, 1) := by decide +kernel
theorem dX7_edition_32 : decode cX7_edition 32 = .ok (.getfield 13, 3) := by decide +kernel
theorem dX7_edition_35 : decode cX7_edition 35 = .ok (.bipush 9, 2) := by decide +kernel
theorem dX7_edition_37 : decode cX7_edition 37 = .ok (.aload_n 0, 1) := by decide +kernel
theorem dX7_edition_38 : decode cX7_edition 38 = .ok (.getfield 7, 3) := by decide +kernel
theorem dX7_edition_41 : decode cX7_edition 41 = .ok (.imul, 1) := by decide +kernel
theorem dX7_edition_42 : decode cX7_edition 42 = .ok (.iload_n 2, 1) := by decide +kernel
theorem dX7_edition_43 : decode cX7_edition 43 = .ok (.iadd, 1) := by decide +kernel
theorem dX7_edition_44 : decode cX7_edition 44 = .ok (.aload_n 0, 1) := by decide +kernel
theorem dX7_edition_45 : decode cX7_edition 45 = .ok (.getfield 13, 3) := by decide +kernel
theorem dX7_edition_48 : decode cX7_edition 48 = .ok (.bipush 9, 2) := by decide +kernel
theorem dX7_edition_50 : decode cX7_edition 50 = .ok (.iload_n 1, 1) := by decide +kernel
theorem dX7_edition_51 : decode cX7_edition 51 = .ok (.imul, 1) := by decide +kernel
theorem dX7_edition_52 : decode cX7_edition 52 = .ok (.iload_n 2, 1) := by decide +kernel
theorem dX7_edition_53 : decode cX7_edition 53 = .ok (.iadd, 1) := by decide +kernel
theorem dX7_edition_54 : decode cX7_edition 54 = .ok (.iaload, 1) := by decide +kernel
theorem dX7_edition_55 : decode cX7_edition 55 = .ok (.iastore, 1) := by decide +kernel
theorem dX7_edition_56 : decode cX7_edition 56 = .ok (.iinc 2 1, 3) := by decide +kernel
theorem dX7_edition_59 : decode cX7_edition 59 = .ok (.goto (-34), 3) := by decide +kernel
theorem dX7_edition_62 : decode cX7_edition 62 = .ok (.iconst 0, 1) := by decide +kernel
theorem dX7_edition_63 : decode cX7_edition 63 = .ok (.istore_n 2, 1) := by decide +kernel
theorem dX7_edition_64 : decode cX7_edition 64 = .ok (.iload_n 2, 1) := by decide +kernel
theorem dX7_edition_65 : decode cX7_edition 65 = .ok (.bipush 8, 2) := by decide +kernel
theorem dX7_edition_67 : decode cX7_edition 67 = .ok (.if_icmp .ge 34, 3) := by decide +kernel
theorem dX7_edition_70 : decode cX7_edition 70 = .ok (.aload_n 0, 1) := by decide +kernel
theorem dX7_edition_71 : decode cX7_edition 71 = .ok (.getfield 17, 3) := by decide +kernel
theorem dX7_edition_74 : decode cX7_edition 74 = .ok (.bipush 8, 2) := by decide +kernel
theorem dX7_edition_76 : decode cX7_edition 76 = .ok (.aload_n 0, 1) := by decide +kernel
theorem dX7_edition_77 : decode cX7_edition 77 = .ok (.getfield 7, 3) := by decide +kernel
theorem dX7_edition_80 : decode cX7_edition 80 = .ok (.imul, 1) := by decide +kernel
theorem dX7_edition_81 : decode cX7_edition 81 = .ok (.iload_n 2, 1) := by decide +kernel
theorem dX7_edition_82 : decode cX7_edition 82 = .ok (.iadd, 1) := by decide +kernel
theorem dX7_edition_83 : decode cX7_edition 83 = .ok (.aload_n 0, 1) := by decide +kernel
theorem dX7_edition_84 : decode cX7_edition 84 = .ok (.getfield 17, 3) := by decide +kernel
theorem dX7_edition_87 : decode cX7_edition 87 = .ok (.bipush 8, 2) := by decide +kernel
theorem dX7_edition_89 : decode cX7_edition 89 = .ok (.iload_n 1, 1) := by decide +kernel
theorem dX7_edition_90 : decode cX7_edition 90 = .ok (.imul, 1) := by decide +kernel
theorem dX7_edition_91 : decode cX7_edition 91 = .ok (.iload_n 2, 1) := by decide +kernel
theorem dX7_edition_92 : decode cX7_edition 92 = .ok (.iadd, 1) := by decide +kernel
theorem dX7_edition_93 : decode cX7_edition 93 = .ok (.iaload, 1) := by decide +kernel
theorem dX7_edition_94 : decode cX7_edition 94 = .ok (.iastore, 1) := by decide +kernel
theorem dX7_edition_95 : decode cX7_edition 95 = .ok (.iinc 2 1, 3) := by decide +kernel
theorem dX7_edition_98 : decode cX7_edition 98 = .ok (.goto (-34), 3) := by decide +kernel
theorem dX7_edition_101 : decode cX7_edition 101 = .ok (.aload_n 0, 1) := by decide +kernel
theorem dX7_edition_102 : decode cX7_edition 102 = .ok (.getfield 20, 3) := by decide +kernel
theorem dX7_edition_105 : decode cX7_edition 105 = .ok (.aload_n 0, 1) := by decide +kernel
theorem dX7_edition_106 : decode cX7_edition 106 = .ok (.getfield 7, 3) := by decide +kernel
theorem dX7_edition_109 : decode cX7_edition 109 = .ok (.iconst (-1), 1) := by decide +kernel
theorem dX7_edition_110 : decode cX7_edition 110 = .ok (.iastore, 1) := by decide +kernel
theorem dX7_edition_111 : decode cX7_edition 111 = .ok (.aload_n 0, 1) := by decide +kernel
theorem dX7_edition_112 : decode cX7_edition 112 = .ok (.getfield 23, 3) := by decide +kernel
theorem dX7_edition_115 : decode cX7_edition 115 = .ok (.aload_n 0, 1) := by decide +kernel
theorem dX7_edition_116 : decode cX7_edition 116 = .ok (.getfield 7, 3) := by decide +kernel
theorem dX7_edition_119 : decode cX7_edition 119 = .ok (.iconst 0, 1) := by decide +kernel
theorem dX7_edition_120 : decode cX7_edition 120 = .ok (.iastore, 1) := by decide +kernel
theorem dX7_edition_121 : decode cX7_edition 121 = .ok (.aload_n 0, 1) := by decide +kernel
theorem dX7_edition_122 : decode cX7_edition 122 = .ok (.dup, 1) := by decide +kernel
theorem dX7_edition_123 : decode cX7_edition 123 = .ok (.getfield 7, 3) := by decide +kernel
theorem dX7_edition_126 : decode cX7_edition 126 = .ok (.iconst 1, 1) := by decide +kernel
theorem dX7_edition_127 : decode cX7_edition 127 = .ok (.iadd, 1) := by decide +kernel
theorem dX7_edition_128 : decode cX7_edition 128 = .ok (.putfield 7, 3) := by decide +kernel
theorem dX7_edition_131 : decode cX7_edition 131 = .ok (.aload_n 0, 1) := by decide +kernel
theorem dX7_edition_132 : decode cX7_edition 132 = .ok (.getfield 7, 3) := by decide +kernel
theorem dX7_edition_135 : decode cX7_edition 135 = .ok (.iconst 1, 1) := by decide +kernel
theorem dX7_edition_136 : decode cX7_edition 136 = .ok (.isub, 1) := by decide +kernel
theorem dX7_edition_137 : decode cX7_edition 137 = .ok (.ireturn, 1) := by decide +kernel
theorem dX7_price_0 : decode cX7_price 0 = .ok (.aload_n 0, 1) := by decide +kernel
theorem dX7_price_1 : decode cX7_price 1 = .ok (.iload_n 1, 1) := by decide +kernel
theorem dX7_price_2 : decode cX7_price 2 = .ok (.invokevirtual 92, 3) := by decide +kernel
theorem dX7_price_5 : decode cX7_price 5 = .ok (.ifCond .eq 23, 3) := by decide +kernel
theorem dX7_price_8 : decode cX7_price 8 = .ok (.iload_n 2, 1) := by decide +kernel
theorem dX7_price_9 : decode cX7_price 9 = .ok (.iconst 0, 1) := by decide +kernel
theorem dX7_price_10 : decode cX7_price 10 = .ok (.bipush 8, 2) := by decide +kernel
theorem dX7_price_12 : decode cX7_price 12 = .ok (.invokestatic 82, 3) := by decide +kernel
theorem dX7_price_15 : decode cX7_price 15 = .ok (.ifCond .eq 13, 3) := by decide +kernel
theorem dX7_price_18 : decode cX7_price 18 = .ok (.iload_n 3, 1) := by decide +kernel
theorem dX7_price_19 : decode cX7_price 19 = .ok (.iconst 0, 1) := by decide +kernel
theorem dX7_price_20 : decode cX7_price 20 = .ok (.bipush 100, 2) := by decide +kernel
theorem dX7_price_22 : decode cX7_price 22 = .ok (.invokestatic 82, 3) := by decide +kernel
theorem dX7_price_25 : decode cX7_price 25 = .ok (.ifCond .ne 6, 3) := by decide +kernel
theorem dX7_price_28 : decode cX7_price 28 = .ok (.bipush (-2), 2) := by decide +kernel
theorem dX7_price_30 : decode cX7_price 30 = .ok (.ireturn, 1) := by decide +kernel
theorem dX7_price_31 : decode cX7_price 31 = .ok (.aload_n 0, 1) := by decide +kernel
theorem dX7_price_32 : decode cX7_price 32 = .ok (.getfield 23, 3) := by decide +kernel
theorem dX7_price_35 : decode cX7_price 35 = .ok (.iload_n 1, 1) := by decide +kernel
theorem dX7_price_36 : decode cX7_price 36 = .ok (.iaload, 1) := by decide +kernel
theorem dX7_price_37 : decode cX7_price 37 = .ok (.ifCond .eq 6, 3) := by decide +kernel
theorem dX7_price_40 : decode cX7_price 40 = .ok (.bipush (-3), 2) := by decide +kernel
theorem dX7_price_42 : decode cX7_price 42 = .ok (.ireturn, 1) := by decide +kernel
theorem dX7_price_43 : decode cX7_price 43 = .ok (.aload_n 0, 1) := by decide +kernel
theorem dX7_price_44 : decode cX7_price 44 = .ok (.getfield 13, 3) := by decide +kernel
theorem dX7_price_47 : decode cX7_price 47 = .ok (.bipush 9, 2) := by decide +kernel
theorem dX7_price_49 : decode cX7_price 49 = .ok (.iload_n 1, 1) := by decide +kernel
theorem dX7_price_50 : decode cX7_price 50 = .ok (.imul, 1) := by decide +kernel
theorem dX7_price_51 : decode cX7_price 51 = .ok (.iload_n 2, 1) := by decide +kernel
theorem dX7_price_52 : decode cX7_price 52 = .ok (.iadd, 1) := by decide +kernel
theorem dX7_price_53 : decode cX7_price 53 = .ok (.iaload, 1) := by decide +kernel
theorem dX7_price_54 : decode cX7_price 54 = .ok (.istore 4, 2) := by decide +kernel
theorem dX7_price_56 : decode cX7_price 56 = .ok (.aload_n 0, 1) := by decide +kernel
theorem dX7_price_57 : decode cX7_price 57 = .ok (.getfield 13, 3) := by decide +kernel
theorem dX7_price_60 : decode cX7_price 60 = .ok (.bipush 9, 2) := by decide +kernel
theorem dX7_price_62 : decode cX7_price 62 = .ok (.iload_n 1, 1) := by decide +kernel
theorem dX7_price_63 : decode cX7_price 63 = .ok (.imul, 1) := by decide +kernel
theorem dX7_price_64 : decode cX7_price 64 = .ok (.iload_n 2, 1) := by decide +kernel
theorem dX7_price_65 : decode cX7_price 65 = .ok (.iadd, 1) := by decide +kernel
theorem dX7_price_66 : decode cX7_price 66 = .ok (.iload_n 3, 1) := by decide +kernel
theorem dX7_price_67 : decode cX7_price 67 = .ok (.iastore, 1) := by decide +kernel
theorem dX7_price_68 : decode cX7_price 68 = .ok (.iload 4, 2) := by decide +kernel
theorem dX7_price_70 : decode cX7_price 70 = .ok (.ireturn, 1) := by decide +kernel
theorem dX7_member_0 : decode cX7_member 0 = .ok (.aload_n 0, 1) := by decide +kernel
theorem dX7_member_1 : decode cX7_member 1 = .ok (.iload_n 1, 1) := by decide +kernel
theorem dX7_member_2 : decode cX7_member 2 = .ok (.invokevirtual 92, 3) := by decide +kernel
theorem dX7_member_5 : decode cX7_member 5 = .ok (.ifCond .eq 22, 3) := by decide +kernel
theorem dX7_member_8 : decode cX7_member 8 = .ok (.iload_n 2, 1) := by decide +kernel
theorem dX7_member_9 : decode cX7_member 9 = .ok (.iconst 0, 1) := by decide +kernel
theorem dX7_member_10 : decode cX7_member 10 = .ok (.bipush 7, 2) := by decide +kernel
theorem dX7_member_12 : decode cX7_member 12 = .ok (.invokestatic 82, 3) := by decide +kernel
theorem dX7_member_15 : decode cX7_member 15 = .ok (.ifCond .eq 12, 3) := by decide +kernel
theorem dX7_member_18 : decode cX7_member 18 = .ok (.iload_n 3, 1) := by decide +kernel
theorem dX7_member_19 : decode cX7_member 19 = .ok (.iconst (-1), 1) := by decide +kernel
theorem dX7_member_20 : decode cX7_member 20 = .ok (.iconst 5, 1) := by decide +kernel
theorem dX7_member_21 : decode cX7_member 21 = .ok (.invokestatic 82, 3) := by decide +kernel
theorem dX7_member_24 : decode cX7_member 24 = .ok (.ifCond .ne 6, 3) := by decide +kernel
theorem dX7_member_27 : decode cX7_member 27 = .ok (.bipush (-2), 2) := by decide +kernel
theorem dX7_member_29 : decode cX7_member 29 = .ok (.ireturn, 1) := by decide +kernel
theorem dX7_member_30 : decode cX7_member 30 = .ok (.aload_n 0, 1) := by decide +kernel
theorem dX7_member_31 : decode cX7_member 31 = .ok (.getfield 23, 3) := by decide +kernel
theorem dX7_member_34 : decode cX7_member 34 = .ok (.iload_n 1, 1) := by decide +kernel
theorem dX7_member_35 : decode cX7_member 35 = .ok (.iaload, 1) := by decide +kernel
theorem dX7_member_36 : decode cX7_member 36 = .ok (.ifCond .eq 6, 3) := by decide +kernel
theorem dX7_member_39 : decode cX7_member 39 = .ok (.bipush (-3), 2) := by decide +kernel
theorem dX7_member_41 : decode cX7_member 41 = .ok (.ireturn, 1) := by decide +kernel
theorem dX7_member_42 : decode cX7_member 42 = .ok (.aload_n 0, 1) := by decide +kernel
theorem dX7_member_43 : decode cX7_member 43 = .ok (.getfield 17, 3) := by decide +kernel
theorem dX7_member_46 : decode cX7_member 46 = .ok (.bipush 8, 2) := by decide +kernel
theorem dX7_member_48 : decode cX7_member 48 = .ok (.iload_n 1, 1) := by decide +kernel
theorem dX7_member_49 : decode cX7_member 49 = .ok (.imul, 1) := by decide +kernel
theorem dX7_member_50 : decode cX7_member 50 = .ok (.iload_n 2, 1) := by decide +kernel
theorem dX7_member_51 : decode cX7_member 51 = .ok (.iadd, 1) := by decide +kernel
theorem dX7_member_52 : decode cX7_member 52 = .ok (.iaload, 1) := by decide +kernel
theorem dX7_member_53 : decode cX7_member 53 = .ok (.istore 4, 2) := by decide +kernel
theorem dX7_member_55 : decode cX7_member 55 = .ok (.aload_n 0, 1) := by decide +kernel
theorem dX7_member_56 : decode cX7_member 56 = .ok (.getfield 17, 3) := by decide +kernel
theorem dX7_member_59 : decode cX7_member 59 = .ok (.bipush 8, 2) := by decide +kernel
theorem dX7_member_61 : decode cX7_member 61 = .ok (.iload_n 1, 1) := by decide +kernel
theorem dX7_member_62 : decode cX7_member 62 = .ok (.imul, 1) := by decide +kernel
theorem dX7_member_63 : decode cX7_member 63 = .ok (.iload_n 2, 1) := by decide +kernel
theorem dX7_member_64 : decode cX7_member 64 = .ok (.iadd, 1) := by decide +kernel
theorem dX7_member_65 : decode cX7_member 65 = .ok (.iload_n 3, 1) := by decide +kernel
theorem dX7_member_66 : decode cX7_member 66 = .ok (.iastore, 1) := by decide +kernel
theorem dX7_member_67 : decode cX7_member 67 = .ok (.iload 4, 2) := by decide +kernel
theorem dX7_member_69 : decode cX7_member 69 = .ok (.ireturn, 1) := by decide +kernel
theorem dX7_about_0 : decode cX7_about 0 = .ok (.aload_n 0, 1) := by decide +kernel
theorem dX7_about_1 : decode cX7_about 1 = .ok (.iload_n 1, 1) := by decide +kernel
theorem dX7_about_2 : decode cX7_about 2 = .ok (.invokevirtual 92, 3) := by decide +kernel
theorem dX7_about_5 : decode cX7_about 5 = .ok (.ifCond .ne 6, 3) := by decide +kernel
theorem dX7_about_8 : decode cX7_about 8 = .ok (.bipush (-2), 2) := by decide +kernel
theorem dX7_about_10 : decode cX7_about 10 = .ok (.ireturn, 1) := by decide +kernel
theorem dX7_about_11 : decode cX7_about 11 = .ok (.iload_n 2, 1) := by decide +kernel
theorem dX7_about_12 : decode cX7_about 12 = .ok (.tableswitch 100 0 3 #[32, 59, 86, 93], 32) := by decide +kernel
theorem dX7_about_44 : decode cX7_about 44 = .ok (.iload_n 3, 1) := by decide +kernel
theorem dX7_about_45 : decode cX7_about 45 = .ok (.iconst 0, 1) := by decide +kernel
theorem dX7_about_46 : decode cX7_about 46 = .ok (.bipush 8, 2) := by decide +kernel
theorem dX7_about_48 : decode cX7_about 48 = .ok (.invokestatic 82, 3) := by decide +kernel
theorem dX7_about_51 : decode cX7_about 51 = .ok (.ifCond .eq 17, 3) := by decide +kernel
theorem dX7_about_54 : decode cX7_about 54 = .ok (.aload_n 0, 1) := by decide +kernel
theorem dX7_about_55 : decode cX7_about 55 = .ok (.getfield 13, 3) := by decide +kernel
theorem dX7_about_58 : decode cX7_about 58 = .ok (.bipush 9, 2) := by decide +kernel
theorem dX7_about_60 : decode cX7_about 60 = .ok (.iload_n 1, 1) := by decide +kernel
theorem dX7_about_61 : decode cX7_about 61 = .ok (.imul, 1) := by decide +kernel
theorem dX7_about_62 : decode cX7_about 62 = .ok (.iload_n 3, 1) := by decide +kernel
theorem dX7_about_63 : decode cX7_about 63 = .ok (.iadd, 1) := by decide +kernel
theorem dX7_about_64 : decode cX7_about 64 = .ok (.iaload, 1) := by decide +kernel
theorem dX7_about_65 : decode cX7_about 65 = .ok (.goto 5, 3) := by decide +kernel
theorem dX7_about_68 : decode cX7_about 68 = .ok (.bipush (-2), 2) := by decide +kernel
theorem dX7_about_70 : decode cX7_about 70 = .ok (.ireturn, 1) := by decide +kernel
theorem dX7_about_71 : decode cX7_about 71 = .ok (.iload_n 3, 1) := by decide +kernel
theorem dX7_about_72 : decode cX7_about 72 = .ok (.iconst 0, 1) := by decide +kernel
theorem dX7_about_73 : decode cX7_about 73 = .ok (.bipush 7, 2) := by decide +kernel
theorem dX7_about_75 : decode cX7_about 75 = .ok (.invokestatic 82, 3) := by decide +kernel
theorem dX7_about_78 : decode cX7_about 78 = .ok (.ifCond .eq 17, 3) := by decide +kernel
theorem dX7_about_81 : decode cX7_about 81 = .ok (.aload_n 0, 1) := by decide +kernel
theorem dX7_about_82 : decode cX7_about 82 = .ok (.getfield 17, 3) := by decide +kernel
theorem dX7_about_85 : decode cX7_about 85 = .ok (.bipush 8, 2) := by decide +kernel
theorem dX7_about_87 : decode cX7_about 87 = .ok (.iload_n 1, 1) := by decide +kernel
theorem dX7_about_88 : decode cX7_about 88 = .ok (.imul, 1) := by decide +kernel
theorem dX7_about_89 : decode cX7_about 89 = .ok (.iload_n 3, 1) := by decide +kernel
theorem dX7_about_90 : decode cX7_about 90 = .ok (.iadd, 1) := by decide +kernel
theorem dX7_about_91 : decode cX7_about 91 = .ok (.iaload, 1) := by decide +kernel
theorem dX7_about_92 : decode cX7_about 92 = .ok (.goto 5, 3) := by decide +kernel
theorem dX7_about_95 : decode cX7_about 95 = .ok (.bipush (-2), 2) := by decide +kernel
theorem dX7_about_97 : decode cX7_about 97 = .ok (.ireturn, 1) := by decide +kernel
theorem dX7_about_98 : decode cX7_about 98 = .ok (.aload_n 0, 1) := by decide +kernel
theorem dX7_about_99 : decode cX7_about 99 = .ok (.getfield 20, 3) := by decide +kernel
theorem dX7_about_102 : decode cX7_about 102 = .ok (.iload_n 1, 1) := by decide +kernel
theorem dX7_about_103 : decode cX7_about 103 = .ok (.iaload, 1) := by decide +kernel
theorem dX7_about_104 : decode cX7_about 104 = .ok (.ireturn, 1) := by decide +kernel
theorem dX7_about_105 : decode cX7_about 105 = .ok (.aload_n 0, 1) := by decide +kernel
theorem dX7_about_106 : decode cX7_about 106 = .ok (.getfield 23, 3) := by decide +kernel
theorem dX7_about_109 : decode cX7_about 109 = .ok (.iload_n 1, 1) := by decide +kernel
theorem dX7_about_110 : decode cX7_about 110 = .ok (.iaload, 1) := by decide +kernel
theorem dX7_about_111 : decode cX7_about 111 = .ok (.ireturn, 1) := by decide +kernel
theorem dX7_about_112 : decode cX7_about 112 = .ok (.bipush (-2), 2) := by decide +kernel
theorem dX7_about_114 : decode cX7_about 114 = .ok (.ireturn, 1) := by decide +kernel
theorem dX7_differs_0 : decode cX7_differs 0 = .ok (.aload_n 0, 1) := by decide +kernel
theorem dX7_differs_1 : decode cX7_differs 1 = .ok (.iload_n 1, 1) := by decide +kernel
theorem dX7_differs_2 : decode cX7_differs 2 = .ok (.invokevirtual 92, 3) := by decide +kernel
theorem dX7_differs_5 : decode cX7_differs 5 = .ok (.ifCond .eq 11, 3) := by decide +kernel
theorem dX7_differs_8 : decode cX7_differs 8 = .ok (.aload_n 0, 1) := by decide +kernel
theorem dX7_differs_9 : decode cX7_differs 9 = .ok (.iload_n 2, 1) := by decide +kernel
theorem dX7_differs_10 : decode cX7_differs 10 = .ok (.invokevirtual 92, 3) := by decide +kernel
theorem dX7_differs_13 : decode cX7_differs 13 = .ok (.ifCond .ne 6, 3) := by decide +kernel
theorem dX7_differs_16 : decode cX7_differs 16 = .ok (.bipush (-2), 2) := by decide +kernel
theorem dX7_differs_18 : decode cX7_differs 18 = .ok (.ireturn, 1) := by decide +kernel
theorem dX7_differs_19 : decode cX7_differs 19 = .ok (.iconst 0, 1) := by decide +kernel
theorem dX7_differs_20 : decode cX7_differs 20 = .ok (.istore 4, 2) := by decide +kernel
theorem dX7_differs_22 : decode cX7_differs 22 = .ok (.iconst 0, 1) := by decide +kernel
theorem dX7_differs_23 : decode cX7_differs 23 = .ok (.istore 5, 2) := by decide +kernel
theorem dX7_differs_25 : decode cX7_differs 25 = .ok (.iload 5, 2) := by decide +kernel
theorem dX7_differs_27 : decode cX7_differs 27 = .ok (.bipush 17, 2) := by decide +kernel
theorem dX7_differs_29 : decode cX7_differs 29 = .ok (.if_icmp .ge 121, 3) := by decide +kernel
theorem dX7_differs_32 : decode cX7_differs 32 = .ok (.iload 5, 2) := by decide +kernel
theorem dX7_differs_34 : decode cX7_differs 34 = .ok (.bipush 9, 2) := by decide +kernel
theorem dX7_differs_36 : decode cX7_differs 36 = .ok (.if_icmp .ge 38, 3) := by decide +kernel
theorem dX7_differs_39 : decode cX7_differs 39 = .ok (.aload_n 0, 1) := by decide +kernel
theorem dX7_differs_40 : decode cX7_differs 40 = .ok (.getfield 13, 3) := by decide +kernel
theorem dX7_differs_43 : decode cX7_differs 43 = .ok (.bipush 9, 2) := by decide +kernel
theorem dX7_differs_45 : decode cX7_differs 45 = .ok (.iload_n 1, 1) := by decide +kernel
theorem dX7_differs_46 : decode cX7_differs 46 = .ok (.imul, 1) := by decide +kernel
theorem dX7_differs_47 : decode cX7_differs 47 = .ok (.iload 5, 2) := by decide +kernel
theorem dX7_differs_49 : decode cX7_differs 49 = .ok (.iadd, 1) := by decide +kernel
theorem dX7_differs_50 : decode cX7_differs 50 = .ok (.iaload, 1) := by decide +kernel
theorem dX7_differs_51 : decode cX7_differs 51 = .ok (.aload_n 0, 1) := by decide +kernel
theorem dX7_differs_52 : decode cX7_differs 52 = .ok (.getfield 13, 3) := by decide +kernel
theorem dX7_differs_55 : decode cX7_differs 55 = .ok (.bipush 9, 2) := by decide +kernel
theorem dX7_differs_57 : decode cX7_differs 57 = .ok (.iload_n 2, 1) := by decide +kernel
theorem dX7_differs_58 : decode cX7_differs 58 = .ok (.imul, 1) := by decide +kernel
theorem dX7_differs_59 : decode cX7_differs 59 = .ok (.iload 5, 2) := by decide +kernel
theorem dX7_differs_61 : decode cX7_differs 61 = .ok (.iadd, 1) := by decide +kernel
theorem dX7_differs_62 : decode cX7_differs 62 = .ok (.iaload, 1) := by decide +kernel
theorem dX7_differs_63 : decode cX7_differs 63 = .ok (.if_icmp .eq 7, 3) := by decide +kernel
theorem dX7_differs_66 : decode cX7_differs 66 = .ok (.iconst 1, 1) := by decide +kernel
theorem dX7_differs_67 : decode cX7_differs 67 = .ok (.goto 45, 3) := by decide +kernel
theorem dX7_differs_70 : decode cX7_differs 70 = .ok (.iconst 0, 1) := by decide +kernel
theorem dX7_differs_71 : decode cX7_differs 71 = .ok (.goto 41, 3) := by decide +kernel
theorem dX7_differs_74 : decode cX7_differs 74 = .ok (.aload_n 0, 1) := by decide +kernel
theorem dX7_differs_75 : decode cX7_differs 75 = .ok (.getfield 17, 3) := by decide +kernel
theorem dX7_differs_78 : decode cX7_differs 78 = .ok (.bipush 8, 2) := by decide +kernel
theorem dX7_differs_80 : decode cX7_differs 80 = .ok (.iload_n 1, 1) := by decide +kernel
theorem dX7_differs_81 : decode cX7_differs 81 = .ok (.imul, 1) := by decide +kernel
theorem dX7_differs_82 : decode cX7_differs 82 = .ok (.iload 5, 2) := by decide +kernel
theorem dX7_differs_84 : decode cX7_differs 84 = .ok (.iadd, 1) := by decide +kernel
theorem dX7_differs_85 : decode cX7_differs 85 = .ok (.bipush 9, 2) := by decide +kernel
theorem dX7_differs_87 : decode cX7_differs 87 = .ok (.isub, 1) := by decide +kernel
theorem dX7_differs_88 : decode cX7_differs 88 = .ok (.iaload, 1) := by decide +kernel
theorem dX7_differs_89 : decode cX7_differs 89 = .ok (.aload_n 0, 1) := by decide +kernel
theorem dX7_differs_90 : decode cX7_differs 90 = .ok (.getfield 17, 3) := by decide +kernel
theorem dX7_differs_93 : decode cX7_differs 93 = .ok (.bipush 8, 2) := by decide +kernel
theorem dX7_differs_95 : decode cX7_differs 95 = .ok (.iload_n 2, 1) := by decide +kernel
theorem dX7_differs_96 : decode cX7_differs 96 = .ok (.imul, 1) := by decide +kernel
theorem dX7_differs_97 : decode cX7_differs 97 = .ok (.iload 5, 2) := by decide +kernel
theorem dX7_differs_99 : decode cX7_differs 99 = .ok (.iadd, 1) := by decide +kernel
theorem dX7_differs_100 : decode cX7_differs 100 = .ok (.bipush 9, 2) := by decide +kernel
theorem dX7_differs_102 : decode cX7_differs 102 = .ok (.isub, 1) := by decide +kernel
theorem dX7_differs_103 : decode cX7_differs 103 = .ok (.iaload, 1) := by decide +kernel
theorem dX7_differs_104 : decode cX7_differs 104 = .ok (.if_icmp .eq 7, 3) := by decide +kernel
theorem dX7_differs_107 : decode cX7_differs 107 = .ok (.iconst 1, 1) := by decide +kernel
theorem dX7_differs_108 : decode cX7_differs 108 = .ok (.goto 4, 3) := by decide +kernel
theorem dX7_differs_111 : decode cX7_differs 111 = .ok (.iconst 0, 1) := by decide +kernel
theorem dX7_differs_112 : decode cX7_differs 112 = .ok (.istore 6, 2) := by decide +kernel
theorem dX7_differs_114 : decode cX7_differs 114 = .ok (.iload 6, 2) := by decide +kernel
theorem dX7_differs_116 : decode cX7_differs 116 = .ok (.ifCond .eq 12, 3) := by decide +kernel
theorem dX7_differs_119 : decode cX7_differs 119 = .ok (.iload 4, 2) := by decide +kernel
theorem dX7_differs_121 : decode cX7_differs 121 = .ok (.iload_n 3, 1) := by decide +kernel
theorem dX7_differs_122 : decode cX7_differs 122 = .ok (.if_icmp .ne 6, 3) := by decide +kernel
theorem dX7_differs_125 : decode cX7_differs 125 = .ok (.iload 5, 2) := by decide +kernel
theorem dX7_differs_127 : decode cX7_differs 127 = .ok (.ireturn, 1) := by decide +kernel
theorem dX7_differs_128 : decode cX7_differs 128 = .ok (.iload 6, 2) := by decide +kernel
theorem dX7_differs_130 : decode cX7_differs 130 = .ok (.ifCond .eq 10, 3) := by decide +kernel
theorem dX7_differs_133 : decode cX7_differs 133 = .ok (.iload 4, 2) := by decide +kernel
theorem dX7_differs_135 : decode cX7_differs 135 = .ok (.iconst 1, 1) := by decide +kernel
theorem dX7_differs_136 : decode cX7_differs 136 = .ok (.iadd, 1) := by decide +kernel
theorem dX7_differs_137 : decode cX7_differs 137 = .ok (.goto 5, 3) := by decide +kernel
theorem dX7_differs_140 : decode cX7_differs 140 = .ok (.iload 4, 2) := by decide +kernel
theorem dX7_differs_142 : decode cX7_differs 142 = .ok (.istore 4, 2) := by decide +kernel
theorem dX7_differs_144 : decode cX7_differs 144 = .ok (.iinc 5 1, 3) := by decide +kernel
theorem dX7_differs_147 : decode cX7_differs 147 = .ok (.goto (-122), 3) := by decide +kernel
theorem dX7_differs_150 : decode cX7_differs 150 = .ok (.iconst (-1), 1) := by decide +kernel
theorem dX7_differs_151 : decode cX7_differs 151 = .ok (.ireturn, 1) := by decide +kernel
theorem dX7_node_0 : decode cX7_node 0 = .ok (.iload_n 1, 1) := by decide +kernel
theorem dX7_node_1 : decode cX7_node 1 = .ok (.iconst 1, 1) := by decide +kernel
theorem dX7_node_2 : decode cX7_node 2 = .ok (.sipush 1000, 3) := by decide +kernel
theorem dX7_node_5 : decode cX7_node 5 = .ok (.invokestatic 82, 3) := by decide +kernel
theorem dX7_node_8 : decode cX7_node 8 = .ok (.ifCond .eq 14, 3) := by decide +kernel
theorem dX7_node_11 : decode cX7_node 11 = .ok (.iload_n 2, 1) := by decide +kernel
theorem dX7_node_12 : decode cX7_node 12 = .ok (.iconst 0, 1) := by decide +kernel
theorem dX7_node_13 : decode cX7_node 13 = .ok (.sipush 1023, 3) := by decide +kernel
theorem dX7_node_16 : decode cX7_node 16 = .ok (.invokestatic 82, 3) := by decide +kernel
theorem dX7_node_19 : decode cX7_node 19 = .ok (.ifCond .ne 6, 3) := by decide +kernel
theorem dX7_node_22 : decode cX7_node 22 = .ok (.bipush (-2), 2) := by decide +kernel
theorem dX7_node_24 : decode cX7_node 24 = .ok (.ireturn, 1) := by decide +kernel
theorem dX7_node_25 : decode cX7_node 25 = .ok (.aload_n 0, 1) := by decide +kernel
theorem dX7_node_26 : decode cX7_node 26 = .ok (.getfield 86, 3) := by decide +kernel
theorem dX7_node_29 : decode cX7_node 29 = .ok (.bipush 12, 2) := by decide +kernel
theorem dX7_node_31 : decode cX7_node 31 = .ok (.if_icmp .ne 6, 3) := by decide +kernel
theorem dX7_node_34 : decode cX7_node 34 = .ok (.bipush (-4), 2) := by decide +kernel
theorem dX7_node_36 : decode cX7_node 36 = .ok (.ireturn, 1) := by decide +kernel
theorem dX7_node_37 : decode cX7_node 37 = .ok (.aload_n 0, 1) := by decide +kernel
theorem dX7_node_38 : decode cX7_node 38 = .ok (.getfield 29, 3) := by decide +kernel
theorem dX7_node_41 : decode cX7_node 41 = .ok (.aload_n 0, 1) := by decide +kernel
theorem dX7_node_42 : decode cX7_node 42 = .ok (.getfield 86, 3) := by decide +kernel
theorem dX7_node_45 : decode cX7_node 45 = .ok (.iload_n 1, 1) := by decide +kernel
theorem dX7_node_46 : decode cX7_node 46 = .ok (.iastore, 1) := by decide +kernel
theorem dX7_node_47 : decode cX7_node 47 = .ok (.aload_n 0, 1) := by decide +kernel
theorem dX7_node_48 : decode cX7_node 48 = .ok (.getfield 32, 3) := by decide +kernel
theorem dX7_node_51 : decode cX7_node 51 = .ok (.aload_n 0, 1) := by decide +kernel
theorem dX7_node_52 : decode cX7_node 52 = .ok (.getfield 86, 3) := by decide +kernel
theorem dX7_node_55 : decode cX7_node 55 = .ok (.iload_n 2, 1) := by decide +kernel
theorem dX7_node_56 : decode cX7_node 56 = .ok (.iastore, 1) := by decide +kernel
theorem dX7_node_57 : decode cX7_node 57 = .ok (.aload_n 0, 1) := by decide +kernel
theorem dX7_node_58 : decode cX7_node 58 = .ok (.getfield 35, 3) := by decide +kernel
theorem dX7_node_61 : decode cX7_node 61 = .ok (.aload_n 0, 1) := by decide +kernel
theorem dX7_node_62 : decode cX7_node 62 = .ok (.getfield 86, 3) := by decide +kernel
theorem dX7_node_65 : decode cX7_node 65 = .ok (.iconst (-1), 1) := by decide +kernel
theorem dX7_node_66 : decode cX7_node 66 = .ok (.iastore, 1) := by decide +kernel
theorem dX7_node_67 : decode cX7_node 67 = .ok (.aload_n 0, 1) := by decide +kernel
theorem dX7_node_68 : decode cX7_node 68 = .ok (.dup, 1) := by decide +kernel
theorem dX7_node_69 : decode cX7_node 69 = .ok (.getfield 86, 3) := by decide +kernel
theorem dX7_node_72 : decode cX7_node 72 = .ok (.iconst 1, 1) := by decide +kernel
theorem dX7_node_73 : decode cX7_node 73 = .ok (.iadd, 1) := by decide +kernel
theorem dX7_node_74 : decode cX7_node 74 = .ok (.putfield 86, 3) := by decide +kernel
theorem dX7_node_77 : decode cX7_node 77 = .ok (.aload_n 0, 1) := by decide +kernel
theorem dX7_node_78 : decode cX7_node 78 = .ok (.getfield 86, 3) := by decide +kernel
theorem dX7_node_81 : decode cX7_node 81 = .ok (.iconst 1, 1) := by decide +kernel
theorem dX7_node_82 : decode cX7_node 82 = .ok (.isub, 1) := by decide +kernel
theorem dX7_node_83 : decode cX7_node 83 = .ok (.ireturn, 1) := by decide +kernel
theorem dX7_build_0 : decode cX7_build 0 = .ok (.aload_n 0, 1) := by decide +kernel
theorem dX7_build_1 : decode cX7_build 1 = .ok (.iload_n 1, 1) := by decide +kernel
theorem dX7_build_2 : decode cX7_build 2 = .ok (.invokevirtual 96, 3) := by decide +kernel
theorem dX7_build_5 : decode cX7_build 5 = .ok (.ifCond .eq 14, 3) := by decide +kernel
theorem dX7_build_8 : decode cX7_build 8 = .ok (.iload_n 2, 1) := by decide +kernel
theorem dX7_build_9 : decode cX7_build 9 = .ok (.iconst 0, 1) := by decide +kernel
theorem dX7_build_10 : decode cX7_build 10 = .ok (.sipush 1023, 3) := by decide +kernel
theorem dX7_build_13 : decode cX7_build 13 = .ok (.invokestatic 82, 3) := by decide +kernel
theorem dX7_build_16 : decode cX7_build 16 = .ok (.ifCond .ne 6, 3) := by decide +kernel
theorem dX7_build_19 : decode cX7_build 19 = .ok (.bipush (-2), 2) := by decide +kernel
theorem dX7_build_21 : decode cX7_build 21 = .ok (.ireturn, 1) := by decide +kernel
theorem dX7_build_22 : decode cX7_build 22 = .ok (.aload_n 0, 1) := by decide +kernel
theorem dX7_build_23 : decode cX7_build 23 = .ok (.getfield 35, 3) := by decide +kernel
theorem dX7_build_26 : decode cX7_build 26 = .ok (.iload_n 1, 1) := by decide +kernel
theorem dX7_build_27 : decode cX7_build 27 = .ok (.iaload, 1) := by decide +kernel
theorem dX7_build_28 : decode cX7_build 28 = .ok (.iconst (-1), 1) := by decide +kernel
theorem dX7_build_29 : decode cX7_build 29 = .ok (.if_icmp .eq 6, 3) := by decide +kernel
theorem dX7_build_32 : decode cX7_build 32 = .ok (.bipush (-3), 2) := by decide +kernel
theorem dX7_build_34 : decode cX7_build 34 = .ok (.ireturn, 1) := by decide +kernel
theorem dX7_build_35 : decode cX7_build 35 = .ok (.aload_n 0, 1) := by decide +kernel
theorem dX7_build_36 : decode cX7_build 36 = .ok (.getfield 32, 3) := by decide +kernel
theorem dX7_build_39 : decode cX7_build 39 = .ok (.iload_n 1, 1) := by decide +kernel
theorem dX7_build_40 : decode cX7_build 40 = .ok (.iload_n 2, 1) := by decide +kernel
theorem dX7_build_41 : decode cX7_build 41 = .ok (.iastore, 1) := by decide +kernel
theorem dX7_build_42 : decode cX7_build 42 = .ok (.iconst 1, 1) := by decide +kernel
theorem dX7_build_43 : decode cX7_build 43 = .ok (.ireturn, 1) := by decide +kernel
theorem dX7_propose_0 : decode cX7_propose 0 = .ok (.aload_n 0, 1) := by decide +kernel
theorem dX7_propose_1 : decode cX7_propose 1 = .ok (.iload_n 1, 1) := by decide +kernel
theorem dX7_propose_2 : decode cX7_propose 2 = .ok (.invokevirtual 92, 3) := by decide +kernel
theorem dX7_propose_5 : decode cX7_propose 5 = .ok (.ifCond .eq 10, 3) := by decide +kernel
theorem dX7_propose_8 : decode cX7_propose 8 = .ok (.iload_n 2, 1) := by decide +kernel
theorem dX7_propose_9 : decode cX7_propose 9 = .ok (.sipush 1000, 3) := by decide +kernel
theorem dX7_propose_12 : decode cX7_propose 12 = .ok (.if_icmp .le 6, 3) := by decide +kernel
theorem dX7_propose_15 : decode cX7_propose 15 = .ok (.bipush (-2), 2) := by decide +kernel
theorem dX7_propose_17 : decode cX7_propose 17 = .ok (.ireturn, 1) := by decide +kernel
theorem dX7_propose_18 : decode cX7_propose 18 = .ok (.aload_n 0, 1) := by decide +kernel
theorem dX7_propose_19 : decode cX7_propose 19 = .ok (.getfield 23, 3) := by decide +kernel
theorem dX7_propose_22 : decode cX7_propose 22 = .ok (.iload_n 1, 1) := by decide +kernel
theorem dX7_propose_23 : decode cX7_propose 23 = .ok (.iaload, 1) := by decide +kernel
theorem dX7_propose_24 : decode cX7_propose 24 = .ok (.ifCond .ne 15, 3) := by decide +kernel
theorem dX7_propose_27 : decode cX7_propose 27 = .ok (.iload_n 2, 1) := by decide +kernel
theorem dX7_propose_28 : decode cX7_propose 28 = .ok (.aload_n 0, 1) := by decide +kernel
theorem dX7_propose_29 : decode cX7_propose 29 = .ok (.getfield 99, 3) := by decide +kernel
theorem dX7_propose_32 : decode cX7_propose 32 = .ok (.if_icmp .le 7, 3) := by decide +kernel
theorem dX7_propose_35 : decode cX7_propose 35 = .ok (.iconst 1, 1) := by decide +kernel
theorem dX7_propose_36 : decode cX7_propose 36 = .ok (.goto 4, 3) := by decide +kernel
theorem dX7_propose_39 : decode cX7_propose 39 = .ok (.iconst 0, 1) := by decide +kernel
theorem dX7_propose_40 : decode cX7_propose 40 = .ok (.istore_n 3, 1) := by decide +kernel
theorem dX7_propose_41 : decode cX7_propose 41 = .ok (.iconst 0, 1) := by decide +kernel
theorem dX7_propose_42 : decode cX7_propose 42 = .ok (.istore 4, 2) := by decide +kernel
theorem dX7_propose_44 : decode cX7_propose 44 = .ok (.iload 4, 2) := by decide +kernel
theorem dX7_propose_46 : decode cX7_propose 46 = .ok (.aload_n 0, 1) := by decide +kernel
theorem dX7_propose_47 : decode cX7_propose 47 = .ok (.getfield 7, 3) := by decide +kernel
theorem dX7_propose_50 : decode cX7_propose 50 = .ok (.if_icmp .ge 41, 3) := by decide +kernel
theorem dX7_propose_53 : decode cX7_propose 53 = .ok (.iload_n 3, 1) := by decide +kernel
theorem dX7_propose_54 : decode cX7_propose 54 = .ok (.ifCond .eq 29, 3) := by decide +kernel
theorem dX7_propose_57 : decode cX7_propose 57 = .ok (.aload_n 0, 1) := by decide +kernel
theorem dX7_propose_58 : decode cX7_propose 58 = .ok (.getfield 23, 3) := by decide +kernel
theorem dX7_propose_61 : decode cX7_propose 61 = .ok (.iload 4, 2) := by decide +kernel
theorem dX7_propose_63 : decode cX7_propose 63 = .ok (.iaload, 1) := by decide +kernel
theorem dX7_propose_64 : decode cX7_propose 64 = .ok (.iconst 1, 1) := by decide +kernel
theorem dX7_propose_65 : decode cX7_propose 65 = .ok (.if_icmp .ne 14, 3) := by decide +kernel
theorem dX7_propose_68 : decode cX7_propose 68 = .ok (.aload_n 0, 1) := by decide +kernel
theorem dX7_propose_69 : decode cX7_propose 69 = .ok (.getfield 20, 3) := by decide +kernel
theorem dX7_propose_72 : decode cX7_propose 72 = .ok (.iload 4, 2) := by decide +kernel
theorem dX7_propose_74 : decode cX7_propose 74 = .ok (.iaload, 1) := by decide +kernel
theorem dX7_propose_75 : decode cX7_propose 75 = .ok (.iload_n 2, 1) := by decide +kernel
theorem dX7_propose_76 : decode cX7_propose 76 = .ok (.if_icmp .ge 7, 3) := by decide +kernel
theorem dX7_propose_79 : decode cX7_propose 79 = .ok (.iconst 1, 1) := by decide +kernel
theorem dX7_propose_80 : decode cX7_propose 80 = .ok (.goto 4, 3) := by decide +kernel
theorem dX7_propose_83 : decode cX7_propose 83 = .ok (.iconst 0, 1) := by decide +kernel
theorem dX7_propose_84 : decode cX7_propose 84 = .ok (.istore_n 3, 1) := by decide +kernel
theorem dX7_propose_85 : decode cX7_propose 85 = .ok (.iinc 4 1, 3) := by decide +kernel
theorem dX7_propose_88 : decode cX7_propose 88 = .ok (.goto (-44), 3) := by decide +kernel
theorem dX7_propose_91 : decode cX7_propose 91 = .ok (.iload_n 3, 1) := by decide +kernel
theorem dX7_propose_92 : decode cX7_propose 92 = .ok (.ifCond .ne 6, 3) := by decide +kernel
theorem dX7_propose_95 : decode cX7_propose 95 = .ok (.bipush (-3), 2) := by decide +kernel
theorem dX7_propose_97 : decode cX7_propose 97 = .ok (.ireturn, 1) := by decide +kernel
theorem dX7_propose_98 : decode cX7_propose 98 = .ok (.aload_n 0, 1) := by decide +kernel
theorem dX7_propose_99 : decode cX7_propose 99 = .ok (.getfield 23, 3) := by decide +kernel
theorem dX7_propose_102 : decode cX7_propose 102 = .ok (.iload_n 1, 1) := by decide +kernel
theorem dX7_propose_103 : decode cX7_propose 103 = .ok (.iconst 1, 1) := by decide +kernel
theorem dX7_propose_104 : decode cX7_propose 104 = .ok (.iastore, 1) := by decide +kernel
theorem dX7_propose_105 : decode cX7_propose 105 = .ok (.aload_n 0, 1) := by decide +kernel
theorem dX7_propose_106 : decode cX7_propose 106 = .ok (.getfield 20, 3) := by decide +kernel
theorem dX7_propose_109 : decode cX7_propose 109 = .ok (.iload_n 1, 1) := by decide +kernel
theorem dX7_propose_110 : decode cX7_propose 110 = .ok (.iload_n 2, 1) := by decide +kernel
theorem dX7_propose_111 : decode cX7_propose 111 = .ok (.iastore, 1) := by decide +kernel
theorem dX7_propose_112 : decode cX7_propose 112 = .ok (.iconst 1, 1) := by decide +kernel
theorem dX7_propose_113 : decode cX7_propose 113 = .ok (.ireturn, 1) := by decide +kernel
theorem dX7_vote_0 : decode cX7_vote 0 = .ok (.aload_n 0, 1) := by decide +kernel
theorem dX7_vote_1 : decode cX7_vote 1 = .ok (.iload_n 1, 1) := by decide +kernel
theorem dX7_vote_2 : decode cX7_vote 2 = .ok (.invokevirtual 96, 3) := by decide +kernel
theorem dX7_vote_5 : decode cX7_vote 5 = .ok (.ifCond .eq 11, 3) := by decide +kernel
theorem dX7_vote_8 : decode cX7_vote 8 = .ok (.aload_n 0, 1) := by decide +kernel
theorem dX7_vote_9 : decode cX7_vote 9 = .ok (.iload_n 2, 1) := by decide +kernel
theorem dX7_vote_10 : decode cX7_vote 10 = .ok (.invokevirtual 92, 3) := by decide +kernel
theorem dX7_vote_13 : decode cX7_vote 13 = .ok (.ifCond .ne 6, 3) := by decide +kernel
theorem dX7_vote_16 : decode cX7_vote 16 = .ok (.bipush (-2), 2) := by decide +kernel
theorem dX7_vote_18 : decode cX7_vote 18 = .ok (.ireturn, 1) := by decide +kernel
theorem dX7_vote_19 : decode cX7_vote 19 = .ok (.aload_n 0, 1) := by decide +kernel
theorem dX7_vote_20 : decode cX7_vote 20 = .ok (.getfield 23, 3) := by decide +kernel
theorem dX7_vote_23 : decode cX7_vote 23 = .ok (.iload_n 2, 1) := by decide +kernel
theorem dX7_vote_24 : decode cX7_vote 24 = .ok (.iaload, 1) := by decide +kernel
theorem dX7_vote_25 : decode cX7_vote 25 = .ok (.iconst 1, 1) := by decide +kernel
theorem dX7_vote_26 : decode cX7_vote 26 = .ok (.if_icmp .ne 13, 3) := by decide +kernel
theorem dX7_vote_29 : decode cX7_vote 29 = .ok (.aload_n 0, 1) := by decide +kernel
theorem dX7_vote_30 : decode cX7_vote 30 = .ok (.getfield 35, 3) := by decide +kernel
theorem dX7_vote_33 : decode cX7_vote 33 = .ok (.iload_n 1, 1) := by decide +kernel
theorem dX7_vote_34 : decode cX7_vote 34 = .ok (.iaload, 1) := by decide +kernel
theorem dX7_vote_35 : decode cX7_vote 35 = .ok (.iconst (-1), 1) := by decide +kernel
theorem dX7_vote_36 : decode cX7_vote 36 = .ok (.if_icmp .eq 6, 3) := by decide +kernel
theorem dX7_vote_39 : decode cX7_vote 39 = .ok (.bipush (-3), 2) := by decide +kernel
theorem dX7_vote_41 : decode cX7_vote 41 = .ok (.ireturn, 1) := by decide +kernel
theorem dX7_vote_42 : decode cX7_vote 42 = .ok (.aload_n 0, 1) := by decide +kernel
theorem dX7_vote_43 : decode cX7_vote 43 = .ok (.getfield 38, 3) := by decide +kernel
theorem dX7_vote_46 : decode cX7_vote 46 = .ok (.bipush 12, 2) := by decide +kernel
theorem dX7_vote_48 : decode cX7_vote 48 = .ok (.iload_n 2, 1) := by decide +kernel
theorem dX7_vote_49 : decode cX7_vote 49 = .ok (.imul, 1) := by decide +kernel
theorem dX7_vote_50 : decode cX7_vote 50 = .ok (.iload_n 1, 1) := by decide +kernel
theorem dX7_vote_51 : decode cX7_vote 51 = .ok (.iadd, 1) := by decide +kernel
theorem dX7_vote_52 : decode cX7_vote 52 = .ok (.iload_n 3, 1) := by decide +kernel
theorem dX7_vote_53 : decode cX7_vote 53 = .ok (.bastore, 1) := by decide +kernel
theorem dX7_vote_54 : decode cX7_vote 54 = .ok (.iconst 1, 1) := by decide +kernel
theorem dX7_vote_55 : decode cX7_vote 55 = .ok (.ireturn, 1) := by decide +kernel
theorem dX7_agrees_0 : decode cX7_agrees 0 = .ok (.iconst 0, 1) := by decide +kernel
theorem dX7_agrees_1 : decode cX7_agrees 1 = .ok (.istore_n 2, 1) := by decide +kernel
theorem dX7_agrees_2 : decode cX7_agrees 2 = .ok (.iconst 0, 1) := by decide +kernel
theorem dX7_agrees_3 : decode cX7_agrees 3 = .ok (.istore_n 3, 1) := by decide +kernel
theorem dX7_agrees_4 : decode cX7_agrees 4 = .ok (.iconst 0, 1) := by decide +kernel
theorem dX7_agrees_5 : decode cX7_agrees 5 = .ok (.istore 4, 2) := by decide +kernel
theorem dX7_agrees_7 : decode cX7_agrees 7 = .ok (.iload 4, 2) := by decide +kernel
theorem dX7_agrees_9 : decode cX7_agrees 9 = .ok (.aload_n 0, 1) := by decide +kernel
theorem dX7_agrees_10 : decode cX7_agrees 10 = .ok (.getfield 86, 3) := by decide +kernel
theorem dX7_agrees_13 : decode cX7_agrees 13 = .ok (.if_icmp .ge 59, 3) := by decide +kernel
theorem dX7_agrees_16 : decode cX7_agrees 16 = .ok (.iload_n 2, 1) := by decide +kernel
theorem dX7_agrees_17 : decode cX7_agrees 17 = .ok (.aload_n 0, 1) := by decide +kernel
theorem dX7_agrees_18 : decode cX7_agrees 18 = .ok (.getfield 29, 3) := by decide +kernel
theorem dX7_agrees_21 : decode cX7_agrees 21 = .ok (.iload 4, 2) := by decide +kernel
theorem dX7_agrees_23 : decode cX7_agrees 23 = .ok (.iaload, 1) := by decide +kernel
theorem dX7_agrees_24 : decode cX7_agrees 24 = .ok (.iadd, 1) := by decide +kernel
theorem dX7_agrees_25 : decode cX7_agrees 25 = .ok (.istore_n 2, 1) := by decide +kernel
theorem dX7_agrees_26 : decode cX7_agrees 26 = .ok (.iload_n 3, 1) := by decide +kernel
theorem dX7_agrees_27 : decode cX7_agrees 27 = .ok (.aload_n 0, 1) := by decide +kernel
theorem dX7_agrees_28 : decode cX7_agrees 28 = .ok (.getfield 38, 3) := by decide +kernel
theorem dX7_agrees_31 : decode cX7_agrees 31 = .ok (.bipush 12, 2) := by decide +kernel
theorem dX7_agrees_33 : decode cX7_agrees 33 = .ok (.iload_n 1, 1) := by decide +kernel
theorem dX7_agrees_34 : decode cX7_agrees 34 = .ok (.imul, 1) := by decide +kernel
theorem dX7_agrees_35 : decode cX7_agrees 35 = .ok (.iload 4, 2) := by decide +kernel
theorem dX7_agrees_37 : decode cX7_agrees 37 = .ok (.iadd, 1) := by decide +kernel
theorem dX7_agrees_38 : decode cX7_agrees 38 = .ok (.baload, 1) := by decide +kernel
theorem dX7_agrees_39 : decode cX7_agrees 39 = .ok (.ifCond .eq 24, 3) := by decide +kernel
theorem dX7_agrees_42 : decode cX7_agrees 42 = .ok (.aload_n 0, 1) := by decide +kernel
theorem dX7_agrees_43 : decode cX7_agrees 43 = .ok (.getfield 35, 3) := by decide +kernel
theorem dX7_agrees_46 : decode cX7_agrees 46 = .ok (.iload 4, 2) := by decide +kernel
theorem dX7_agrees_48 : decode cX7_agrees 48 = .ok (.iaload, 1) := by decide +kernel
theorem dX7_agrees_49 : decode cX7_agrees 49 = .ok (.iconst (-1), 1) := by decide +kernel
theorem dX7_agrees_50 : decode cX7_agrees 50 = .ok (.if_icmp .ne 13, 3) := by decide +kernel
theorem dX7_agrees_53 : decode cX7_agrees 53 = .ok (.aload_n 0, 1) := by decide +kernel
theorem dX7_agrees_54 : decode cX7_agrees 54 = .ok (.getfield 29, 3) := by decide +kernel
theorem dX7_agrees_57 : decode cX7_agrees 57 = .ok (.iload 4, 2) := by decide +kernel
theorem dX7_agrees_59 : decode cX7_agrees 59 = .ok (.iaload, 1) := by decide +kernel
theorem dX7_agrees_60 : decode cX7_agrees 60 = .ok (.goto 4, 3) := by decide +kernel
theorem dX7_agrees_63 : decode cX7_agrees 63 = .ok (.iconst 0, 1) := by decide +kernel
theorem dX7_agrees_64 : decode cX7_agrees 64 = .ok (.iadd, 1) := by decide +kernel
theorem dX7_agrees_65 : decode cX7_agrees 65 = .ok (.istore_n 3, 1) := by decide +kernel
theorem dX7_agrees_66 : decode cX7_agrees 66 = .ok (.iinc 4 1, 3) := by decide +kernel
theorem dX7_agrees_69 : decode cX7_agrees 69 = .ok (.goto (-62), 3) := by decide +kernel
theorem dX7_agrees_72 : decode cX7_agrees 72 = .ok (.iconst 3, 1) := by decide +kernel
theorem dX7_agrees_73 : decode cX7_agrees 73 = .ok (.iload_n 3, 1) := by decide +kernel
theorem dX7_agrees_74 : decode cX7_agrees 74 = .ok (.imul, 1) := by decide +kernel
theorem dX7_agrees_75 : decode cX7_agrees 75 = .ok (.iconst 2, 1) := by decide +kernel
theorem dX7_agrees_76 : decode cX7_agrees 76 = .ok (.iload_n 2, 1) := by decide +kernel
theorem dX7_agrees_77 : decode cX7_agrees 77 = .ok (.imul, 1) := by decide +kernel
theorem dX7_agrees_78 : decode cX7_agrees 78 = .ok (.if_icmp .lt 7, 3) := by decide +kernel
theorem dX7_agrees_81 : decode cX7_agrees 81 = .ok (.iconst 1, 1) := by decide +kernel
theorem dX7_agrees_82 : decode cX7_agrees 82 = .ok (.goto 4, 3) := by decide +kernel
theorem dX7_agrees_85 : decode cX7_agrees 85 = .ok (.iconst 0, 1) := by decide +kernel
theorem dX7_agrees_86 : decode cX7_agrees 86 = .ok (.istore 4, 2) := by decide +kernel
theorem dX7_agrees_88 : decode cX7_agrees 88 = .ok (.aload_n 0, 1) := by decide +kernel
theorem dX7_agrees_89 : decode cX7_agrees 89 = .ok (.getfield 23, 3) := by decide +kernel
theorem dX7_agrees_92 : decode cX7_agrees 92 = .ok (.iload_n 1, 1) := by decide +kernel
theorem dX7_agrees_93 : decode cX7_agrees 93 = .ok (.iload 4, 2) := by decide +kernel
theorem dX7_agrees_95 : decode cX7_agrees 95 = .ok (.ifCond .eq 7, 3) := by decide +kernel
theorem dX7_agrees_98 : decode cX7_agrees 98 = .ok (.iconst 2, 1) := by decide +kernel
theorem dX7_agrees_99 : decode cX7_agrees 99 = .ok (.goto 4, 3) := by decide +kernel
theorem dX7_agrees_102 : decode cX7_agrees 102 = .ok (.iconst 3, 1) := by decide +kernel
theorem dX7_agrees_103 : decode cX7_agrees 103 = .ok (.iastore, 1) := by decide +kernel
theorem dX7_agrees_104 : decode cX7_agrees 104 = .ok (.aload_n 0, 1) := by decide +kernel
theorem dX7_agrees_105 : decode cX7_agrees 105 = .ok (.getfield 26, 3) := by decide +kernel
theorem dX7_agrees_108 : decode cX7_agrees 108 = .ok (.aload_n 0, 1) := by decide +kernel
theorem dX7_agrees_109 : decode cX7_agrees 109 = .ok (.getfield 99, 3) := by decide +kernel
theorem dX7_agrees_112 : decode cX7_agrees 112 = .ok (.iload 4, 2) := by decide +kernel
theorem dX7_agrees_114 : decode cX7_agrees 114 = .ok (.ifCond .eq 7, 3) := by decide +kernel
theorem dX7_agrees_117 : decode cX7_agrees 117 = .ok (.iload_n 1, 1) := by decide +kernel
theorem dX7_agrees_118 : decode cX7_agrees 118 = .ok (.goto 12, 3) := by decide +kernel
theorem dX7_agrees_121 : decode cX7_agrees 121 = .ok (.aload_n 0, 1) := by decide +kernel
theorem dX7_agrees_122 : decode cX7_agrees 122 = .ok (.getfield 26, 3) := by decide +kernel
theorem dX7_agrees_125 : decode cX7_agrees 125 = .ok (.aload_n 0, 1) := by decide +kernel
theorem dX7_agrees_126 : decode cX7_agrees 126 = .ok (.getfield 99, 3) := by decide +kernel
theorem dX7_agrees_129 : decode cX7_agrees 129 = .ok (.iaload, 1) := by decide +kernel
theorem dX7_agrees_130 : decode cX7_agrees 130 = .ok (.iastore, 1) := by decide +kernel
theorem dX7_agrees_131 : decode cX7_agrees 131 = .ok (.return_, 1) := by decide +kernel
theorem dX7_comes_0 : decode cX7_comes 0 = .ok (.aload_n 0, 1) := by decide +kernel
theorem dX7_comes_1 : decode cX7_comes 1 = .ok (.dup, 1) := by decide +kernel
theorem dX7_comes_2 : decode cX7_comes 2 = .ok (.getfield 99, 3) := by decide +kernel
theorem dX7_comes_5 : decode cX7_comes 5 = .ok (.iconst 1, 1) := by decide +kernel
theorem dX7_comes_6 : decode cX7_comes 6 = .ok (.iadd, 1) := by decide +kernel
theorem dX7_comes_7 : decode cX7_comes 7 = .ok (.putfield 99, 3) := by decide +kernel
theorem dX7_comes_10 : decode cX7_comes 10 = .ok (.aload_n 0, 1) := by decide +kernel
theorem dX7_comes_11 : decode cX7_comes 11 = .ok (.getfield 26, 3) := by decide +kernel
theorem dX7_comes_14 : decode cX7_comes 14 = .ok (.aload_n 0, 1) := by decide +kernel
theorem dX7_comes_15 : decode cX7_comes 15 = .ok (.getfield 99, 3) := by decide +kernel
theorem dX7_comes_18 : decode cX7_comes 18 = .ok (.aload_n 0, 1) := by decide +kernel
theorem dX7_comes_19 : decode cX7_comes 19 = .ok (.getfield 26, 3) := by decide +kernel
theorem dX7_comes_22 : decode cX7_comes 22 = .ok (.aload_n 0, 1) := by decide +kernel
theorem dX7_comes_23 : decode cX7_comes 23 = .ok (.getfield 99, 3) := by decide +kernel
theorem dX7_comes_26 : decode cX7_comes 26 = .ok (.iconst 1, 1) := by decide +kernel
theorem dX7_comes_27 : decode cX7_comes 27 = .ok (.isub, 1) := by decide +kernel
theorem dX7_comes_28 : decode cX7_comes 28 = .ok (.iaload, 1) := by decide +kernel
theorem dX7_comes_29 : decode cX7_comes 29 = .ok (.iastore, 1) := by decide +kernel
theorem dX7_comes_30 : decode cX7_comes 30 = .ok (.iconst 0, 1) := by decide +kernel
theorem dX7_comes_31 : decode cX7_comes 31 = .ok (.istore_n 1, 1) := by decide +kernel
theorem dX7_comes_32 : decode cX7_comes 32 = .ok (.iload_n 1, 1) := by decide +kernel
theorem dX7_comes_33 : decode cX7_comes 33 = .ok (.aload_n 0, 1) := by decide +kernel
theorem dX7_comes_34 : decode cX7_comes 34 = .ok (.getfield 7, 3) := by decide +kernel
theorem dX7_comes_37 : decode cX7_comes 37 = .ok (.if_icmp .ge 37, 3) := by decide +kernel
theorem dX7_comes_40 : decode cX7_comes 40 = .ok (.aload_n 0, 1) := by decide +kernel
theorem dX7_comes_41 : decode cX7_comes 41 = .ok (.getfield 23, 3) := by decide +kernel
theorem dX7_comes_44 : decode cX7_comes 44 = .ok (.iload_n 1, 1) := by decide +kernel
theorem dX7_comes_45 : decode cX7_comes 45 = .ok (.iaload, 1) := by decide +kernel
theorem dX7_comes_46 : decode cX7_comes 46 = .ok (.iconst 1, 1) := by decide +kernel
theorem dX7_comes_47 : decode cX7_comes 47 = .ok (.if_icmp .ne 21, 3) := by decide +kernel
theorem dX7_comes_50 : decode cX7_comes 50 = .ok (.aload_n 0, 1) := by decide +kernel
theorem dX7_comes_51 : decode cX7_comes 51 = .ok (.getfield 20, 3) := by decide +kernel
theorem dX7_comes_54 : decode cX7_comes 54 = .ok (.iload_n 1, 1) := by decide +kernel
theorem dX7_comes_55 : decode cX7_comes 55 = .ok (.iaload, 1) := by decide +kernel
theorem dX7_comes_56 : decode cX7_comes 56 = .ok (.aload_n 0, 1) := by decide +kernel
theorem dX7_comes_57 : decode cX7_comes 57 = .ok (.getfield 99, 3) := by decide +kernel
theorem dX7_comes_60 : decode cX7_comes 60 = .ok (.if_icmp .ne 8, 3) := by decide +kernel
theorem dX7_comes_63 : decode cX7_comes 63 = .ok (.aload_n 0, 1) := by decide +kernel
theorem dX7_comes_64 : decode cX7_comes 64 = .ok (.iload_n 1, 1) := by decide +kernel
theorem dX7_comes_65 : decode cX7_comes 65 = .ok (.invokevirtual 102, 3) := by decide +kernel
theorem dX7_comes_68 : decode cX7_comes 68 = .ok (.iinc 1 1, 3) := by decide +kernel
theorem dX7_comes_71 : decode cX7_comes 71 = .ok (.goto (-39), 3) := by decide +kernel
theorem dX7_comes_74 : decode cX7_comes 74 = .ok (.iconst 0, 1) := by decide +kernel
theorem dX7_comes_75 : decode cX7_comes 75 = .ok (.istore_n 1, 1) := by decide +kernel
theorem dX7_comes_76 : decode cX7_comes 76 = .ok (.iload_n 1, 1) := by decide +kernel
theorem dX7_comes_77 : decode cX7_comes 77 = .ok (.aload_n 0, 1) := by decide +kernel
theorem dX7_comes_78 : decode cX7_comes 78 = .ok (.getfield 86, 3) := by decide +kernel
theorem dX7_comes_81 : decode cX7_comes 81 = .ok (.if_icmp .ge 50, 3) := by decide +kernel
theorem dX7_comes_84 : decode cX7_comes 84 = .ok (.aload_n 0, 1) := by decide +kernel
theorem dX7_comes_85 : decode cX7_comes 85 = .ok (.getfield 35, 3) := by decide +kernel
theorem dX7_comes_88 : decode cX7_comes 88 = .ok (.iload_n 1, 1) := by decide +kernel
theorem dX7_comes_89 : decode cX7_comes 89 = .ok (.iaload, 1) := by decide +kernel
theorem dX7_comes_90 : decode cX7_comes 90 = .ok (.iconst (-1), 1) := by decide +kernel
theorem dX7_comes_91 : decode cX7_comes 91 = .ok (.if_icmp .ne 34, 3) := by decide +kernel
theorem dX7_comes_94 : decode cX7_comes 94 = .ok (.aload_n 0, 1) := by decide +kernel
theorem dX7_comes_95 : decode cX7_comes 95 = .ok (.getfield 32, 3) := by decide +kernel
theorem dX7_comes_98 : decode cX7_comes 98 = .ok (.iload_n 1, 1) := by decide +kernel
theorem dX7_comes_99 : decode cX7_comes 99 = .ok (.iaload, 1) := by decide +kernel
theorem dX7_comes_100 : decode cX7_comes 100 = .ok (.aload_n 0, 1) := by decide +kernel
theorem dX7_comes_101 : decode cX7_comes 101 = .ok (.getfield 26, 3) := by decide +kernel
theorem dX7_comes_104 : decode cX7_comes 104 = .ok (.aload_n 0, 1) := by decide +kernel
theorem dX7_comes_105 : decode cX7_comes 105 = .ok (.getfield 99, 3) := by decide +kernel
theorem dX7_comes_108 : decode cX7_comes 108 = .ok (.iaload, 1) := by decide +kernel
theorem dX7_comes_109 : decode cX7_comes 109 = .ok (.ishr, 1) := by decide +kernel
theorem dX7_comes_110 : decode cX7_comes 110 = .ok (.iconst 1, 1) := by decide +kernel
theorem dX7_comes_111 : decode cX7_comes 111 = .ok (.iand, 1) := by decide +kernel
theorem dX7_comes_112 : decode cX7_comes 112 = .ok (.ifCond .ne 13, 3) := by decide +kernel
theorem dX7_comes_115 : decode cX7_comes 115 = .ok (.aload_n 0, 1) := by decide +kernel
theorem dX7_comes_116 : decode cX7_comes 116 = .ok (.getfield 35, 3) := by decide +kernel
theorem dX7_comes_119 : decode cX7_comes 119 = .ok (.iload_n 1, 1) := by decide +kernel
theorem dX7_comes_120 : decode cX7_comes 120 = .ok (.aload_n 0, 1) := by decide +kernel
theorem dX7_comes_121 : decode cX7_comes 121 = .ok (.getfield 99, 3) := by decide +kernel
theorem dX7_comes_124 : decode cX7_comes 124 = .ok (.iastore, 1) := by decide +kernel
theorem dX7_comes_125 : decode cX7_comes 125 = .ok (.iinc 1 1, 3) := by decide +kernel
theorem dX7_comes_128 : decode cX7_comes 128 = .ok (.goto (-52), 3) := by decide +kernel
theorem dX7_comes_131 : decode cX7_comes 131 = .ok (.return_, 1) := by decide +kernel
theorem dX7_rise_0 : decode cX7_rise 0 = .ok (.iload_n 1, 1) := by decide +kernel
theorem dX7_rise_1 : decode cX7_rise 1 = .ok (.iconst 1, 1) := by decide +kernel
theorem dX7_rise_2 : decode cX7_rise 2 = .ok (.bipush 100, 2) := by decide +kernel
theorem dX7_rise_4 : decode cX7_rise 4 = .ok (.invokestatic 82, 3) := by decide +kernel
theorem dX7_rise_7 : decode cX7_rise 7 = .ok (.ifCond .ne 6, 3) := by decide +kernel
theorem dX7_rise_10 : decode cX7_rise 10 = .ok (.bipush (-2), 2) := by decide +kernel
theorem dX7_rise_12 : decode cX7_rise 12 = .ok (.ireturn, 1) := by decide +kernel
theorem dX7_rise_13 : decode cX7_rise 13 = .ok (.aload_n 0, 1) := by decide +kernel
theorem dX7_rise_14 : decode cX7_rise 14 = .ok (.getfield 99, 3) := by decide +kernel
theorem dX7_rise_17 : decode cX7_rise 17 = .ok (.iload_n 1, 1) := by decide +kernel
theorem dX7_rise_18 : decode cX7_rise 18 = .ok (.iadd, 1) := by decide +kernel
theorem dX7_rise_19 : decode cX7_rise 19 = .ok (.sipush 1000, 3) := by decide +kernel
theorem dX7_rise_22 : decode cX7_rise 22 = .ok (.if_icmp .le 6, 3) := by decide +kernel
theorem dX7_rise_25 : decode cX7_rise 25 = .ok (.bipush (-4), 2) := by decide +kernel
theorem dX7_rise_27 : decode cX7_rise 27 = .ok (.ireturn, 1) := by decide +kernel
theorem dX7_rise_28 : decode cX7_rise 28 = .ok (.iconst 0, 1) := by decide +kernel
theorem dX7_rise_29 : decode cX7_rise 29 = .ok (.istore_n 2, 1) := by decide +kernel
theorem dX7_rise_30 : decode cX7_rise 30 = .ok (.iload_n 2, 1) := by decide +kernel
theorem dX7_rise_31 : decode cX7_rise 31 = .ok (.iload_n 1, 1) := by decide +kernel
theorem dX7_rise_32 : decode cX7_rise 32 = .ok (.if_icmp .ge 13, 3) := by decide +kernel
theorem dX7_rise_35 : decode cX7_rise 35 = .ok (.aload_n 0, 1) := by decide +kernel
theorem dX7_rise_36 : decode cX7_rise 36 = .ok (.invokevirtual 106, 3) := by decide +kernel
theorem dX7_rise_39 : decode cX7_rise 39 = .ok (.iinc 2 1, 3) := by decide +kernel
theorem dX7_rise_42 : decode cX7_rise 42 = .ok (.goto (-12), 3) := by decide +kernel
theorem dX7_rise_45 : decode cX7_rise 45 = .ok (.aload_n 0, 1) := by decide +kernel
theorem dX7_rise_46 : decode cX7_rise 46 = .ok (.getfield 99, 3) := by decide +kernel
theorem dX7_rise_49 : decode cX7_rise 49 = .ok (.ireturn, 1) := by decide +kernel
theorem dX7_force_0 : decode cX7_force 0 = .ok (.iload_n 1, 1) := by decide +kernel
theorem dX7_force_1 : decode cX7_force 1 = .ok (.iconst 0, 1) := by decide +kernel
theorem dX7_force_2 : decode cX7_force 2 = .ok (.aload_n 0, 1) := by decide +kernel
theorem dX7_force_3 : decode cX7_force 3 = .ok (.getfield 99, 3) := by decide +kernel
theorem dX7_force_6 : decode cX7_force 6 = .ok (.invokestatic 82, 3) := by decide +kernel
theorem dX7_force_9 : decode cX7_force 9 = .ok (.ifCond .eq 12, 3) := by decide +kernel
theorem dX7_force_12 : decode cX7_force 12 = .ok (.aload_n 0, 1) := by decide +kernel
theorem dX7_force_13 : decode cX7_force 13 = .ok (.getfield 26, 3) := by decide +kernel
theorem dX7_force_16 : decode cX7_force 16 = .ok (.iload_n 1, 1) := by decide +kernel
theorem dX7_force_17 : decode cX7_force 17 = .ok (.iaload, 1) := by decide +kernel
theorem dX7_force_18 : decode cX7_force 18 = .ok (.goto 5, 3) := by decide +kernel
theorem dX7_force_21 : decode cX7_force 21 = .ok (.bipush (-2), 2) := by decide +kernel
theorem dX7_force_23 : decode cX7_force 23 = .ok (.ireturn, 1) := by decide +kernel
theorem dX7_halted_0 : decode cX7_halted 0 = .ok (.aload_n 0, 1) := by decide +kernel
theorem dX7_halted_1 : decode cX7_halted 1 = .ok (.iload_n 1, 1) := by decide +kernel
theorem dX7_halted_2 : decode cX7_halted 2 = .ok (.invokevirtual 96, 3) := by decide +kernel
theorem dX7_halted_5 : decode cX7_halted 5 = .ok (.ifCond .eq 12, 3) := by decide +kernel
theorem dX7_halted_8 : decode cX7_halted 8 = .ok (.aload_n 0, 1) := by decide +kernel
theorem dX7_halted_9 : decode cX7_halted 9 = .ok (.getfield 35, 3) := by decide +kernel
theorem dX7_halted_12 : decode cX7_halted 12 = .ok (.iload_n 1, 1) := by decide +kernel
theorem dX7_halted_13 : decode cX7_halted 13 = .ok (.iaload, 1) := by decide +kernel
theorem dX7_halted_14 : decode cX7_halted 14 = .ok (.goto 5, 3) := by decide +kernel
theorem dX7_halted_17 : decode cX7_halted 17 = .ok (.bipush (-2), 2) := by decide +kernel
theorem dX7_halted_19 : decode cX7_halted 19 = .ok (.ireturn, 1) := by decide +kernel
theorem dX7_contract_0 : decode cX7_contract 0 = .ok (.aload_n 0, 1) := by decide +kernel
theorem dX7_contract_1 : decode cX7_contract 1 = .ok (.getfield 89, 3) := by decide +kernel
theorem dX7_contract_4 : decode cX7_contract 4 = .ok (.bipush 12, 2) := by decide +kernel
theorem dX7_contract_6 : decode cX7_contract 6 = .ok (.if_icmp .ne 6, 3) := by decide +kernel
theorem dX7_contract_9 : decode cX7_contract 9 = .ok (.bipush (-4), 2) := by decide +kernel
theorem dX7_contract_11 : decode cX7_contract 11 = .ok (.ireturn, 1) := by decide +kernel
theorem dX7_contract_12 : decode cX7_contract 12 = .ok (.aload_n 0, 1) := by decide +kernel
theorem dX7_contract_13 : decode cX7_contract 13 = .ok (.getfield 42, 3) := by decide +kernel
theorem dX7_contract_16 : decode cX7_contract 16 = .ok (.aload_n 0, 1) := by decide +kernel
theorem dX7_contract_17 : decode cX7_contract 17 = .ok (.getfield 89, 3) := by decide +kernel
theorem dX7_contract_20 : decode cX7_contract 20 = .ok (.iconst (-1), 1) := by decide +kernel
theorem dX7_contract_21 : decode cX7_contract 21 = .ok (.iastore, 1) := by decide +kernel
theorem dX7_contract_22 : decode cX7_contract 22 = .ok (.aload_n 0, 1) := by decide +kernel
theorem dX7_contract_23 : decode cX7_contract 23 = .ok (.dup, 1) := by decide +kernel
theorem dX7_contract_24 : decode cX7_contract 24 = .ok (.getfield 89, 3) := by decide +kernel
theorem dX7_contract_27 : decode cX7_contract 27 = .ok (.iconst 1, 1) := by decide +kernel
theorem dX7_contract_28 : decode cX7_contract 28 = .ok (.iadd, 1) := by decide +kernel
theorem dX7_contract_29 : decode cX7_contract 29 = .ok (.putfield 89, 3) := by decide +kernel
theorem dX7_contract_32 : decode cX7_contract 32 = .ok (.aload_n 0, 1) := by decide +kernel
theorem dX7_contract_33 : decode cX7_contract 33 = .ok (.getfield 89, 3) := by decide +kernel
theorem dX7_contract_36 : decode cX7_contract 36 = .ok (.iconst 1, 1) := by decide +kernel
theorem dX7_contract_37 : decode cX7_contract 37 = .ok (.isub, 1) := by decide +kernel
theorem dX7_contract_38 : decode cX7_contract 38 = .ok (.ireturn, 1) := by decide +kernel
theorem dX7_act_0 : decode cX7_act 0 = .ok (.aload_n 0, 1) := by decide +kernel
theorem dX7_act_1 : decode cX7_act 1 = .ok (.iload_n 1, 1) := by decide +kernel
theorem dX7_act_2 : decode cX7_act 2 = .ok (.invokevirtual 109, 3) := by decide +kernel
theorem dX7_act_5 : decode cX7_act 5 = .ok (.ifCond .eq 33, 3) := by decide +kernel
theorem dX7_act_8 : decode cX7_act 8 = .ok (.iload_n 2, 1) := by decide +kernel
theorem dX7_act_9 : decode cX7_act 9 = .ok (.iconst 0, 1) := by decide +kernel
theorem dX7_act_10 : decode cX7_act 10 = .ok (.bipush 8, 2) := by decide +kernel
theorem dX7_act_12 : decode cX7_act 12 = .ok (.invokestatic 82, 3) := by decide +kernel
theorem dX7_act_15 : decode cX7_act 15 = .ok (.ifCond .eq 23, 3) := by decide +kernel
theorem dX7_act_18 : decode cX7_act 18 = .ok (.iload_n 2, 1) := by decide +kernel
theorem dX7_act_19 : decode cX7_act 19 = .ok (.bipush 6, 2) := by decide +kernel
theorem dX7_act_21 : decode cX7_act 21 = .ok (.if_icmp .ne 13, 3) := by decide +kernel
theorem dX7_act_24 : decode cX7_act 24 = .ok (.iload_n 3, 1) := by decide +kernel
theorem dX7_act_25 : decode cX7_act 25 = .ok (.iconst 0, 1) := by decide +kernel
theorem dX7_act_26 : decode cX7_act 26 = .ok (.bipush 7, 2) := by decide +kernel
theorem dX7_act_28 : decode cX7_act 28 = .ok (.invokestatic 82, 3) := by decide +kernel
theorem dX7_act_31 : decode cX7_act 31 = .ok (.ifCond .eq 7, 3) := by decide +kernel
theorem dX7_act_34 : decode cX7_act 34 = .ok (.iconst 1, 1) := by decide +kernel
theorem dX7_act_35 : decode cX7_act 35 = .ok (.goto 4, 3) := by decide +kernel
theorem dX7_act_38 : decode cX7_act 38 = .ok (.iconst 0, 1) := by decide +kernel
theorem dX7_act_39 : decode cX7_act 39 = .ok (.istore 4, 2) := by decide +kernel
theorem dX7_act_41 : decode cX7_act 41 = .ok (.iload 4, 2) := by decide +kernel
theorem dX7_act_43 : decode cX7_act 43 = .ok (.ifCond .eq 24, 3) := by decide +kernel
theorem dX7_act_46 : decode cX7_act 46 = .ok (.iload_n 2, 1) := by decide +kernel
theorem dX7_act_47 : decode cX7_act 47 = .ok (.bipush 7, 2) := by decide +kernel
theorem dX7_act_49 : decode cX7_act 49 = .ok (.if_icmp .eq 9, 3) := by decide +kernel
theorem dX7_act_52 : decode cX7_act 52 = .ok (.iload_n 2, 1) := by decide +kernel
theorem dX7_act_53 : decode cX7_act 53 = .ok (.bipush 8, 2) := by decide +kernel
theorem dX7_act_55 : decode cX7_act 55 = .ok (.if_icmp .ne 15, 3) := by decide +kernel
theorem dX7_act_58 : decode cX7_act 58 = .ok (.iload_n 3, 1) := by decide +kernel
theorem dX7_act_59 : decode cX7_act 59 = .ok (.iconst 0, 1) := by decide +kernel
theorem dX7_act_60 : decode cX7_act 60 = .ok (.iconst 3, 1) := by decide +kernel
theorem dX7_act_61 : decode cX7_act 61 = .ok (.invokestatic 82, 3) := by decide +kernel
theorem dX7_act_64 : decode cX7_act 64 = .ok (.ifCond .ne 6, 3) := by decide +kernel
theorem dX7_act_67 : decode cX7_act 67 = .ok (.bipush (-2), 2) := by decide +kernel
theorem dX7_act_69 : decode cX7_act 69 = .ok (.ireturn, 1) := by decide +kernel
theorem dX7_act_70 : decode cX7_act 70 = .ok (.aload_n 0, 1) := by decide +kernel
theorem dX7_act_71 : decode cX7_act 71 = .ok (.getfield 42, 3) := by decide +kernel
theorem dX7_act_74 : decode cX7_act 74 = .ok (.iload_n 1, 1) := by decide +kernel
theorem dX7_act_75 : decode cX7_act 75 = .ok (.iaload, 1) := by decide +kernel
theorem dX7_act_76 : decode cX7_act 76 = .ok (.iconst (-1), 1) := by decide +kernel
theorem dX7_act_77 : decode cX7_act 77 = .ok (.if_icmp .eq 6, 3) := by decide +kernel
theorem dX7_act_80 : decode cX7_act 80 = .ok (.bipush (-3), 2) := by decide +kernel
theorem dX7_act_82 : decode cX7_act 82 = .ok (.ireturn, 1) := by decide +kernel
theorem dX7_act_83 : decode cX7_act 83 = .ok (.aload_n 0, 1) := by decide +kernel
theorem dX7_act_84 : decode cX7_act 84 = .ok (.getfield 45, 3) := by decide +kernel
theorem dX7_act_87 : decode cX7_act 87 = .ok (.iload_n 1, 1) := by decide +kernel
theorem dX7_act_88 : decode cX7_act 88 = .ok (.iaload, 1) := by decide +kernel
theorem dX7_act_89 : decode cX7_act 89 = .ok (.bipush 24, 2) := by decide +kernel
theorem dX7_act_91 : decode cX7_act 91 = .ok (.if_icmp .ne 6, 3) := by decide +kernel
theorem dX7_act_94 : decode cX7_act 94 = .ok (.bipush (-4), 2) := by decide +kernel
theorem dX7_act_96 : decode cX7_act 96 = .ok (.ireturn, 1) := by decide +kernel
theorem dX7_act_97 : decode cX7_act 97 = .ok (.aload_n 0, 1) := by decide +kernel
theorem dX7_act_98 : decode cX7_act 98 = .ok (.getfield 48, 3) := by decide +kernel
theorem dX7_act_101 : decode cX7_act 101 = .ok (.bipush 24, 2) := by decide +kernel
theorem dX7_act_103 : decode cX7_act 103 = .ok (.iload_n 1, 1) := by decide +kernel
theorem dX7_act_104 : decode cX7_act 104 = .ok (.imul, 1) := by decide +kernel
theorem dX7_act_105 : decode cX7_act 105 = .ok (.aload_n 0, 1) := by decide +kernel
theorem dX7_act_106 : decode cX7_act 106 = .ok (.getfield 45, 3) := by decide +kernel
theorem dX7_act_109 : decode cX7_act 109 = .ok (.iload_n 1, 1) := by decide +kernel
theorem dX7_act_110 : decode cX7_act 110 = .ok (.iaload, 1) := by decide +kernel
theorem dX7_act_111 : decode cX7_act 111 = .ok (.iadd, 1) := by decide +kernel
theorem dX7_act_112 : decode cX7_act 112 = .ok (.iload_n 2, 1) := by decide +kernel
theorem dX7_act_113 : decode cX7_act 113 = .ok (.iastore, 1) := by decide +kernel
theorem dX7_act_114 : decode cX7_act 114 = .ok (.aload_n 0, 1) := by decide +kernel
theorem dX7_act_115 : decode cX7_act 115 = .ok (.getfield 51, 3) := by decide +kernel
theorem dX7_act_118 : decode cX7_act 118 = .ok (.bipush 24, 2) := by decide +kernel
theorem dX7_act_120 : decode cX7_act 120 = .ok (.iload_n 1, 1) := by decide +kernel
theorem dX7_act_121 : decode cX7_act 121 = .ok (.imul, 1) := by decide +kernel
theorem dX7_act_122 : decode cX7_act 122 = .ok (.aload_n 0, 1) := by decide +kernel
theorem dX7_act_123 : decode cX7_act 123 = .ok (.getfield 45, 3) := by decide +kernel
theorem dX7_act_126 : decode cX7_act 126 = .ok (.iload_n 1, 1) := by decide +kernel
theorem dX7_act_127 : decode cX7_act 127 = .ok (.iaload, 1) := by decide +kernel
theorem dX7_act_128 : decode cX7_act 128 = .ok (.iadd, 1) := by decide +kernel
theorem dX7_act_129 : decode cX7_act 129 = .ok (.iload_n 3, 1) := by decide +kernel
theorem dX7_act_130 : decode cX7_act 130 = .ok (.iastore, 1) := by decide +kernel
theorem dX7_act_131 : decode cX7_act 131 = .ok (.aload_n 0, 1) := by decide +kernel
theorem dX7_act_132 : decode cX7_act 132 = .ok (.getfield 45, 3) := by decide +kernel
theorem dX7_act_135 : decode cX7_act 135 = .ok (.iload_n 1, 1) := by decide +kernel
theorem dX7_act_136 : decode cX7_act 136 = .ok (.dup2, 1) := by decide +kernel
theorem dX7_act_137 : decode cX7_act 137 = .ok (.iaload, 1) := by decide +kernel
theorem dX7_act_138 : decode cX7_act 138 = .ok (.iconst 1, 1) := by decide +kernel
theorem dX7_act_139 : decode cX7_act 139 = .ok (.iadd, 1) := by decide +kernel
theorem dX7_act_140 : decode cX7_act 140 = .ok (.iastore, 1) := by decide +kernel
theorem dX7_act_141 : decode cX7_act 141 = .ok (.aload_n 0, 1) := by decide +kernel
theorem dX7_act_142 : decode cX7_act 142 = .ok (.getfield 45, 3) := by decide +kernel
theorem dX7_act_145 : decode cX7_act 145 = .ok (.iload_n 1, 1) := by decide +kernel
theorem dX7_act_146 : decode cX7_act 146 = .ok (.iaload, 1) := by decide +kernel
theorem dX7_act_147 : decode cX7_act 147 = .ok (.ireturn, 1) := by decide +kernel
theorem dX7_deploy_0 : decode cX7_deploy 0 = .ok (.aload_n 0, 1) := by decide +kernel
theorem dX7_deploy_1 : decode cX7_deploy 1 = .ok (.iload_n 1, 1) := by decide +kernel
theorem dX7_deploy_2 : decode cX7_deploy 2 = .ok (.invokevirtual 109, 3) := by decide +kernel
theorem dX7_deploy_5 : decode cX7_deploy 5 = .ok (.ifCond .ne 6, 3) := by decide +kernel
theorem dX7_deploy_8 : decode cX7_deploy 8 = .ok (.bipush (-2), 2) := by decide +kernel
theorem dX7_deploy_10 : decode cX7_deploy 10 = .ok (.ireturn, 1) := by decide +kernel
theorem dX7_deploy_11 : decode cX7_deploy 11 = .ok (.aload_n 0, 1) := by decide +kernel
theorem dX7_deploy_12 : decode cX7_deploy 12 = .ok (.getfield 42, 3) := by decide +kernel
theorem dX7_deploy_15 : decode cX7_deploy 15 = .ok (.iload_n 1, 1) := by decide +kernel
theorem dX7_deploy_16 : decode cX7_deploy 16 = .ok (.iaload, 1) := by decide +kernel
theorem dX7_deploy_17 : decode cX7_deploy 17 = .ok (.iconst (-1), 1) := by decide +kernel
theorem dX7_deploy_18 : decode cX7_deploy 18 = .ok (.if_icmp .ne 12, 3) := by decide +kernel
theorem dX7_deploy_21 : decode cX7_deploy 21 = .ok (.aload_n 0, 1) := by decide +kernel
theorem dX7_deploy_22 : decode cX7_deploy 22 = .ok (.getfield 45, 3) := by decide +kernel
theorem dX7_deploy_25 : decode cX7_deploy 25 = .ok (.iload_n 1, 1) := by decide +kernel
theorem dX7_deploy_26 : decode cX7_deploy 26 = .ok (.iaload, 1) := by decide +kernel
theorem dX7_deploy_27 : decode cX7_deploy 27 = .ok (.ifCond .ne 6, 3) := by decide +kernel
theorem dX7_deploy_30 : decode cX7_deploy 30 = .ok (.bipush (-3), 2) := by decide +kernel
theorem dX7_deploy_32 : decode cX7_deploy 32 = .ok (.ireturn, 1) := by decide +kernel
theorem dX7_deploy_33 : decode cX7_deploy 33 = .ok (.aload_n 0, 1) := by decide +kernel
theorem dX7_deploy_34 : decode cX7_deploy 34 = .ok (.getfield 26, 3) := by decide +kernel
theorem dX7_deploy_37 : decode cX7_deploy 37 = .ok (.aload_n 0, 1) := by decide +kernel
theorem dX7_deploy_38 : decode cX7_deploy 38 = .ok (.getfield 99, 3) := by decide +kernel
theorem dX7_deploy_41 : decode cX7_deploy 41 = .ok (.iaload, 1) := by decide +kernel
theorem dX7_deploy_42 : decode cX7_deploy 42 = .ok (.istore_n 2, 1) := by decide +kernel
theorem dX7_deploy_43 : decode cX7_deploy 43 = .ok (.iconst 0, 1) := by decide +kernel
theorem dX7_deploy_44 : decode cX7_deploy 44 = .ok (.istore_n 3, 1) := by decide +kernel
theorem dX7_deploy_45 : decode cX7_deploy 45 = .ok (.bipush 24, 2) := by decide +kernel
theorem dX7_deploy_47 : decode cX7_deploy 47 = .ok (.iload_n 1, 1) := by decide +kernel
theorem dX7_deploy_48 : decode cX7_deploy 48 = .ok (.imul, 1) := by decide +kernel
theorem dX7_deploy_49 : decode cX7_deploy 49 = .ok (.istore 4, 2) := by decide +kernel
theorem dX7_deploy_51 : decode cX7_deploy 51 = .ok (.iload 4, 2) := by decide +kernel
theorem dX7_deploy_53 : decode cX7_deploy 53 = .ok (.bipush 24, 2) := by decide +kernel
theorem dX7_deploy_55 : decode cX7_deploy 55 = .ok (.iload_n 1, 1) := by decide +kernel
theorem dX7_deploy_56 : decode cX7_deploy 56 = .ok (.imul, 1) := by decide +kernel
theorem dX7_deploy_57 : decode cX7_deploy 57 = .ok (.aload_n 0, 1) := by decide +kernel
theorem dX7_deploy_58 : decode cX7_deploy 58 = .ok (.getfield 45, 3) := by decide +kernel
theorem dX7_deploy_61 : decode cX7_deploy 61 = .ok (.iload_n 1, 1) := by decide +kernel
theorem dX7_deploy_62 : decode cX7_deploy 62 = .ok (.iaload, 1) := by decide +kernel
theorem dX7_deploy_63 : decode cX7_deploy 63 = .ok (.iadd, 1) := by decide +kernel
theorem dX7_deploy_64 : decode cX7_deploy 64 = .ok (.if_icmp .ge 113, 3) := by decide +kernel
theorem dX7_deploy_67 : decode cX7_deploy 67 = .ok (.aload_n 0, 1) := by decide +kernel
theorem dX7_deploy_68 : decode cX7_deploy 68 = .ok (.getfield 48, 3) := by decide +kernel
theorem dX7_deploy_71 : decode cX7_deploy 71 = .ok (.iload 4, 2) := by decide +kernel
theorem dX7_deploy_73 : decode cX7_deploy 73 = .ok (.iaload, 1) := by decide +kernel
theorem dX7_deploy_74 : decode cX7_deploy 74 = .ok (.istore 5, 2) := by decide +kernel
theorem dX7_deploy_76 : decode cX7_deploy 76 = .ok (.iload 5, 2) := by decide +kernel
theorem dX7_deploy_78 : decode cX7_deploy 78 = .ok (.bipush 6, 2) := by decide +kernel
theorem dX7_deploy_80 : decode cX7_deploy 80 = .ok (.if_icmp .ne 27, 3) := by decide +kernel
theorem dX7_deploy_83 : decode cX7_deploy 83 = .ok (.aload_n 0, 1) := by decide +kernel
theorem dX7_deploy_84 : decode cX7_deploy 84 = .ok (.getfield 17, 3) := by decide +kernel
theorem dX7_deploy_87 : decode cX7_deploy 87 = .ok (.bipush 8, 2) := by decide +kernel
theorem dX7_deploy_89 : decode cX7_deploy 89 = .ok (.iload_n 2, 1) := by decide +kernel
theorem dX7_deploy_90 : decode cX7_deploy 90 = .ok (.imul, 1) := by decide +kernel
theorem dX7_deploy_91 : decode cX7_deploy 91 = .ok (.aload_n 0, 1) := by decide +kernel
theorem dX7_deploy_92 : decode cX7_deploy 92 = .ok (.getfield 51, 3) := by decide +kernel
theorem dX7_deploy_95 : decode cX7_deploy 95 = .ok (.iload 4, 2) := by decide +kernel
theorem dX7_deploy_97 : decode cX7_deploy 97 = .ok (.iaload, 1) := by decide +kernel
theorem dX7_deploy_98 : decode cX7_deploy 98 = .ok (.iadd, 1) := by decide +kernel
theorem dX7_deploy_99 : decode cX7_deploy 99 = .ok (.iaload, 1) := by decide +kernel
theorem dX7_deploy_100 : decode cX7_deploy 100 = .ok (.iconst (-1), 1) := by decide +kernel
theorem dX7_deploy_101 : decode cX7_deploy 101 = .ok (.if_icmp .ne 6, 3) := by decide +kernel
theorem dX7_deploy_104 : decode cX7_deploy 104 = .ok (.bipush (-11), 2) := by decide +kernel
theorem dX7_deploy_106 : decode cX7_deploy 106 = .ok (.ireturn, 1) := by decide +kernel
theorem dX7_deploy_107 : decode cX7_deploy 107 = .ok (.iload 5, 2) := by decide +kernel
theorem dX7_deploy_109 : decode cX7_deploy 109 = .ok (.iconst 2, 1) := by decide +kernel
theorem dX7_deploy_110 : decode cX7_deploy 110 = .ok (.if_icmp .lt 13, 3) := by decide +kernel
theorem dX7_deploy_113 : decode cX7_deploy 113 = .ok (.iload 5, 2) := by decide +kernel
theorem dX7_deploy_115 : decode cX7_deploy 115 = .ok (.iconst 5, 1) := by decide +kernel
theorem dX7_deploy_116 : decode cX7_deploy 116 = .ok (.if_icmp .gt 7, 3) := by decide +kernel
theorem dX7_deploy_119 : decode cX7_deploy 119 = .ok (.iconst 2, 1) := by decide +kernel
theorem dX7_deploy_120 : decode cX7_deploy 120 = .ok (.goto 22, 3) := by decide +kernel
theorem dX7_deploy_123 : decode cX7_deploy 123 = .ok (.iload 5, 2) := by decide +kernel
theorem dX7_deploy_125 : decode cX7_deploy 125 = .ok (.bipush 6, 2) := by decide +kernel
theorem dX7_deploy_127 : decode cX7_deploy 127 = .ok (.if_icmp .eq 10, 3) := by decide +kernel
theorem dX7_deploy_130 : decode cX7_deploy 130 = .ok (.iload 5, 2) := by decide +kernel
theorem dX7_deploy_132 : decode cX7_deploy 132 = .ok (.bipush 7, 2) := by decide +kernel
theorem dX7_deploy_134 : decode cX7_deploy 134 = .ok (.if_icmp .ne 7, 3) := by decide +kernel
theorem dX7_deploy_137 : decode cX7_deploy 137 = .ok (.iconst 1, 1) := by decide +kernel
theorem dX7_deploy_138 : decode cX7_deploy 138 = .ok (.goto 4, 3) := by decide +kernel
theorem dX7_deploy_141 : decode cX7_deploy 141 = .ok (.iconst 0, 1) := by decide +kernel
theorem dX7_deploy_142 : decode cX7_deploy 142 = .ok (.istore 6, 2) := by decide +kernel
theorem dX7_deploy_144 : decode cX7_deploy 144 = .ok (.iload_n 3, 1) := by decide +kernel
theorem dX7_deploy_145 : decode cX7_deploy 145 = .ok (.iload 6, 2) := by decide +kernel
theorem dX7_deploy_147 : decode cX7_deploy 147 = .ok (.if_icmp .ge 6, 3) := by decide +kernel
theorem dX7_deploy_150 : decode cX7_deploy 150 = .ok (.bipush (-12), 2) := by decide +kernel
theorem dX7_deploy_152 : decode cX7_deploy 152 = .ok (.ireturn, 1) := by decide +kernel
theorem dX7_deploy_153 : decode cX7_deploy 153 = .ok (.iload_n 3, 1) := by decide +kernel
theorem dX7_deploy_154 : decode cX7_deploy 154 = .ok (.iload 5, 2) := by decide +kernel
theorem dX7_deploy_156 : decode cX7_deploy 156 = .ok (.bipush 7, 2) := by decide +kernel
theorem dX7_deploy_158 : decode cX7_deploy 158 = .ok (.if_icmp .ne 7, 3) := by decide +kernel
theorem dX7_deploy_161 : decode cX7_deploy 161 = .ok (.iconst (-1), 1) := by decide +kernel
theorem dX7_deploy_162 : decode cX7_deploy 162 = .ok (.goto 7, 3) := by decide +kernel
theorem dX7_deploy_165 : decode cX7_deploy 165 = .ok (.iconst 1, 1) := by decide +kernel
theorem dX7_deploy_166 : decode cX7_deploy 166 = .ok (.iload 6, 2) := by decide +kernel
theorem dX7_deploy_168 : decode cX7_deploy 168 = .ok (.isub, 1) := by decide +kernel
theorem dX7_deploy_169 : decode cX7_deploy 169 = .ok (.iadd, 1) := by decide +kernel
theorem dX7_deploy_170 : decode cX7_deploy 170 = .ok (.istore_n 3, 1) := by decide +kernel
theorem dX7_deploy_171 : decode cX7_deploy 171 = .ok (.iinc 4 1, 3) := by decide +kernel
theorem dX7_deploy_174 : decode cX7_deploy 174 = .ok (.goto (-123), 3) := by decide +kernel
theorem dX7_deploy_177 : decode cX7_deploy 177 = .ok (.aload_n 0, 1) := by decide +kernel
theorem dX7_deploy_178 : decode cX7_deploy 178 = .ok (.getfield 42, 3) := by decide +kernel
theorem dX7_deploy_181 : decode cX7_deploy 181 = .ok (.iload_n 1, 1) := by decide +kernel
theorem dX7_deploy_182 : decode cX7_deploy 182 = .ok (.iload_n 2, 1) := by decide +kernel
theorem dX7_deploy_183 : decode cX7_deploy 183 = .ok (.iastore, 1) := by decide +kernel
theorem dX7_deploy_184 : decode cX7_deploy 184 = .ok (.iload_n 2, 1) := by decide +kernel
theorem dX7_deploy_185 : decode cX7_deploy 185 = .ok (.ireturn, 1) := by decide +kernel
theorem dX7_meant_0 : decode cX7_meant 0 = .ok (.iload_n 0, 1) := by decide +kernel
theorem dX7_meant_1 : decode cX7_meant 1 = .ok (.tableswitch 65 0 4 #[35, 48, 51, 55, 61], 35) := by decide +kernel
theorem dX7_meant_36 : decode cX7_meant 36 = .ok (.lload_n 1, 1) := by decide +kernel
theorem dX7_meant_37 : decode cX7_meant 37 = .ok (.lconst 0, 1) := by decide +kernel
theorem dX7_meant_38 : decode cX7_meant 38 = .ok (.lcmp, 1) := by decide +kernel
theorem dX7_meant_39 : decode cX7_meant 39 = .ok (.ifCond .ge 8, 3) := by decide +kernel
theorem dX7_meant_42 : decode cX7_meant 42 = .ok (.lload_n 1, 1) := by decide +kernel
theorem dX7_meant_43 : decode cX7_meant 43 = .ok (.lneg, 1) := by decide +kernel
theorem dX7_meant_44 : decode cX7_meant 44 = .ok (.goto 4, 3) := by decide +kernel
theorem dX7_meant_47 : decode cX7_meant 47 = .ok (.lload_n 1, 1) := by decide +kernel
theorem dX7_meant_48 : decode cX7_meant 48 = .ok (.lreturn, 1) := by decide +kernel
theorem dX7_meant_49 : decode cX7_meant 49 = .ok (.lload_n 1, 1) := by decide +kernel
theorem dX7_meant_50 : decode cX7_meant 50 = .ok (.lneg, 1) := by decide +kernel
theorem dX7_meant_51 : decode cX7_meant 51 = .ok (.lreturn, 1) := by decide +kernel
theorem dX7_meant_52 : decode cX7_meant 52 = .ok (.lload_n 1, 1) := by decide +kernel
theorem dX7_meant_53 : decode cX7_meant 53 = .ok (.lload_n 1, 1) := by decide +kernel
theorem dX7_meant_54 : decode cX7_meant 54 = .ok (.lmul, 1) := by decide +kernel
theorem dX7_meant_55 : decode cX7_meant 55 = .ok (.lreturn, 1) := by decide +kernel
theorem dX7_meant_56 : decode cX7_meant 56 = .ok (.lload_n 1, 1) := by decide +kernel
theorem dX7_meant_57 : decode cX7_meant 57 = .ok (.ldc2_w 112, 3) := by decide +kernel
theorem dX7_meant_60 : decode cX7_meant 60 = .ok (.ldiv, 1) := by decide +kernel
theorem dX7_meant_61 : decode cX7_meant 61 = .ok (.lreturn, 1) := by decide +kernel
theorem dX7_meant_62 : decode cX7_meant 62 = .ok (.lload_n 1, 1) := by decide +kernel
theorem dX7_meant_63 : decode cX7_meant 63 = .ok (.iconst 1, 1) := by decide +kernel
theorem dX7_meant_64 : decode cX7_meant 64 = .ok (.lshr, 1) := by decide +kernel
theorem dX7_meant_65 : decode cX7_meant 65 = .ok (.lreturn, 1) := by decide +kernel
theorem dX7_meant_66 : decode cX7_meant 66 = .ok (.lload_n 1, 1) := by decide +kernel
theorem dX7_meant_67 : decode cX7_meant 67 = .ok (.invokestatic 114, 3) := by decide +kernel
theorem dX7_meant_70 : decode cX7_meant 70 = .ok (.lreturn, 1) := by decide +kernel
theorem dX7_ones_0 : decode cX7_ones 0 = .ok (.lconst 0, 1) := by decide +kernel
theorem dX7_ones_1 : decode cX7_ones 1 = .ok (.lstore_n 2, 1) := by decide +kernel
theorem dX7_ones_2 : decode cX7_ones 2 = .ok (.iconst 0, 1) := by decide +kernel
theorem dX7_ones_3 : decode cX7_ones 3 = .ok (.istore 4, 2) := by decide +kernel
theorem dX7_ones_5 : decode cX7_ones 5 = .ok (.iload 4, 2) := by decide +kernel
theorem dX7_ones_7 : decode cX7_ones 7 = .ok (.bipush 64, 2) := by decide +kernel
theorem dX7_ones_9 : decode cX7_ones 9 = .ok (.if_icmp .ge 18, 3) := by decide +kernel
theorem dX7_ones_12 : decode cX7_ones 12 = .ok (.lload_n 2, 1) := by decide +kernel
theorem dX7_ones_13 : decode cX7_ones 13 = .ok (.lload_n 0, 1) := by decide +kernel
theorem dX7_ones_14 : decode cX7_ones 14 = .ok (.iload 4, 2) := by decide +kernel
theorem dX7_ones_16 : decode cX7_ones 16 = .ok (.lshr, 1) := by decide +kernel
theorem dX7_ones_17 : decode cX7_ones 17 = .ok (.lconst 1, 1) := by decide +kernel
theorem dX7_ones_18 : decode cX7_ones 18 = .ok (.land, 1) := by decide +kernel
theorem dX7_ones_19 : decode cX7_ones 19 = .ok (.ladd, 1) := by decide +kernel
theorem dX7_ones_20 : decode cX7_ones 20 = .ok (.lstore_n 2, 1) := by decide +kernel
theorem dX7_ones_21 : decode cX7_ones 21 = .ok (.iinc 4 1, 3) := by decide +kernel
theorem dX7_ones_24 : decode cX7_ones 24 = .ok (.goto (-19), 3) := by decide +kernel
theorem dX7_ones_27 : decode cX7_ones 27 = .ok (.lload_n 2, 1) := by decide +kernel
theorem dX7_ones_28 : decode cX7_ones 28 = .ok (.lreturn, 1) := by decide +kernel
theorem dX7_worked_0 : decode cX7_worked 0 = .ok (.iload_n 0, 1) := by decide +kernel
theorem dX7_worked_1 : decode cX7_worked 1 = .ok (.iconst 2, 1) := by decide +kernel
theorem dX7_worked_2 : decode cX7_worked 2 = .ok (.if_icmp .ne 9, 3) := by decide +kernel
theorem dX7_worked_5 : decode cX7_worked 5 = .ok (.lload_n 1, 1) := by decide +kernel
theorem dX7_worked_6 : decode cX7_worked 6 = .ok (.lload_n 3, 1) := by decide +kernel
theorem dX7_worked_7 : decode cX7_worked 7 = .ok (.ladd, 1) := by decide +kernel
theorem dX7_worked_8 : decode cX7_worked 8 = .ok (.goto 28, 3) := by decide +kernel
theorem dX7_worked_11 : decode cX7_worked 11 = .ok (.iload_n 0, 1) := by decide +kernel
theorem dX7_worked_12 : decode cX7_worked 12 = .ok (.iconst 3, 1) := by decide +kernel
theorem dX7_worked_13 : decode cX7_worked 13 = .ok (.if_icmp .ne 9, 3) := by decide +kernel
theorem dX7_worked_16 : decode cX7_worked 16 = .ok (.lload_n 1, 1) := by decide +kernel
theorem dX7_worked_17 : decode cX7_worked 17 = .ok (.lload_n 3, 1) := by decide +kernel
theorem dX7_worked_18 : decode cX7_worked 18 = .ok (.lsub, 1) := by decide +kernel
theorem dX7_worked_19 : decode cX7_worked 19 = .ok (.goto 17, 3) := by decide +kernel
theorem dX7_worked_22 : decode cX7_worked 22 = .ok (.iload_n 0, 1) := by decide +kernel
theorem dX7_worked_23 : decode cX7_worked 23 = .ok (.iconst 4, 1) := by decide +kernel
theorem dX7_worked_24 : decode cX7_worked 24 = .ok (.if_icmp .ne 9, 3) := by decide +kernel
theorem dX7_worked_27 : decode cX7_worked 27 = .ok (.lload_n 1, 1) := by decide +kernel
theorem dX7_worked_28 : decode cX7_worked 28 = .ok (.lload_n 3, 1) := by decide +kernel
theorem dX7_worked_29 : decode cX7_worked 29 = .ok (.lmul, 1) := by decide +kernel
theorem dX7_worked_30 : decode cX7_worked 30 = .ok (.goto 6, 3) := by decide +kernel
theorem dX7_worked_33 : decode cX7_worked 33 = .ok (.lload_n 1, 1) := by decide +kernel
theorem dX7_worked_34 : decode cX7_worked 34 = .ok (.lload_n 3, 1) := by decide +kernel
theorem dX7_worked_35 : decode cX7_worked 35 = .ok (.ldiv, 1) := by decide +kernel
theorem dX7_worked_36 : decode cX7_worked 36 = .ok (.lreturn, 1) := by decide +kernel
theorem dX7_runs_0 : decode cX7_runs 0 = .ok (.iconst 0, 1) := by decide +kernel
theorem dX7_runs_1 : decode cX7_runs 1 = .ok (.istore 6, 2) := by decide +kernel
theorem dX7_runs_3 : decode cX7_runs 3 = .ok (.iconst 0, 1) := by decide +kernel
theorem dX7_runs_4 : decode cX7_runs 4 = .ok (.istore 7, 2) := by decide +kernel
theorem dX7_runs_6 : decode cX7_runs 6 = .ok (.iconst 0, 1) := by decide +kernel
theorem dX7_runs_7 : decode cX7_runs 7 = .ok (.istore 8, 2) := by decide +kernel
theorem dX7_runs_9 : decode cX7_runs 9 = .ok (.iload 8, 2) := by decide +kernel
theorem dX7_runs_11 : decode cX7_runs 11 = .ok (.iconst 4, 1) := by decide +kernel
theorem dX7_runs_12 : decode cX7_runs 12 = .ok (.if_icmp .ge 27, 3) := by decide +kernel
theorem dX7_runs_15 : decode cX7_runs 15 = .ok (.aload_n 0, 1) := by decide +kernel
theorem dX7_runs_16 : decode cX7_runs 16 = .ok (.getfield 76, 3) := by decide +kernel
theorem dX7_runs_19 : decode cX7_runs 19 = .ok (.iload 8, 2) := by decide +kernel
theorem dX7_runs_21 : decode cX7_runs 21 = .ok (.aload_n 0, 1) := by decide +kernel
theorem dX7_runs_22 : decode cX7_runs 22 = .ok (.getfield 54, 3) := by decide +kernel
theorem dX7_runs_25 : decode cX7_runs 25 = .ok (.iconst 4, 1) := by decide +kernel
theorem dX7_runs_26 : decode cX7_runs 26 = .ok (.iload_n 1, 1) := by decide +kernel
theorem dX7_runs_27 : decode cX7_runs 27 = .ok (.imul, 1) := by decide +kernel
theorem dX7_runs_28 : decode cX7_runs 28 = .ok (.iload 8, 2) := by decide +kernel
theorem dX7_runs_30 : decode cX7_runs 30 = .ok (.iadd, 1) := by decide +kernel
theorem dX7_runs_31 : decode cX7_runs 31 = .ok (.laload, 1) := by decide +kernel
theorem dX7_runs_32 : decode cX7_runs 32 = .ok (.lastore, 1) := by decide +kernel
theorem dX7_runs_33 : decode cX7_runs 33 = .ok (.iinc 8 1, 3) := by decide +kernel
theorem dX7_runs_36 : decode cX7_runs 36 = .ok (.goto (-27), 3) := by decide +kernel
theorem dX7_runs_39 : decode cX7_runs 39 = .ok (.bipush 24, 2) := by decide +kernel
theorem dX7_runs_41 : decode cX7_runs 41 = .ok (.iload_n 1, 1) := by decide +kernel
theorem dX7_runs_42 : decode cX7_runs 42 = .ok (.imul, 1) := by decide +kernel
theorem dX7_runs_43 : decode cX7_runs 43 = .ok (.istore 8, 2) := by decide +kernel
theorem dX7_runs_45 : decode cX7_runs 45 = .ok (.iload 8, 2) := by decide +kernel
theorem dX7_runs_47 : decode cX7_runs 47 = .ok (.bipush 24, 2) := by decide +kernel
theorem dX7_runs_49 : decode cX7_runs 49 = .ok (.iload_n 1, 1) := by decide +kernel
theorem dX7_runs_50 : decode cX7_runs 50 = .ok (.imul, 1) := by decide +kernel
theorem dX7_runs_51 : decode cX7_runs 51 = .ok (.aload_n 0, 1) := by decide +kernel
theorem dX7_runs_52 : decode cX7_runs 52 = .ok (.getfield 45, 3) := by decide +kernel
theorem dX7_runs_55 : decode cX7_runs 55 = .ok (.iload_n 1, 1) := by decide +kernel
theorem dX7_runs_56 : decode cX7_runs 56 = .ok (.iaload, 1) := by decide +kernel
theorem dX7_runs_57 : decode cX7_runs 57 = .ok (.iadd, 1) := by decide +kernel
theorem dX7_runs_58 : decode cX7_runs 58 = .ok (.if_icmp .ge 273, 3) := by decide +kernel
theorem dX7_runs_61 : decode cX7_runs 61 = .ok (.aload_n 0, 1) := by decide +kernel
theorem dX7_runs_62 : decode cX7_runs 62 = .ok (.getfield 48, 3) := by decide +kernel
theorem dX7_runs_65 : decode cX7_runs 65 = .ok (.iload 8, 2) := by decide +kernel
theorem dX7_runs_67 : decode cX7_runs 67 = .ok (.iaload, 1) := by decide +kernel
theorem dX7_runs_68 : decode cX7_runs 68 = .ok (.istore 9, 2) := by decide +kernel
theorem dX7_runs_70 : decode cX7_runs 70 = .ok (.aload_n 0, 1) := by decide +kernel
theorem dX7_runs_71 : decode cX7_runs 71 = .ok (.getfield 51, 3) := by decide +kernel
theorem dX7_runs_74 : decode cX7_runs 74 = .ok (.iload 8, 2) := by decide +kernel
theorem dX7_runs_76 : decode cX7_runs 76 = .ok (.iaload, 1) := by decide +kernel
theorem dX7_runs_77 : decode cX7_runs 77 = .ok (.istore 10, 2) := by decide +kernel
theorem dX7_runs_79 : decode cX7_runs 79 = .ok (.iload 6, 2) := by decide +kernel
theorem dX7_runs_81 : decode cX7_runs 81 = .ok (.aload_n 0, 1) := by decide +kernel
theorem dX7_runs_82 : decode cX7_runs 82 = .ok (.getfield 13, 3) := by decide +kernel
theorem dX7_runs_85 : decode cX7_runs 85 = .ok (.bipush 9, 2) := by decide +kernel
theorem dX7_runs_87 : decode cX7_runs 87 = .ok (.iload 5, 2) := by decide +kernel
theorem dX7_runs_89 : decode cX7_runs 89 = .ok (.imul, 1) := by decide +kernel
theorem dX7_runs_90 : decode cX7_runs 90 = .ok (.iload 9, 2) := by decide +kernel
theorem dX7_runs_92 : decode cX7_runs 92 = .ok (.iadd, 1) := by decide +kernel
theorem dX7_runs_93 : decode cX7_runs 93 = .ok (.iaload, 1) := by decide +kernel
theorem dX7_runs_94 : decode cX7_runs 94 = .ok (.iadd, 1) := by decide +kernel
theorem dX7_runs_95 : decode cX7_runs 95 = .ok (.istore 6, 2) := by decide +kernel
theorem dX7_runs_97 : decode cX7_runs 97 = .ok (.iload 6, 2) := by decide +kernel
theorem dX7_runs_99 : decode cX7_runs 99 = .ok (.iload 4, 2) := by decide +kernel
theorem dX7_runs_101 : decode cX7_runs 101 = .ok (.if_icmp .le 6, 3) := by decide +kernel
theorem dX7_runs_104 : decode cX7_runs 104 = .ok (.bipush (-13), 2) := by decide +kernel
theorem dX7_runs_106 : decode cX7_runs 106 = .ok (.ireturn, 1) := by decide +kernel
theorem dX7_runs_107 : decode cX7_runs 107 = .ok (.iload 9, 2) := by decide +kernel
theorem dX7_runs_109 : decode cX7_runs 109 = .ok (.tableswitch 162 0 8 #[51, 67, 162, 162, 162, 162, 81, 122, 142], 51) := by decide +kernel
theorem dX7_runs_160 : decode cX7_runs 160 = .ok (.aload_n 0, 1) := by decide +kernel
theorem dX7_runs_161 : decode cX7_runs 161 = .ok (.getfield 73, 3) := by decide +kernel
theorem dX7_runs_164 : decode cX7_runs 164 = .ok (.iload 7, 2) := by decide +kernel
theorem dX7_runs_166 : decode cX7_runs 166 = .ok (.iload 10, 2) := by decide +kernel
theorem dX7_runs_168 : decode cX7_runs 168 = .ok (.i2l, 1) := by decide +kernel
theorem dX7_runs_169 : decode cX7_runs 169 = .ok (.lastore, 1) := by decide +kernel
theorem dX7_runs_170 : decode cX7_runs 170 = .ok (.iinc 7 1, 3) := by decide +kernel
theorem dX7_runs_173 : decode cX7_runs 173 = .ok (.goto 152, 3) := by decide +kernel
theorem dX7_runs_176 : decode cX7_runs 176 = .ok (.aload_n 0, 1) := by decide +kernel
theorem dX7_runs_177 : decode cX7_runs 177 = .ok (.getfield 73, 3) := by decide +kernel
theorem dX7_runs_180 : decode cX7_runs 180 = .ok (.iload 7, 2) := by decide +kernel
theorem dX7_runs_182 : decode cX7_runs 182 = .ok (.lload_n 2, 1) := by decide +kernel
theorem dX7_runs_183 : decode cX7_runs 183 = .ok (.lastore, 1) := by decide +kernel
theorem dX7_runs_184 : decode cX7_runs 184 = .ok (.iinc 7 1, 3) := by decide +kernel
theorem dX7_runs_187 : decode cX7_runs 187 = .ok (.goto 138, 3) := by decide +kernel
theorem dX7_runs_190 : decode cX7_runs 190 = .ok (.aload_n 0, 1) := by decide +kernel
theorem dX7_runs_191 : decode cX7_runs 191 = .ok (.getfield 73, 3) := by decide +kernel
theorem dX7_runs_194 : decode cX7_runs 194 = .ok (.iload 7, 2) := by decide +kernel
theorem dX7_runs_196 : decode cX7_runs 196 = .ok (.iconst 1, 1) := by decide +kernel
theorem dX7_runs_197 : decode cX7_runs 197 = .ok (.isub, 1) := by decide +kernel
theorem dX7_runs_198 : decode cX7_runs 198 = .ok (.aload_n 0, 1) := by decide +kernel
theorem dX7_runs_199 : decode cX7_runs 199 = .ok (.getfield 17, 3) := by decide +kernel
theorem dX7_runs_202 : decode cX7_runs 202 = .ok (.bipush 8, 2) := by decide +kernel
theorem dX7_runs_204 : decode cX7_runs 204 = .ok (.aload_n 0, 1) := by decide +kernel
theorem dX7_runs_205 : decode cX7_runs 205 = .ok (.getfield 42, 3) := by decide +kernel
theorem dX7_runs_208 : decode cX7_runs 208 = .ok (.iload_n 1, 1) := by decide +kernel
theorem dX7_runs_209 : decode cX7_runs 209 = .ok (.iaload, 1) := by decide +kernel
theorem dX7_runs_210 : decode cX7_runs 210 = .ok (.imul, 1) := by decide +kernel
theorem dX7_runs_211 : decode cX7_runs 211 = .ok (.iload 10, 2) := by decide +kernel
theorem dX7_runs_213 : decode cX7_runs 213 = .ok (.iadd, 1) := by decide +kernel
theorem dX7_runs_214 : decode cX7_runs 214 = .ok (.iaload, 1) := by decide +kernel
theorem dX7_runs_215 : decode cX7_runs 215 = .ok (.aload_n 0, 1) := by decide +kernel
theorem dX7_runs_216 : decode cX7_runs 216 = .ok (.getfield 73, 3) := by decide +kernel
theorem dX7_runs_219 : decode cX7_runs 219 = .ok (.iload 7, 2) := by decide +kernel
theorem dX7_runs_221 : decode cX7_runs 221 = .ok (.iconst 1, 1) := by decide +kernel
theorem dX7_runs_222 : decode cX7_runs 222 = .ok (.isub, 1) := by decide +kernel
theorem dX7_runs_223 : decode cX7_runs 223 = .ok (.laload, 1) := by decide +kernel
theorem dX7_runs_224 : decode cX7_runs 224 = .ok (.invokestatic 118, 3) := by decide +kernel
theorem dX7_runs_227 : decode cX7_runs 227 = .ok (.lastore, 1) := by decide +kernel
theorem dX7_runs_228 : decode cX7_runs 228 = .ok (.goto 97, 3) := by decide +kernel
theorem dX7_runs_231 : decode cX7_runs 231 = .ok (.iinc 7 (-1), 3) := by decide +kernel
theorem dX7_runs_234 : decode cX7_runs 234 = .ok (.aload_n 0, 1) := by decide +kernel
theorem dX7_runs_235 : decode cX7_runs 235 = .ok (.getfield 76, 3) := by decide +kernel
theorem dX7_runs_238 : decode cX7_runs 238 = .ok (.iload 10, 2) := by decide +kernel
theorem dX7_runs_240 : decode cX7_runs 240 = .ok (.aload_n 0, 1) := by decide +kernel
theorem dX7_runs_241 : decode cX7_runs 241 = .ok (.getfield 73, 3) := by decide +kernel
theorem dX7_runs_244 : decode cX7_runs 244 = .ok (.iload 7, 2) := by decide +kernel
theorem dX7_runs_246 : decode cX7_runs 246 = .ok (.laload, 1) := by decide +kernel
theorem dX7_runs_247 : decode cX7_runs 247 = .ok (.lastore, 1) := by decide +kernel
theorem dX7_runs_248 : decode cX7_runs 248 = .ok (.goto 77, 3) := by decide +kernel
theorem dX7_runs_251 : decode cX7_runs 251 = .ok (.aload_n 0, 1) := by decide +kernel
theorem dX7_runs_252 : decode cX7_runs 252 = .ok (.getfield 73, 3) := by decide +kernel
theorem dX7_runs_255 : decode cX7_runs 255 = .ok (.iload 7, 2) := by decide +kernel
theorem dX7_runs_257 : decode cX7_runs 257 = .ok (.aload_n 0, 1) := by decide +kernel
theorem dX7_runs_258 : decode cX7_runs 258 = .ok (.getfield 76, 3) := by decide +kernel
theorem dX7_runs_261 : decode cX7_runs 261 = .ok (.iload 10, 2) := by decide +kernel
theorem dX7_runs_263 : decode cX7_runs 263 = .ok (.laload, 1) := by decide +kernel
theorem dX7_runs_264 : decode cX7_runs 264 = .ok (.lastore, 1) := by decide +kernel
theorem dX7_runs_265 : decode cX7_runs 265 = .ok (.iinc 7 1, 3) := by decide +kernel
theorem dX7_runs_268 : decode cX7_runs 268 = .ok (.goto 57, 3) := by decide +kernel
theorem dX7_runs_271 : decode cX7_runs 271 = .ok (.iinc 7 (-1), 3) := by decide +kernel
theorem dX7_runs_274 : decode cX7_runs 274 = .ok (.iload 9, 2) := by decide +kernel
theorem dX7_runs_276 : decode cX7_runs 276 = .ok (.iconst 5, 1) := by decide +kernel
theorem dX7_runs_277 : decode cX7_runs 277 = .ok (.if_icmp .ne 18, 3) := by decide +kernel
theorem dX7_runs_280 : decode cX7_runs 280 = .ok (.aload_n 0, 1) := by decide +kernel
theorem dX7_runs_281 : decode cX7_runs 281 = .ok (.getfield 73, 3) := by decide +kernel
theorem dX7_runs_284 : decode cX7_runs 284 = .ok (.iload 7, 2) := by decide +kernel
theorem dX7_runs_286 : decode cX7_runs 286 = .ok (.laload, 1) := by decide +kernel
theorem dX7_runs_287 : decode cX7_runs 287 = .ok (.lconst 0, 1) := by decide +kernel
theorem dX7_runs_288 : decode cX7_runs 288 = .ok (.lcmp, 1) := by decide +kernel
theorem dX7_runs_289 : decode cX7_runs 289 = .ok (.ifCond .ne 6, 3) := by decide +kernel
theorem dX7_runs_292 : decode cX7_runs 292 = .ok (.bipush (-14), 2) := by decide +kernel
theorem dX7_runs_294 : decode cX7_runs 294 = .ok (.ireturn, 1) := by decide +kernel
theorem dX7_runs_295 : decode cX7_runs 295 = .ok (.aload_n 0, 1) := by decide +kernel
theorem dX7_runs_296 : decode cX7_runs 296 = .ok (.getfield 73, 3) := by decide +kernel
theorem dX7_runs_299 : decode cX7_runs 299 = .ok (.iload 7, 2) := by decide +kernel
theorem dX7_runs_301 : decode cX7_runs 301 = .ok (.iconst 1, 1) := by decide +kernel
theorem dX7_runs_302 : decode cX7_runs 302 = .ok (.isub, 1) := by decide +kernel
theorem dX7_runs_303 : decode cX7_runs 303 = .ok (.iload 9, 2) := by decide +kernel
theorem dX7_runs_305 : decode cX7_runs 305 = .ok (.aload_n 0, 1) := by decide +kernel
theorem dX7_runs_306 : decode cX7_runs 306 = .ok (.getfield 73, 3) := by decide +kernel
theorem dX7_runs_309 : decode cX7_runs 309 = .ok (.iload 7, 2) := by decide +kernel
theorem dX7_runs_311 : decode cX7_runs 311 = .ok (.iconst 1, 1) := by decide +kernel
theorem dX7_runs_312 : decode cX7_runs 312 = .ok (.isub, 1) := by decide +kernel
theorem dX7_runs_313 : decode cX7_runs 313 = .ok (.laload, 1) := by decide +kernel
theorem dX7_runs_314 : decode cX7_runs 314 = .ok (.aload_n 0, 1) := by decide +kernel
theorem dX7_runs_315 : decode cX7_runs 315 = .ok (.getfield 73, 3) := by decide +kernel
theorem dX7_runs_318 : decode cX7_runs 318 = .ok (.iload 7, 2) := by decide +kernel
theorem dX7_runs_320 : decode cX7_runs 320 = .ok (.laload, 1) := by decide +kernel
theorem dX7_runs_321 : decode cX7_runs 321 = .ok (.invokestatic 122, 3) := by decide +kernel
theorem dX7_runs_324 : decode cX7_runs 324 = .ok (.lastore, 1) := by decide +kernel
theorem dX7_runs_325 : decode cX7_runs 325 = .ok (.iinc 8 1, 3) := by decide +kernel
theorem dX7_runs_328 : decode cX7_runs 328 = .ok (.goto (-283), 3) := by decide +kernel
theorem dX7_runs_331 : decode cX7_runs 331 = .ok (.iconst 0, 1) := by decide +kernel
theorem dX7_runs_332 : decode cX7_runs 332 = .ok (.istore 8, 2) := by decide +kernel
theorem dX7_runs_334 : decode cX7_runs 334 = .ok (.iload 8, 2) := by decide +kernel
theorem dX7_runs_336 : decode cX7_runs 336 = .ok (.iconst 4, 1) := by decide +kernel
theorem dX7_runs_337 : decode cX7_runs 337 = .ok (.if_icmp .ge 27, 3) := by decide +kernel
theorem dX7_runs_340 : decode cX7_runs 340 = .ok (.aload_n 0, 1) := by decide +kernel
theorem dX7_runs_341 : decode cX7_runs 341 = .ok (.getfield 54, 3) := by decide +kernel
theorem dX7_runs_344 : decode cX7_runs 344 = .ok (.iconst 4, 1) := by decide +kernel
theorem dX7_runs_345 : decode cX7_runs 345 = .ok (.iload_n 1, 1) := by decide +kernel
theorem dX7_runs_346 : decode cX7_runs 346 = .ok (.imul, 1) := by decide +kernel
theorem dX7_runs_347 : decode cX7_runs 347 = .ok (.iload 8, 2) := by decide +kernel
theorem dX7_runs_349 : decode cX7_runs 349 = .ok (.iadd, 1) := by decide +kernel
theorem dX7_runs_350 : decode cX7_runs 350 = .ok (.aload_n 0, 1) := by decide +kernel
theorem dX7_runs_351 : decode cX7_runs 351 = .ok (.getfield 76, 3) := by decide +kernel
theorem dX7_runs_354 : decode cX7_runs 354 = .ok (.iload 8, 2) := by decide +kernel
theorem dX7_runs_356 : decode cX7_runs 356 = .ok (.laload, 1) := by decide +kernel
theorem dX7_runs_357 : decode cX7_runs 357 = .ok (.lastore, 1) := by decide +kernel
theorem dX7_runs_358 : decode cX7_runs 358 = .ok (.iinc 8 1, 3) := by decide +kernel
theorem dX7_runs_361 : decode cX7_runs 361 = .ok (.goto (-27), 3) := by decide +kernel
theorem dX7_runs_364 : decode cX7_runs 364 = .ok (.iload 6, 2) := by decide +kernel
theorem dX7_runs_366 : decode cX7_runs 366 = .ok (.ireturn, 1) := by decide +kernel
theorem dX7_digested_0 : decode cX7_digested 0 = .ok (.bipush 31, 2) := by decide +kernel
theorem dX7_digested_2 : decode cX7_digested 2 = .ok (.iload_n 1, 1) := by decide +kernel
theorem dX7_digested_3 : decode cX7_digested 3 = .ok (.imul, 1) := by decide +kernel
theorem dX7_digested_4 : decode cX7_digested 4 = .ok (.iload_n 2, 1) := by decide +kernel
theorem dX7_digested_5 : decode cX7_digested 5 = .ok (.iadd, 1) := by decide +kernel
theorem dX7_digested_6 : decode cX7_digested 6 = .ok (.istore 4, 2) := by decide +kernel
theorem dX7_digested_8 : decode cX7_digested 8 = .ok (.iconst 0, 1) := by decide +kernel
theorem dX7_digested_9 : decode cX7_digested 9 = .ok (.istore 5, 2) := by decide +kernel
theorem dX7_digested_11 : decode cX7_digested 11 = .ok (.iload 5, 2) := by decide +kernel
theorem dX7_digested_13 : decode cX7_digested 13 = .ok (.iconst 4, 1) := by decide +kernel
theorem dX7_digested_14 : decode cX7_digested 14 = .ok (.if_icmp .ge 47, 3) := by decide +kernel
theorem dX7_digested_17 : decode cX7_digested 17 = .ok (.aload_n 0, 1) := by decide +kernel
theorem dX7_digested_18 : decode cX7_digested 18 = .ok (.getfield 54, 3) := by decide +kernel
theorem dX7_digested_21 : decode cX7_digested 21 = .ok (.iconst 4, 1) := by decide +kernel
theorem dX7_digested_22 : decode cX7_digested 22 = .ok (.iload_n 3, 1) := by decide +kernel
theorem dX7_digested_23 : decode cX7_digested 23 = .ok (.imul, 1) := by decide +kernel
theorem dX7_digested_24 : decode cX7_digested 24 = .ok (.iload 5, 2) := by decide +kernel
theorem dX7_digested_26 : decode cX7_digested 26 = .ok (.iadd, 1) := by decide +kernel
theorem dX7_digested_27 : decode cX7_digested 27 = .ok (.laload, 1) := by decide +kernel
theorem dX7_digested_28 : decode cX7_digested 28 = .ok (.lstore 6, 2) := by decide +kernel
theorem dX7_digested_30 : decode cX7_digested 30 = .ok (.bipush 31, 2) := by decide +kernel
theorem dX7_digested_32 : decode cX7_digested 32 = .ok (.iload 4, 2) := by decide +kernel
theorem dX7_digested_34 : decode cX7_digested 34 = .ok (.imul, 1) := by decide +kernel
theorem dX7_digested_35 : decode cX7_digested 35 = .ok (.lload 6, 2) := by decide +kernel
theorem dX7_digested_37 : decode cX7_digested 37 = .ok (.bipush 32, 2) := by decide +kernel
theorem dX7_digested_39 : decode cX7_digested 39 = .ok (.lshr, 1) := by decide +kernel
theorem dX7_digested_40 : decode cX7_digested 40 = .ok (.l2i, 1) := by decide +kernel
theorem dX7_digested_41 : decode cX7_digested 41 = .ok (.iadd, 1) := by decide +kernel
theorem dX7_digested_42 : decode cX7_digested 42 = .ok (.istore 4, 2) := by decide +kernel
theorem dX7_digested_44 : decode cX7_digested 44 = .ok (.bipush 31, 2) := by decide +kernel
theorem dX7_digested_46 : decode cX7_digested 46 = .ok (.iload 4, 2) := by decide +kernel
theorem dX7_digested_48 : decode cX7_digested 48 = .ok (.imul, 1) := by decide +kernel
theorem dX7_digested_49 : decode cX7_digested 49 = .ok (.lload 6, 2) := by decide +kernel
theorem dX7_digested_51 : decode cX7_digested 51 = .ok (.l2i, 1) := by decide +kernel
theorem dX7_digested_52 : decode cX7_digested 52 = .ok (.iadd, 1) := by decide +kernel
theorem dX7_digested_53 : decode cX7_digested 53 = .ok (.istore 4, 2) := by decide +kernel
theorem dX7_digested_55 : decode cX7_digested 55 = .ok (.iinc 5 1, 3) := by decide +kernel
theorem dX7_digested_58 : decode cX7_digested 58 = .ok (.goto (-47), 3) := by decide +kernel
theorem dX7_digested_61 : decode cX7_digested 61 = .ok (.iload 4, 2) := by decide +kernel
theorem dX7_digested_63 : decode cX7_digested 63 = .ok (.ireturn, 1) := by decide +kernel
theorem dX7_run_0 : decode cX7_run 0 = .ok (.aload_n 0, 1) := by decide +kernel
theorem dX7_run_1 : decode cX7_run 1 = .ok (.iload_n 1, 1) := by decide +kernel
theorem dX7_run_2 : decode cX7_run 2 = .ok (.invokevirtual 109, 3) := by decide +kernel
theorem dX7_run_5 : decode cX7_run 5 = .ok (.ifCond .eq 8, 3) := by decide +kernel
theorem dX7_run_8 : decode cX7_run 8 = .ok (.iload 4, 2) := by decide +kernel
theorem dX7_run_10 : decode cX7_run 10 = .ok (.ifCond .ge 6, 3) := by decide +kernel
theorem dX7_run_13 : decode cX7_run 13 = .ok (.bipush (-2), 2) := by decide +kernel
theorem dX7_run_15 : decode cX7_run 15 = .ok (.ireturn, 1) := by decide +kernel
theorem dX7_run_16 : decode cX7_run 16 = .ok (.aload_n 0, 1) := by decide +kernel
theorem dX7_run_17 : decode cX7_run 17 = .ok (.getfield 42, 3) := by decide +kernel
theorem dX7_run_20 : decode cX7_run 20 = .ok (.iload_n 1, 1) := by decide +kernel
theorem dX7_run_21 : decode cX7_run 21 = .ok (.iaload, 1) := by decide +kernel
theorem dX7_run_22 : decode cX7_run 22 = .ok (.iconst (-1), 1) := by decide +kernel
theorem dX7_run_23 : decode cX7_run 23 = .ok (.if_icmp .ne 6, 3) := by decide +kernel
theorem dX7_run_26 : decode cX7_run 26 = .ok (.bipush (-3), 2) := by decide +kernel
theorem dX7_run_28 : decode cX7_run 28 = .ok (.ireturn, 1) := by decide +kernel
theorem dX7_run_29 : decode cX7_run 29 = .ok (.aload_n 0, 1) := by decide +kernel
theorem dX7_run_30 : decode cX7_run 30 = .ok (.getfield 126, 3) := by decide +kernel
theorem dX7_run_33 : decode cX7_run 33 = .ok (.bipush 64, 2) := by decide +kernel
theorem dX7_run_35 : decode cX7_run 35 = .ok (.if_icmp .ne 6, 3) := by decide +kernel
theorem dX7_run_38 : decode cX7_run 38 = .ok (.bipush (-4), 2) := by decide +kernel
theorem dX7_run_40 : decode cX7_run 40 = .ok (.ireturn, 1) := by decide +kernel
theorem dX7_run_41 : decode cX7_run 41 = .ok (.aload_n 0, 1) := by decide +kernel
theorem dX7_run_42 : decode cX7_run 42 = .ok (.iload_n 1, 1) := by decide +kernel
theorem dX7_run_43 : decode cX7_run 43 = .ok (.lload_n 2, 1) := by decide +kernel
theorem dX7_run_44 : decode cX7_run 44 = .ok (.iload 4, 2) := by decide +kernel
theorem dX7_run_46 : decode cX7_run 46 = .ok (.aload_n 0, 1) := by decide +kernel
theorem dX7_run_47 : decode cX7_run 47 = .ok (.getfield 26, 3) := by decide +kernel
theorem dX7_run_50 : decode cX7_run 50 = .ok (.aload_n 0, 1) := by decide +kernel
theorem dX7_run_51 : decode cX7_run 51 = .ok (.getfield 99, 3) := by decide +kernel
theorem dX7_run_54 : decode cX7_run 54 = .ok (.iaload, 1) := by decide +kernel
theorem dX7_run_55 : decode cX7_run 55 = .ok (.invokevirtual 129, 3) := by decide +kernel
theorem dX7_run_58 : decode cX7_run 58 = .ok (.istore 5, 2) := by decide +kernel
theorem dX7_run_60 : decode cX7_run 60 = .ok (.aload_n 0, 1) := by decide +kernel
theorem dX7_run_61 : decode cX7_run 61 = .ok (.getfield 58, 3) := by decide +kernel
theorem dX7_run_64 : decode cX7_run 64 = .ok (.aload_n 0, 1) := by decide +kernel
theorem dX7_run_65 : decode cX7_run 65 = .ok (.getfield 126, 3) := by decide +kernel
theorem dX7_run_68 : decode cX7_run 68 = .ok (.iload_n 1, 1) := by decide +kernel
theorem dX7_run_69 : decode cX7_run 69 = .ok (.iastore, 1) := by decide +kernel
theorem dX7_run_70 : decode cX7_run 70 = .ok (.aload_n 0, 1) := by decide +kernel
theorem dX7_run_71 : decode cX7_run 71 = .ok (.getfield 61, 3) := by decide +kernel
theorem dX7_run_74 : decode cX7_run 74 = .ok (.aload_n 0, 1) := by decide +kernel
theorem dX7_run_75 : decode cX7_run 75 = .ok (.getfield 126, 3) := by decide +kernel
theorem dX7_run_78 : decode cX7_run 78 = .ok (.aload_n 0, 1) := by decide +kernel
theorem dX7_run_79 : decode cX7_run 79 = .ok (.getfield 99, 3) := by decide +kernel
theorem dX7_run_82 : decode cX7_run 82 = .ok (.iastore, 1) := by decide +kernel
theorem dX7_run_83 : decode cX7_run 83 = .ok (.aload_n 0, 1) := by decide +kernel
theorem dX7_run_84 : decode cX7_run 84 = .ok (.getfield 64, 3) := by decide +kernel
theorem dX7_run_87 : decode cX7_run 87 = .ok (.aload_n 0, 1) := by decide +kernel
theorem dX7_run_88 : decode cX7_run 88 = .ok (.getfield 126, 3) := by decide +kernel
theorem dX7_run_91 : decode cX7_run 91 = .ok (.lload_n 2, 1) := by decide +kernel
theorem dX7_run_92 : decode cX7_run 92 = .ok (.lastore, 1) := by decide +kernel
theorem dX7_run_93 : decode cX7_run 93 = .ok (.aload_n 0, 1) := by decide +kernel
theorem dX7_run_94 : decode cX7_run 94 = .ok (.getfield 67, 3) := by decide +kernel
theorem dX7_run_97 : decode cX7_run 97 = .ok (.aload_n 0, 1) := by decide +kernel
theorem dX7_run_98 : decode cX7_run 98 = .ok (.getfield 126, 3) := by decide +kernel
theorem dX7_run_101 : decode cX7_run 101 = .ok (.iload 4, 2) := by decide +kernel
theorem dX7_run_103 : decode cX7_run 103 = .ok (.iastore, 1) := by decide +kernel
theorem dX7_run_104 : decode cX7_run 104 = .ok (.aload_n 0, 1) := by decide +kernel
theorem dX7_run_105 : decode cX7_run 105 = .ok (.getfield 70, 3) := by decide +kernel
theorem dX7_run_108 : decode cX7_run 108 = .ok (.aload_n 0, 1) := by decide +kernel
theorem dX7_run_109 : decode cX7_run 109 = .ok (.getfield 126, 3) := by decide +kernel
theorem dX7_run_112 : decode cX7_run 112 = .ok (.iload 5, 2) := by decide +kernel
theorem dX7_run_114 : decode cX7_run 114 = .ok (.iastore, 1) := by decide +kernel
theorem dX7_run_115 : decode cX7_run 115 = .ok (.aload_n 0, 1) := by decide +kernel
theorem dX7_run_116 : decode cX7_run 116 = .ok (.dup, 1) := by decide +kernel
theorem dX7_run_117 : decode cX7_run 117 = .ok (.getfield 126, 3) := by decide +kernel
theorem dX7_run_120 : decode cX7_run 120 = .ok (.iconst 1, 1) := by decide +kernel
theorem dX7_run_121 : decode cX7_run 121 = .ok (.iadd, 1) := by decide +kernel
theorem dX7_run_122 : decode cX7_run 122 = .ok (.putfield 126, 3) := by decide +kernel
theorem dX7_run_125 : decode cX7_run 125 = .ok (.aload_n 0, 1) := by decide +kernel
theorem dX7_run_126 : decode cX7_run 126 = .ok (.aload_n 0, 1) := by decide +kernel
theorem dX7_run_127 : decode cX7_run 127 = .ok (.aload_n 0, 1) := by decide +kernel
theorem dX7_run_128 : decode cX7_run 128 = .ok (.getfield 133, 3) := by decide +kernel
theorem dX7_run_131 : decode cX7_run 131 = .ok (.iload 5, 2) := by decide +kernel
theorem dX7_run_133 : decode cX7_run 133 = .ok (.iload_n 1, 1) := by decide +kernel
theorem dX7_run_134 : decode cX7_run 134 = .ok (.invokevirtual 136, 3) := by decide +kernel
theorem dX7_run_137 : decode cX7_run 137 = .ok (.putfield 133, 3) := by decide +kernel
theorem dX7_run_140 : decode cX7_run 140 = .ok (.iload 5, 2) := by decide +kernel
theorem dX7_run_142 : decode cX7_run 142 = .ok (.ireturn, 1) := by decide +kernel
theorem dX7_cell_0 : decode cX7_cell 0 = .ok (.aload_n 0, 1) := by decide +kernel
theorem dX7_cell_1 : decode cX7_cell 1 = .ok (.iload_n 1, 1) := by decide +kernel
theorem dX7_cell_2 : decode cX7_cell 2 = .ok (.invokevirtual 109, 3) := by decide +kernel
theorem dX7_cell_5 : decode cX7_cell 5 = .ok (.ifCond .eq 25, 3) := by decide +kernel
theorem dX7_cell_8 : decode cX7_cell 8 = .ok (.iload_n 2, 1) := by decide +kernel
theorem dX7_cell_9 : decode cX7_cell 9 = .ok (.iconst 0, 1) := by decide +kernel
theorem dX7_cell_10 : decode cX7_cell 10 = .ok (.iconst 3, 1) := by decide +kernel
theorem dX7_cell_11 : decode cX7_cell 11 = .ok (.invokestatic 82, 3) := by decide +kernel
theorem dX7_cell_14 : decode cX7_cell 14 = .ok (.ifCond .eq 16, 3) := by decide +kernel
theorem dX7_cell_17 : decode cX7_cell 17 = .ok (.aload_n 0, 1) := by decide +kernel
theorem dX7_cell_18 : decode cX7_cell 18 = .ok (.getfield 54, 3) := by decide +kernel
theorem dX7_cell_21 : decode cX7_cell 21 = .ok (.iconst 4, 1) := by decide +kernel
theorem dX7_cell_22 : decode cX7_cell 22 = .ok (.iload_n 1, 1) := by decide +kernel
theorem dX7_cell_23 : decode cX7_cell 23 = .ok (.imul, 1) := by decide +kernel
theorem dX7_cell_24 : decode cX7_cell 24 = .ok (.iload_n 2, 1) := by decide +kernel
theorem dX7_cell_25 : decode cX7_cell 25 = .ok (.iadd, 1) := by decide +kernel
theorem dX7_cell_26 : decode cX7_cell 26 = .ok (.laload, 1) := by decide +kernel
theorem dX7_cell_27 : decode cX7_cell 27 = .ok (.goto 4, 3) := by decide +kernel
theorem dX7_cell_30 : decode cX7_cell 30 = .ok (.lconst 0, 1) := by decide +kernel
theorem dX7_cell_31 : decode cX7_cell 31 = .ok (.lreturn, 1) := by decide +kernel
theorem dX7_logged_0 : decode cX7_logged 0 = .ok (.iload_n 1, 1) := by decide +kernel
theorem dX7_logged_1 : decode cX7_logged 1 = .ok (.iconst 0, 1) := by decide +kernel
theorem dX7_logged_2 : decode cX7_logged 2 = .ok (.aload_n 0, 1) := by decide +kernel
theorem dX7_logged_3 : decode cX7_logged 3 = .ok (.getfield 126, 3) := by decide +kernel
theorem dX7_logged_6 : decode cX7_logged 6 = .ok (.iconst 1, 1) := by decide +kernel
theorem dX7_logged_7 : decode cX7_logged 7 = .ok (.isub, 1) := by decide +kernel
theorem dX7_logged_8 : decode cX7_logged 8 = .ok (.invokestatic 82, 3) := by decide +kernel
theorem dX7_logged_11 : decode cX7_logged 11 = .ok (.ifCond .eq 12, 3) := by decide +kernel
theorem dX7_logged_14 : decode cX7_logged 14 = .ok (.iload_n 2, 1) := by decide +kernel
theorem dX7_logged_15 : decode cX7_logged 15 = .ok (.iconst 0, 1) := by decide +kernel
theorem dX7_logged_16 : decode cX7_logged 16 = .ok (.iconst 2, 1) := by decide +kernel
theorem dX7_logged_17 : decode cX7_logged 17 = .ok (.invokestatic 82, 3) := by decide +kernel
theorem dX7_logged_20 : decode cX7_logged 20 = .ok (.ifCond .ne 6, 3) := by decide +kernel
theorem dX7_logged_23 : decode cX7_logged 23 = .ok (.bipush (-2), 2) := by decide +kernel
theorem dX7_logged_25 : decode cX7_logged 25 = .ok (.ireturn, 1) := by decide +kernel
theorem dX7_logged_26 : decode cX7_logged 26 = .ok (.iload_n 2, 1) := by decide +kernel
theorem dX7_logged_27 : decode cX7_logged 27 = .ok (.ifCond .ne 12, 3) := by decide +kernel
theorem dX7_logged_30 : decode cX7_logged 30 = .ok (.aload_n 0, 1) := by decide +kernel
theorem dX7_logged_31 : decode cX7_logged 31 = .ok (.getfield 58, 3) := by decide +kernel
theorem dX7_logged_34 : decode cX7_logged 34 = .ok (.iload_n 1, 1) := by decide +kernel
theorem dX7_logged_35 : decode cX7_logged 35 = .ok (.iaload, 1) := by decide +kernel
theorem dX7_logged_36 : decode cX7_logged 36 = .ok (.goto 23, 3) := by decide +kernel
theorem dX7_logged_39 : decode cX7_logged 39 = .ok (.iload_n 2, 1) := by decide +kernel
theorem dX7_logged_40 : decode cX7_logged 40 = .ok (.iconst 1, 1) := by decide +kernel
theorem dX7_logged_41 : decode cX7_logged 41 = .ok (.if_icmp .ne 12, 3) := by decide +kernel
theorem dX7_logged_44 : decode cX7_logged 44 = .ok (.aload_n 0, 1) := by decide +kernel
theorem dX7_logged_45 : decode cX7_logged 45 = .ok (.getfield 61, 3) := by decide +kernel
theorem dX7_logged_48 : decode cX7_logged 48 = .ok (.iload_n 1, 1) := by decide +kernel
theorem dX7_logged_49 : decode cX7_logged 49 = .ok (.iaload, 1) := by decide +kernel
theorem dX7_logged_50 : decode cX7_logged 50 = .ok (.goto 9, 3) := by decide +kernel
theorem dX7_logged_53 : decode cX7_logged 53 = .ok (.aload_n 0, 1) := by decide +kernel
theorem dX7_logged_54 : decode cX7_logged 54 = .ok (.getfield 70, 3) := by decide +kernel
theorem dX7_logged_57 : decode cX7_logged 57 = .ok (.iload_n 1, 1) := by decide +kernel
theorem dX7_logged_58 : decode cX7_logged 58 = .ok (.iaload, 1) := by decide +kernel
theorem dX7_logged_59 : decode cX7_logged 59 = .ok (.ireturn, 1) := by decide +kernel
theorem dX7_digest_0 : decode cX7_digest 0 = .ok (.aload_n 0, 1) := by decide +kernel
theorem dX7_digest_1 : decode cX7_digest 1 = .ok (.getfield 133, 3) := by decide +kernel
theorem dX7_digest_4 : decode cX7_digest 4 = .ok (.ireturn, 1) := by decide +kernel
theorem dX7_replay_0 : decode cX7_replay 0 = .ok (.iload_n 1, 1) := by decide +kernel
theorem dX7_replay_1 : decode cX7_replay 1 = .ok (.iconst 0, 1) := by decide +kernel
theorem dX7_replay_2 : decode cX7_replay 2 = .ok (.aload_n 0, 1) := by decide +kernel
theorem dX7_replay_3 : decode cX7_replay 3 = .ok (.getfield 126, 3) := by decide +kernel
theorem dX7_replay_6 : decode cX7_replay 6 = .ok (.invokestatic 82, 3) := by decide +kernel
theorem dX7_replay_9 : decode cX7_replay 9 = .ok (.ifCond .ne 5, 3) := by decide +kernel
theorem dX7_replay_12 : decode cX7_replay 12 = .ok (.iconst 0, 1) := by decide +kernel
theorem dX7_replay_13 : decode cX7_replay 13 = .ok (.ireturn, 1) := by decide +kernel
theorem dX7_replay_14 : decode cX7_replay 14 = .ok (.iconst 0, 1) := by decide +kernel
theorem dX7_replay_15 : decode cX7_replay 15 = .ok (.istore_n 2, 1) := by decide +kernel
theorem dX7_replay_16 : decode cX7_replay 16 = .ok (.iload_n 2, 1) := by decide +kernel
theorem dX7_replay_17 : decode cX7_replay 17 = .ok (.bipush 48, 2) := by decide +kernel
theorem dX7_replay_19 : decode cX7_replay 19 = .ok (.if_icmp .ge 28, 3) := by decide +kernel
theorem dX7_replay_22 : decode cX7_replay 22 = .ok (.aload_n 0, 1) := by decide +kernel
theorem dX7_replay_23 : decode cX7_replay 23 = .ok (.getfield 79, 3) := by decide +kernel
theorem dX7_replay_26 : decode cX7_replay 26 = .ok (.iload_n 2, 1) := by decide +kernel
theorem dX7_replay_27 : decode cX7_replay 27 = .ok (.aload_n 0, 1) := by decide +kernel
theorem dX7_replay_28 : decode cX7_replay 28 = .ok (.getfield 54, 3) := by decide +kernel
theorem dX7_replay_31 : decode cX7_replay 31 = .ok (.iload_n 2, 1) := by decide +kernel
theorem dX7_replay_32 : decode cX7_replay 32 = .ok (.laload, 1) := by decide +kernel
theorem dX7_replay_33 : decode cX7_replay 33 = .ok (.lastore, 1) := by decide +kernel
theorem dX7_replay_34 : decode cX7_replay 34 = .ok (.aload_n 0, 1) := by decide +kernel
theorem dX7_replay_35 : decode cX7_replay 35 = .ok (.getfield 54, 3) := by decide +kernel
theorem dX7_replay_38 : decode cX7_replay 38 = .ok (.iload_n 2, 1) := by decide +kernel
theorem dX7_replay_39 : decode cX7_replay 39 = .ok (.lconst 0, 1) := by decide +kernel
theorem dX7_replay_40 : decode cX7_replay 40 = .ok (.lastore, 1) := by decide +kernel
theorem dX7_replay_41 : decode cX7_replay 41 = .ok (.iinc 2 1, 3) := by decide +kernel
theorem dX7_replay_44 : decode cX7_replay 44 = .ok (.goto (-28), 3) := by decide +kernel
theorem dX7_replay_47 : decode cX7_replay 47 = .ok (.iconst 0, 1) := by decide +kernel
theorem dX7_replay_48 : decode cX7_replay 48 = .ok (.istore_n 2, 1) := by decide +kernel
theorem dX7_replay_49 : decode cX7_replay 49 = .ok (.iconst 0, 1) := by decide +kernel
theorem dX7_replay_50 : decode cX7_replay 50 = .ok (.istore_n 3, 1) := by decide +kernel
theorem dX7_replay_51 : decode cX7_replay 51 = .ok (.iload_n 3, 1) := by decide +kernel
theorem dX7_replay_52 : decode cX7_replay 52 = .ok (.iload_n 1, 1) := by decide +kernel
theorem dX7_replay_53 : decode cX7_replay 53 = .ok (.if_icmp .ge 58, 3) := by decide +kernel
theorem dX7_replay_56 : decode cX7_replay 56 = .ok (.aload_n 0, 1) := by decide +kernel
theorem dX7_replay_57 : decode cX7_replay 57 = .ok (.getfield 58, 3) := by decide +kernel
theorem dX7_replay_60 : decode cX7_replay 60 = .ok (.iload_n 3, 1) := by decide +kernel
theorem dX7_replay_61 : decode cX7_replay 61 = .ok (.iaload, 1) := by decide +kernel
theorem dX7_replay_62 : decode cX7_replay 62 = .ok (.istore 4, 2) := by decide +kernel
theorem dX7_replay_64 : decode cX7_replay 64 = .ok (.aload_n 0, 1) := by decide +kernel
theorem dX7_replay_65 : decode cX7_replay 65 = .ok (.iload 4, 2) := by decide +kernel
theorem dX7_replay_67 : decode cX7_replay 67 = .ok (.aload_n 0, 1) := by decide +kernel
theorem dX7_replay_68 : decode cX7_replay 68 = .ok (.getfield 64, 3) := by decide +kernel
theorem dX7_replay_71 : decode cX7_replay 71 = .ok (.iload_n 3, 1) := by decide +kernel
theorem dX7_replay_72 : decode cX7_replay 72 = .ok (.laload, 1) := by decide +kernel
theorem dX7_replay_73 : decode cX7_replay 73 = .ok (.aload_n 0, 1) := by decide +kernel
theorem dX7_replay_74 : decode cX7_replay 74 = .ok (.getfield 67, 3) := by decide +kernel
theorem dX7_replay_77 : decode cX7_replay 77 = .ok (.iload_n 3, 1) := by decide +kernel
theorem dX7_replay_78 : decode cX7_replay 78 = .ok (.iaload, 1) := by decide +kernel
theorem dX7_replay_79 : decode cX7_replay 79 = .ok (.aload_n 0, 1) := by decide +kernel
theorem dX7_replay_80 : decode cX7_replay 80 = .ok (.getfield 26, 3) := by decide +kernel
theorem dX7_replay_83 : decode cX7_replay 83 = .ok (.aload_n 0, 1) := by decide +kernel
theorem dX7_replay_84 : decode cX7_replay 84 = .ok (.getfield 61, 3) := by decide +kernel
theorem dX7_replay_87 : decode cX7_replay 87 = .ok (.iload_n 3, 1) := by decide +kernel
theorem dX7_replay_88 : decode cX7_replay 88 = .ok (.iaload, 1) := by decide +kernel
theorem dX7_replay_89 : decode cX7_replay 89 = .ok (.iaload, 1) := by decide +kernel
theorem dX7_replay_90 : decode cX7_replay 90 = .ok (.invokevirtual 129, 3) := by decide +kernel
theorem dX7_replay_93 : decode cX7_replay 93 = .ok (.istore 5, 2) := by decide +kernel
theorem dX7_replay_95 : decode cX7_replay 95 = .ok (.aload_n 0, 1) := by decide +kernel
theorem dX7_replay_96 : decode cX7_replay 96 = .ok (.iload_n 2, 1) := by decide +kernel
theorem dX7_replay_97 : decode cX7_replay 97 = .ok (.iload 5, 2) := by decide +kernel
theorem dX7_replay_99 : decode cX7_replay 99 = .ok (.iload 4, 2) := by decide +kernel
theorem dX7_replay_101 : decode cX7_replay 101 = .ok (.invokevirtual 136, 3) := by decide +kernel
theorem dX7_replay_104 : decode cX7_replay 104 = .ok (.istore_n 2, 1) := by decide +kernel
theorem dX7_replay_105 : decode cX7_replay 105 = .ok (.iinc 3 1, 3) := by decide +kernel
theorem dX7_replay_108 : decode cX7_replay 108 = .ok (.goto (-57), 3) := by decide +kernel
theorem dX7_replay_111 : decode cX7_replay 111 = .ok (.iconst 0, 1) := by decide +kernel
theorem dX7_replay_112 : decode cX7_replay 112 = .ok (.istore_n 3, 1) := by decide +kernel
theorem dX7_replay_113 : decode cX7_replay 113 = .ok (.iload_n 3, 1) := by decide +kernel
theorem dX7_replay_114 : decode cX7_replay 114 = .ok (.bipush 48, 2) := by decide +kernel
theorem dX7_replay_116 : decode cX7_replay 116 = .ok (.if_icmp .ge 21, 3) := by decide +kernel
theorem dX7_replay_119 : decode cX7_replay 119 = .ok (.aload_n 0, 1) := by decide +kernel
theorem dX7_replay_120 : decode cX7_replay 120 = .ok (.getfield 54, 3) := by decide +kernel
theorem dX7_replay_123 : decode cX7_replay 123 = .ok (.iload_n 3, 1) := by decide +kernel
theorem dX7_replay_124 : decode cX7_replay 124 = .ok (.aload_n 0, 1) := by decide +kernel
theorem dX7_replay_125 : decode cX7_replay 125 = .ok (.getfield 79, 3) := by decide +kernel
theorem dX7_replay_128 : decode cX7_replay 128 = .ok (.iload_n 3, 1) := by decide +kernel
theorem dX7_replay_129 : decode cX7_replay 129 = .ok (.laload, 1) := by decide +kernel
theorem dX7_replay_130 : decode cX7_replay 130 = .ok (.lastore, 1) := by decide +kernel
theorem dX7_replay_131 : decode cX7_replay 131 = .ok (.iinc 3 1, 3) := by decide +kernel
theorem dX7_replay_134 : decode cX7_replay 134 = .ok (.goto (-21), 3) := by decide +kernel
theorem dX7_replay_137 : decode cX7_replay 137 = .ok (.iload_n 2, 1) := by decide +kernel
theorem dX7_replay_138 : decode cX7_replay 138 = .ok (.ireturn, 1) := by decide +kernel
theorem dX7_count_0 : decode cX7_count 0 = .ok (.iload_n 1, 1) := by decide +kernel
theorem dX7_count_1 : decode cX7_count 1 = .ok (.tableswitch 60 0 4 #[35, 40, 45, 50, 55], 35) := by decide +kernel
theorem dX7_count_36 : decode cX7_count 36 = .ok (.aload_n 0, 1) := by decide +kernel
theorem dX7_count_37 : decode cX7_count 37 = .ok (.getfield 7, 3) := by decide +kernel
theorem dX7_count_40 : decode cX7_count 40 = .ok (.ireturn, 1) := by decide +kernel
theorem dX7_count_41 : decode cX7_count 41 = .ok (.aload_n 0, 1) := by decide +kernel
theorem dX7_count_42 : decode cX7_count 42 = .ok (.getfield 86, 3) := by decide +kernel
theorem dX7_count_45 : decode cX7_count 45 = .ok (.ireturn, 1) := by decide +kernel
theorem dX7_count_46 : decode cX7_count 46 = .ok (.aload_n 0, 1) := by decide +kernel
theorem dX7_count_47 : decode cX7_count 47 = .ok (.getfield 89, 3) := by decide +kernel
theorem dX7_count_50 : decode cX7_count 50 = .ok (.ireturn, 1) := by decide +kernel
theorem dX7_count_51 : decode cX7_count 51 = .ok (.aload_n 0, 1) := by decide +kernel
theorem dX7_count_52 : decode cX7_count 52 = .ok (.getfield 126, 3) := by decide +kernel
theorem dX7_count_55 : decode cX7_count 55 = .ok (.ireturn, 1) := by decide +kernel
theorem dX7_count_56 : decode cX7_count 56 = .ok (.aload_n 0, 1) := by decide +kernel
theorem dX7_count_57 : decode cX7_count 57 = .ok (.getfield 99, 3) := by decide +kernel
theorem dX7_count_60 : decode cX7_count 60 = .ok (.ireturn, 1) := by decide +kernel
theorem dX7_count_61 : decode cX7_count 61 = .ok (.bipush (-2), 2) := by decide +kernel
theorem dX7_count_63 : decode cX7_count 63 = .ok (.ireturn, 1) := by decide +kernel
