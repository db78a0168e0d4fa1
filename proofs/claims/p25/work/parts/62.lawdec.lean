theorem dL_cell_0 : decode cL_cell 0 = .ok (.iload_n 1, 1) := by decide +kernel
theorem dL_cell_1 : decode cL_cell 1 = .ok (.aload_n 0, 1) := by decide +kernel
theorem dL_cell_2 : decode cL_cell 2 = .ok (.arraylength, 1) := by decide +kernel
theorem dL_cell_3 : decode cL_cell 3 = .ok (.if_icmp .ge 9, 3) := by decide +kernel
theorem dL_cell_6 : decode cL_cell 6 = .ok (.aload_n 0, 1) := by decide +kernel
theorem dL_cell_7 : decode cL_cell 7 = .ok (.iload_n 1, 1) := by decide +kernel
theorem dL_cell_8 : decode cL_cell 8 = .ok (.iaload, 1) := by decide +kernel
theorem dL_cell_9 : decode cL_cell 9 = .ok (.goto 17, 3) := by decide +kernel
theorem dL_cell_12 : decode cL_cell 12 = .ok (.sipush 7919, 3) := by decide +kernel
theorem dL_cell_15 : decode cL_cell 15 = .ok (.iload_n 1, 1) := by decide +kernel
theorem dL_cell_16 : decode cL_cell 16 = .ok (.bipush 7, 2) := by decide +kernel
theorem dL_cell_18 : decode cL_cell 18 = .ok (.iadd, 1) := by decide +kernel
theorem dL_cell_19 : decode cL_cell 19 = .ok (.imul, 1) := by decide +kernel
theorem dL_cell_20 : decode cL_cell 20 = .ok (.iload_n 1, 1) := by decide +kernel
theorem dL_cell_21 : decode cL_cell 21 = .ok (.sipush 173, 3) := by decide +kernel
theorem dL_cell_24 : decode cL_cell 24 = .ok (.iadd, 1) := by decide +kernel
theorem dL_cell_25 : decode cL_cell 25 = .ok (.imul, 1) := by decide +kernel
theorem dL_cell_26 : decode cL_cell 26 = .ok (.ireturn, 1) := by decide +kernel
theorem dL_low_0 : decode cL_low 0 = .ok (.iload_n 0, 1) := by decide +kernel
theorem dL_low_1 : decode cL_low 1 = .ok (.ldc 7, 2) := by decide +kernel
theorem dL_low_3 : decode cL_low 3 = .ok (.iand, 1) := by decide +kernel
theorem dL_low_4 : decode cL_low 4 = .ok (.iload_n 1, 1) := by decide +kernel
theorem dL_low_5 : decode cL_low 5 = .ok (.irem, 1) := by decide +kernel
theorem dL_low_6 : decode cL_low 6 = .ok (.ireturn, 1) := by decide +kernel
theorem dL_act_0 : decode cL_act 0 = .ok (.iload_n 1, 1) := by decide +kernel
theorem dL_act_1 : decode cL_act 1 = .ok (.iconst 5, 1) := by decide +kernel
theorem dL_act_2 : decode cL_act 2 = .ok (.ishr, 1) := by decide +kernel
theorem dL_act_3 : decode cL_act 3 = .ok (.istore_n 2, 1) := by decide +kernel
theorem dL_act_4 : decode cL_act 4 = .ok (.iload_n 1, 1) := by decide +kernel
theorem dL_act_5 : decode cL_act 5 = .ok (.bipush 22, 2) := by decide +kernel
theorem dL_act_7 : decode cL_act 7 = .ok (.ishr, 1) := by decide +kernel
theorem dL_act_8 : decode cL_act 8 = .ok (.bipush 6, 2) := by decide +kernel
theorem dL_act_10 : decode cL_act 10 = .ok (.invokestatic 8, 3) := by decide +kernel
theorem dL_act_13 : decode cL_act 13 = .ok (.ifCond .le 7, 3) := by decide +kernel
theorem dL_act_16 : decode cL_act 16 = .ok (.iconst 1, 1) := by decide +kernel
theorem dL_act_17 : decode cL_act 17 = .ok (.goto 4, 3) := by decide +kernel
theorem dL_act_20 : decode cL_act 20 = .ok (.iconst 0, 1) := by decide +kernel
theorem dL_act_21 : decode cL_act 21 = .ok (.istore_n 3, 1) := by decide +kernel
theorem dL_act_22 : decode cL_act 22 = .ok (.iload_n 2, 1) := by decide +kernel
theorem dL_act_23 : decode cL_act 23 = .ok (.iload_n 3, 1) := by decide +kernel
theorem dL_act_24 : decode cL_act 24 = .ok (.ifCond .eq 7, 3) := by decide +kernel
theorem dL_act_27 : decode cL_act 27 = .ok (.iconst 4, 1) := by decide +kernel
theorem dL_act_28 : decode cL_act 28 = .ok (.goto 4, 3) := by decide +kernel
theorem dL_act_31 : decode cL_act 31 = .ok (.iconst 5, 1) := by decide +kernel
theorem dL_act_32 : decode cL_act 32 = .ok (.invokestatic 8, 3) := by decide +kernel
theorem dL_act_35 : decode cL_act 35 = .ok (.istore 4, 2) := by decide +kernel
theorem dL_act_37 : decode cL_act 37 = .ok (.iload_n 2, 1) := by decide +kernel
theorem dL_act_38 : decode cL_act 38 = .ok (.iconst 2, 1) := by decide +kernel
theorem dL_act_39 : decode cL_act 39 = .ok (.ishr, 1) := by decide +kernel
theorem dL_act_40 : decode cL_act 40 = .ok (.iload_n 1, 1) := by decide +kernel
theorem dL_act_41 : decode cL_act 41 = .ok (.bipush 19, 2) := by decide +kernel
theorem dL_act_43 : decode cL_act 43 = .ok (.ishr, 1) := by decide +kernel
theorem dL_act_44 : decode cL_act 44 = .ok (.iconst 4, 1) := by decide +kernel
theorem dL_act_45 : decode cL_act 45 = .ok (.invokestatic 8, 3) := by decide +kernel
theorem dL_act_48 : decode cL_act 48 = .ok (.ifCond .ne 19, 3) := by decide +kernel
theorem dL_act_51 : decode cL_act 51 = .ok (.iload_n 3, 1) := by decide +kernel
theorem dL_act_52 : decode cL_act 52 = .ok (.ifCond .eq 9, 3) := by decide +kernel
theorem dL_act_55 : decode cL_act 55 = .ok (.sipush 256, 3) := by decide +kernel
theorem dL_act_58 : decode cL_act 58 = .ok (.goto 11, 3) := by decide +kernel
theorem dL_act_61 : decode cL_act 61 = .ok (.sipush 260, 3) := by decide +kernel
theorem dL_act_64 : decode cL_act 64 = .ok (.goto 5, 3) := by decide +kernel
theorem dL_act_67 : decode cL_act 67 = .ok (.bipush 14, 2) := by decide +kernel
theorem dL_act_69 : decode cL_act 69 = .ok (.invokestatic 8, 3) := by decide +kernel
theorem dL_act_72 : decode cL_act 72 = .ok (.istore 5, 2) := by decide +kernel
theorem dL_act_74 : decode cL_act 74 = .ok (.iload_n 1, 1) := by decide +kernel
theorem dL_act_75 : decode cL_act 75 = .ok (.bipush 32, 2) := by decide +kernel
theorem dL_act_77 : decode cL_act 77 = .ok (.invokestatic 8, 3) := by decide +kernel
theorem dL_act_80 : decode cL_act 80 = .ok (.istore 6, 2) := by decide +kernel
theorem dL_act_82 : decode cL_act 82 = .ok (.iload 6, 2) := by decide +kernel
theorem dL_act_84 : decode cL_act 84 = .ok (.bipush 13, 2) := by decide +kernel
theorem dL_act_86 : decode cL_act 86 = .ok (.if_icmp .ge 12, 3) := by decide +kernel
theorem dL_act_89 : decode cL_act 89 = .ok (.aload_n 0, 1) := by decide +kernel
theorem dL_act_90 : decode cL_act 90 = .ok (.iload 4, 2) := by decide +kernel
theorem dL_act_92 : decode cL_act 92 = .ok (.iload 5, 2) := by decide +kernel
theorem dL_act_94 : decode cL_act 94 = .ok (.invokevirtual 14, 3) := by decide +kernel
theorem dL_act_97 : decode cL_act 97 = .ok (.ireturn, 1) := by decide +kernel
theorem dL_act_98 : decode cL_act 98 = .ok (.iload 6, 2) := by decide +kernel
theorem dL_act_100 : decode cL_act 100 = .ok (.bipush 25, 2) := by decide +kernel
theorem dL_act_102 : decode cL_act 102 = .ok (.if_icmp .ge 32, 3) := by decide +kernel
theorem dL_act_105 : decode cL_act 105 = .ok (.aload_n 0, 1) := by decide +kernel
theorem dL_act_106 : decode cL_act 106 = .ok (.iload 4, 2) := by decide +kernel
theorem dL_act_108 : decode cL_act 108 = .ok (.iload 5, 2) := by decide +kernel
theorem dL_act_110 : decode cL_act 110 = .ok (.iload_n 2, 1) := by decide +kernel
theorem dL_act_111 : decode cL_act 111 = .ok (.bipush 6, 2) := by decide +kernel
theorem dL_act_113 : decode cL_act 113 = .ok (.ishr, 1) := by decide +kernel
theorem dL_act_114 : decode cL_act 114 = .ok (.iload_n 3, 1) := by decide +kernel
theorem dL_act_115 : decode cL_act 115 = .ok (.ifCond .eq 9, 3) := by decide +kernel
theorem dL_act_118 : decode cL_act 118 = .ok (.sipush 10000, 3) := by decide +kernel
theorem dL_act_121 : decode cL_act 121 = .ok (.goto 6, 3) := by decide +kernel
theorem dL_act_124 : decode cL_act 124 = .ok (.sipush 11000, 3) := by decide +kernel
theorem dL_act_127 : decode cL_act 127 = .ok (.invokestatic 8, 3) := by decide +kernel
theorem dL_act_130 : decode cL_act 130 = .ok (.invokevirtual 19, 3) := by decide +kernel
theorem dL_act_133 : decode cL_act 133 = .ok (.ireturn, 1) := by decide +kernel
theorem dL_act_134 : decode cL_act 134 = .ok (.iload 6, 2) := by decide +kernel
theorem dL_act_136 : decode cL_act 136 = .ok (.bipush 28, 2) := by decide +kernel
theorem dL_act_138 : decode cL_act 138 = .ok (.if_icmp .ge 12, 3) := by decide +kernel
theorem dL_act_141 : decode cL_act 141 = .ok (.aload_n 0, 1) := by decide +kernel
theorem dL_act_142 : decode cL_act 142 = .ok (.iload 4, 2) := by decide +kernel
theorem dL_act_144 : decode cL_act 144 = .ok (.iload 5, 2) := by decide +kernel
theorem dL_act_146 : decode cL_act 146 = .ok (.invokevirtual 23, 3) := by decide +kernel
theorem dL_act_149 : decode cL_act 149 = .ok (.ireturn, 1) := by decide +kernel
theorem dL_act_150 : decode cL_act 150 = .ok (.iload 6, 2) := by decide +kernel
theorem dL_act_152 : decode cL_act 152 = .ok (.bipush 28, 2) := by decide +kernel
theorem dL_act_154 : decode cL_act 154 = .ok (.if_icmp .ne 12, 3) := by decide +kernel
theorem dL_act_157 : decode cL_act 157 = .ok (.aload_n 0, 1) := by decide +kernel
theorem dL_act_158 : decode cL_act 158 = .ok (.iload 4, 2) := by decide +kernel
theorem dL_act_160 : decode cL_act 160 = .ok (.invokevirtual 26, 3) := by decide +kernel
theorem dL_act_163 : decode cL_act 163 = .ok (.goto 58, 3) := by decide +kernel
theorem dL_act_166 : decode cL_act 166 = .ok (.iload 6, 2) := by decide +kernel
theorem dL_act_168 : decode cL_act 168 = .ok (.bipush 31, 2) := by decide +kernel
theorem dL_act_170 : decode cL_act 170 = .ok (.if_icmp .ge 25, 3) := by decide +kernel
theorem dL_act_173 : decode cL_act 173 = .ok (.aload_n 0, 1) := by decide +kernel
theorem dL_act_174 : decode cL_act 174 = .ok (.iconst 0, 1) := by decide +kernel
theorem dL_act_175 : decode cL_act 175 = .ok (.iload_n 2, 1) := by decide +kernel
theorem dL_act_176 : decode cL_act 176 = .ok (.iload_n 3, 1) := by decide +kernel
theorem dL_act_177 : decode cL_act 177 = .ok (.ifCond .eq 7, 3) := by decide +kernel
theorem dL_act_180 : decode cL_act 180 = .ok (.iconst 5, 1) := by decide +kernel
theorem dL_act_181 : decode cL_act 181 = .ok (.goto 5, 3) := by decide +kernel
theorem dL_act_184 : decode cL_act 184 = .ok (.bipush 12, 2) := by decide +kernel
theorem dL_act_186 : decode cL_act 186 = .ok (.invokestatic 8, 3) := by decide +kernel
theorem dL_act_189 : decode cL_act 189 = .ok (.invokevirtual 30, 3) := by decide +kernel
theorem dL_act_192 : decode cL_act 192 = .ok (.goto 29, 3) := by decide +kernel
theorem dL_act_195 : decode cL_act 195 = .ok (.aload_n 0, 1) := by decide +kernel
theorem dL_act_196 : decode cL_act 196 = .ok (.iconst 1, 1) := by decide +kernel
theorem dL_act_197 : decode cL_act 197 = .ok (.iload_n 3, 1) := by decide +kernel
theorem dL_act_198 : decode cL_act 198 = .ok (.ifCond .eq 14, 3) := by decide +kernel
theorem dL_act_201 : decode cL_act 201 = .ok (.iconst 5, 1) := by decide +kernel
theorem dL_act_202 : decode cL_act 202 = .ok (.iload_n 2, 1) := by decide +kernel
theorem dL_act_203 : decode cL_act 203 = .ok (.bipush 20, 2) := by decide +kernel
theorem dL_act_205 : decode cL_act 205 = .ok (.invokestatic 8, 3) := by decide +kernel
theorem dL_act_208 : decode cL_act 208 = .ok (.iadd, 1) := by decide +kernel
theorem dL_act_209 : decode cL_act 209 = .ok (.goto 9, 3) := by decide +kernel
theorem dL_act_212 : decode cL_act 212 = .ok (.iload_n 2, 1) := by decide +kernel
theorem dL_act_213 : decode cL_act 213 = .ok (.bipush 30, 2) := by decide +kernel
theorem dL_act_215 : decode cL_act 215 = .ok (.invokestatic 8, 3) := by decide +kernel
theorem dL_act_218 : decode cL_act 218 = .ok (.invokevirtual 30, 3) := by decide +kernel
theorem dL_act_221 : decode cL_act 221 = .ok (.ireturn, 1) := by decide +kernel
theorem dL_areAlike_0 : decode cL_areAlike 0 = .ok (.aload_n 0, 1) := by decide +kernel
theorem dL_areAlike_1 : decode cL_areAlike 1 = .ok (.invokevirtual 33, 3) := by decide +kernel
theorem dL_areAlike_4 : decode cL_areAlike 4 = .ok (.aload_n 1, 1) := by decide +kernel
theorem dL_areAlike_5 : decode cL_areAlike 5 = .ok (.invokevirtual 33, 3) := by decide +kernel
theorem dL_areAlike_8 : decode cL_areAlike 8 = .ok (.if_icmp .ne 7, 3) := by decide +kernel
theorem dL_areAlike_11 : decode cL_areAlike 11 = .ok (.iconst 1, 1) := by decide +kernel
theorem dL_areAlike_12 : decode cL_areAlike 12 = .ok (.goto 4, 3) := by decide +kernel
theorem dL_areAlike_15 : decode cL_areAlike 15 = .ok (.iconst 0, 1) := by decide +kernel
theorem dL_areAlike_16 : decode cL_areAlike 16 = .ok (.istore_n 2, 1) := by decide +kernel
theorem dL_areAlike_17 : decode cL_areAlike 17 = .ok (.iconst 0, 1) := by decide +kernel
theorem dL_areAlike_18 : decode cL_areAlike 18 = .ok (.istore_n 3, 1) := by decide +kernel
theorem dL_areAlike_19 : decode cL_areAlike 19 = .ok (.iload_n 3, 1) := by decide +kernel
theorem dL_areAlike_20 : decode cL_areAlike 20 = .ok (.bipush 12, 2) := by decide +kernel
theorem dL_areAlike_22 : decode cL_areAlike 22 = .ok (.if_icmp .ge 32, 3) := by decide +kernel
theorem dL_areAlike_25 : decode cL_areAlike 25 = .ok (.iload_n 2, 1) := by decide +kernel
theorem dL_areAlike_26 : decode cL_areAlike 26 = .ok (.ifCond .eq 20, 3) := by decide +kernel
theorem dL_areAlike_29 : decode cL_areAlike 29 = .ok (.aload_n 0, 1) := by decide +kernel
theorem dL_areAlike_30 : decode cL_areAlike 30 = .ok (.iload_n 3, 1) := by decide +kernel
theorem dL_areAlike_31 : decode cL_areAlike 31 = .ok (.invokevirtual 37, 3) := by decide +kernel
theorem dL_areAlike_34 : decode cL_areAlike 34 = .ok (.aload_n 1, 1) := by decide +kernel
theorem dL_areAlike_35 : decode cL_areAlike 35 = .ok (.iload_n 3, 1) := by decide +kernel
theorem dL_areAlike_36 : decode cL_areAlike 36 = .ok (.invokevirtual 37, 3) := by decide +kernel
theorem dL_areAlike_39 : decode cL_areAlike 39 = .ok (.if_icmp .ne 7, 3) := by decide +kernel
theorem dL_areAlike_42 : decode cL_areAlike 42 = .ok (.iconst 1, 1) := by decide +kernel
theorem dL_areAlike_43 : decode cL_areAlike 43 = .ok (.goto 4, 3) := by decide +kernel
theorem dL_areAlike_46 : decode cL_areAlike 46 = .ok (.iconst 0, 1) := by decide +kernel
theorem dL_areAlike_47 : decode cL_areAlike 47 = .ok (.istore_n 2, 1) := by decide +kernel
theorem dL_areAlike_48 : decode cL_areAlike 48 = .ok (.iinc 3 1, 3) := by decide +kernel
theorem dL_areAlike_51 : decode cL_areAlike 51 = .ok (.goto (-32), 3) := by decide +kernel
theorem dL_areAlike_54 : decode cL_areAlike 54 = .ok (.iconst 0, 1) := by decide +kernel
theorem dL_areAlike_55 : decode cL_areAlike 55 = .ok (.istore_n 3, 1) := by decide +kernel
theorem dL_areAlike_56 : decode cL_areAlike 56 = .ok (.iload_n 3, 1) := by decide +kernel
theorem dL_areAlike_57 : decode cL_areAlike 57 = .ok (.bipush 96, 2) := by decide +kernel
theorem dL_areAlike_59 : decode cL_areAlike 59 = .ok (.if_icmp .ge 83, 3) := by decide +kernel
theorem dL_areAlike_62 : decode cL_areAlike 62 = .ok (.iload_n 2, 1) := by decide +kernel
theorem dL_areAlike_63 : decode cL_areAlike 63 = .ok (.ifCond .eq 71, 3) := by decide +kernel
theorem dL_areAlike_66 : decode cL_areAlike 66 = .ok (.aload_n 0, 1) := by decide +kernel
theorem dL_areAlike_67 : decode cL_areAlike 67 = .ok (.iload_n 3, 1) := by decide +kernel
theorem dL_areAlike_68 : decode cL_areAlike 68 = .ok (.bipush 24, 2) := by decide +kernel
theorem dL_areAlike_70 : decode cL_areAlike 70 = .ok (.idiv, 1) := by decide +kernel
theorem dL_areAlike_71 : decode cL_areAlike 71 = .ok (.iload_n 3, 1) := by decide +kernel
theorem dL_areAlike_72 : decode cL_areAlike 72 = .ok (.iconst 3, 1) := by decide +kernel
theorem dL_areAlike_73 : decode cL_areAlike 73 = .ok (.idiv, 1) := by decide +kernel
theorem dL_areAlike_74 : decode cL_areAlike 74 = .ok (.bipush 8, 2) := by decide +kernel
theorem dL_areAlike_76 : decode cL_areAlike 76 = .ok (.irem, 1) := by decide +kernel
theorem dL_areAlike_77 : decode cL_areAlike 77 = .ok (.iload_n 3, 1) := by decide +kernel
theorem dL_areAlike_78 : decode cL_areAlike 78 = .ok (.iconst 3, 1) := by decide +kernel
theorem dL_areAlike_79 : decode cL_areAlike 79 = .ok (.irem, 1) := by decide +kernel
theorem dL_areAlike_80 : decode cL_areAlike 80 = .ok (.invokevirtual 40, 3) := by decide +kernel
theorem dL_areAlike_83 : decode cL_areAlike 83 = .ok (.aload_n 1, 1) := by decide +kernel
theorem dL_areAlike_84 : decode cL_areAlike 84 = .ok (.iload_n 3, 1) := by decide +kernel
theorem dL_areAlike_85 : decode cL_areAlike 85 = .ok (.bipush 24, 2) := by decide +kernel
theorem dL_areAlike_87 : decode cL_areAlike 87 = .ok (.idiv, 1) := by decide +kernel
theorem dL_areAlike_88 : decode cL_areAlike 88 = .ok (.iload_n 3, 1) := by decide +kernel
theorem dL_areAlike_89 : decode cL_areAlike 89 = .ok (.iconst 3, 1) := by decide +kernel
theorem dL_areAlike_90 : decode cL_areAlike 90 = .ok (.idiv, 1) := by decide +kernel
theorem dL_areAlike_91 : decode cL_areAlike 91 = .ok (.bipush 8, 2) := by decide +kernel
theorem dL_areAlike_93 : decode cL_areAlike 93 = .ok (.irem, 1) := by decide +kernel
theorem dL_areAlike_94 : decode cL_areAlike 94 = .ok (.iload_n 3, 1) := by decide +kernel
theorem dL_areAlike_95 : decode cL_areAlike 95 = .ok (.iconst 3, 1) := by decide +kernel
theorem dL_areAlike_96 : decode cL_areAlike 96 = .ok (.irem, 1) := by decide +kernel
theorem dL_areAlike_97 : decode cL_areAlike 97 = .ok (.invokevirtual 40, 3) := by decide +kernel
theorem dL_areAlike_100 : decode cL_areAlike 100 = .ok (.if_icmp .ne 34, 3) := by decide +kernel
theorem dL_areAlike_103 : decode cL_areAlike 103 = .ok (.aload_n 0, 1) := by decide +kernel
theorem dL_areAlike_104 : decode cL_areAlike 104 = .ok (.iload_n 3, 1) := by decide +kernel
theorem dL_areAlike_105 : decode cL_areAlike 105 = .ok (.bipush 24, 2) := by decide +kernel
theorem dL_areAlike_107 : decode cL_areAlike 107 = .ok (.idiv, 1) := by decide +kernel
theorem dL_areAlike_108 : decode cL_areAlike 108 = .ok (.iload_n 3, 1) := by decide +kernel
theorem dL_areAlike_109 : decode cL_areAlike 109 = .ok (.bipush 24, 2) := by decide +kernel
theorem dL_areAlike_111 : decode cL_areAlike 111 = .ok (.irem, 1) := by decide +kernel
theorem dL_areAlike_112 : decode cL_areAlike 112 = .ok (.invokevirtual 43, 3) := by decide +kernel
theorem dL_areAlike_115 : decode cL_areAlike 115 = .ok (.aload_n 1, 1) := by decide +kernel
theorem dL_areAlike_116 : decode cL_areAlike 116 = .ok (.iload_n 3, 1) := by decide +kernel
theorem dL_areAlike_117 : decode cL_areAlike 117 = .ok (.bipush 24, 2) := by decide +kernel
theorem dL_areAlike_119 : decode cL_areAlike 119 = .ok (.idiv, 1) := by decide +kernel
theorem dL_areAlike_120 : decode cL_areAlike 120 = .ok (.iload_n 3, 1) := by decide +kernel
theorem dL_areAlike_121 : decode cL_areAlike 121 = .ok (.bipush 24, 2) := by decide +kernel
theorem dL_areAlike_123 : decode cL_areAlike 123 = .ok (.irem, 1) := by decide +kernel
theorem dL_areAlike_124 : decode cL_areAlike 124 = .ok (.invokevirtual 43, 3) := by decide +kernel
theorem dL_areAlike_127 : decode cL_areAlike 127 = .ok (.if_icmp .ne 7, 3) := by decide +kernel
theorem dL_areAlike_130 : decode cL_areAlike 130 = .ok (.iconst 1, 1) := by decide +kernel
theorem dL_areAlike_131 : decode cL_areAlike 131 = .ok (.goto 4, 3) := by decide +kernel
theorem dL_areAlike_134 : decode cL_areAlike 134 = .ok (.iconst 0, 1) := by decide +kernel
theorem dL_areAlike_135 : decode cL_areAlike 135 = .ok (.istore_n 2, 1) := by decide +kernel
theorem dL_areAlike_136 : decode cL_areAlike 136 = .ok (.iinc 3 1, 3) := by decide +kernel
theorem dL_areAlike_139 : decode cL_areAlike 139 = .ok (.goto (-83), 3) := by decide +kernel
theorem dL_areAlike_142 : decode cL_areAlike 142 = .ok (.iconst 0, 1) := by decide +kernel
theorem dL_areAlike_143 : decode cL_areAlike 143 = .ok (.istore_n 3, 1) := by decide +kernel
theorem dL_areAlike_144 : decode cL_areAlike 144 = .ok (.iload_n 3, 1) := by decide +kernel
theorem dL_areAlike_145 : decode cL_areAlike 145 = .ok (.bipush 44, 2) := by decide +kernel
theorem dL_areAlike_147 : decode cL_areAlike 147 = .ok (.if_icmp .ge 46, 3) := by decide +kernel
theorem dL_areAlike_150 : decode cL_areAlike 150 = .ok (.iload_n 2, 1) := by decide +kernel
theorem dL_areAlike_151 : decode cL_areAlike 151 = .ok (.ifCond .eq 34, 3) := by decide +kernel
theorem dL_areAlike_154 : decode cL_areAlike 154 = .ok (.aload_n 0, 1) := by decide +kernel
theorem dL_areAlike_155 : decode cL_areAlike 155 = .ok (.iload_n 3, 1) := by decide +kernel
theorem dL_areAlike_156 : decode cL_areAlike 156 = .ok (.bipush 11, 2) := by decide +kernel
theorem dL_areAlike_158 : decode cL_areAlike 158 = .ok (.idiv, 1) := by decide +kernel
theorem dL_areAlike_159 : decode cL_areAlike 159 = .ok (.iload_n 3, 1) := by decide +kernel
theorem dL_areAlike_160 : decode cL_areAlike 160 = .ok (.bipush 11, 2) := by decide +kernel
theorem dL_areAlike_162 : decode cL_areAlike 162 = .ok (.irem, 1) := by decide +kernel
theorem dL_areAlike_163 : decode cL_areAlike 163 = .ok (.invokevirtual 46, 3) := by decide +kernel
theorem dL_areAlike_166 : decode cL_areAlike 166 = .ok (.aload_n 1, 1) := by decide +kernel
theorem dL_areAlike_167 : decode cL_areAlike 167 = .ok (.iload_n 3, 1) := by decide +kernel
theorem dL_areAlike_168 : decode cL_areAlike 168 = .ok (.bipush 11, 2) := by decide +kernel
theorem dL_areAlike_170 : decode cL_areAlike 170 = .ok (.idiv, 1) := by decide +kernel
theorem dL_areAlike_171 : decode cL_areAlike 171 = .ok (.iload_n 3, 1) := by decide +kernel
theorem dL_areAlike_172 : decode cL_areAlike 172 = .ok (.bipush 11, 2) := by decide +kernel
theorem dL_areAlike_174 : decode cL_areAlike 174 = .ok (.irem, 1) := by decide +kernel
theorem dL_areAlike_175 : decode cL_areAlike 175 = .ok (.invokevirtual 46, 3) := by decide +kernel
theorem dL_areAlike_178 : decode cL_areAlike 178 = .ok (.if_icmp .ne 7, 3) := by decide +kernel
theorem dL_areAlike_181 : decode cL_areAlike 181 = .ok (.iconst 1, 1) := by decide +kernel
theorem dL_areAlike_182 : decode cL_areAlike 182 = .ok (.goto 4, 3) := by decide +kernel
theorem dL_areAlike_185 : decode cL_areAlike 185 = .ok (.iconst 0, 1) := by decide +kernel
theorem dL_areAlike_186 : decode cL_areAlike 186 = .ok (.istore_n 2, 1) := by decide +kernel
theorem dL_areAlike_187 : decode cL_areAlike 187 = .ok (.iinc 3 1, 3) := by decide +kernel
theorem dL_areAlike_190 : decode cL_areAlike 190 = .ok (.goto (-46), 3) := by decide +kernel
theorem dL_areAlike_193 : decode cL_areAlike 193 = .ok (.iconst 0, 1) := by decide +kernel
theorem dL_areAlike_194 : decode cL_areAlike 194 = .ok (.istore_n 3, 1) := by decide +kernel
theorem dL_areAlike_195 : decode cL_areAlike 195 = .ok (.iload_n 3, 1) := by decide +kernel
theorem dL_areAlike_196 : decode cL_areAlike 196 = .ok (.sipush 256, 3) := by decide +kernel
theorem dL_areAlike_199 : decode cL_areAlike 199 = .ok (.if_icmp .ge 34, 3) := by decide +kernel
theorem dL_areAlike_202 : decode cL_areAlike 202 = .ok (.iload_n 2, 1) := by decide +kernel
theorem dL_areAlike_203 : decode cL_areAlike 203 = .ok (.ifCond .eq 22, 3) := by decide +kernel
theorem dL_areAlike_206 : decode cL_areAlike 206 = .ok (.aload_n 0, 1) := by decide +kernel
theorem dL_areAlike_207 : decode cL_areAlike 207 = .ok (.iload_n 3, 1) := by decide +kernel
theorem dL_areAlike_208 : decode cL_areAlike 208 = .ok (.iconst 0, 1) := by decide +kernel
theorem dL_areAlike_209 : decode cL_areAlike 209 = .ok (.invokevirtual 49, 3) := by decide +kernel
theorem dL_areAlike_212 : decode cL_areAlike 212 = .ok (.aload_n 1, 1) := by decide +kernel
theorem dL_areAlike_213 : decode cL_areAlike 213 = .ok (.iload_n 3, 1) := by decide +kernel
theorem dL_areAlike_214 : decode cL_areAlike 214 = .ok (.iconst 0, 1) := by decide +kernel
theorem dL_areAlike_215 : decode cL_areAlike 215 = .ok (.invokevirtual 49, 3) := by decide +kernel
theorem dL_areAlike_218 : decode cL_areAlike 218 = .ok (.if_icmp .ne 7, 3) := by decide +kernel
theorem dL_areAlike_221 : decode cL_areAlike 221 = .ok (.iconst 1, 1) := by decide +kernel
theorem dL_areAlike_222 : decode cL_areAlike 222 = .ok (.goto 4, 3) := by decide +kernel
theorem dL_areAlike_225 : decode cL_areAlike 225 = .ok (.iconst 0, 1) := by decide +kernel
theorem dL_areAlike_226 : decode cL_areAlike 226 = .ok (.istore_n 2, 1) := by decide +kernel
theorem dL_areAlike_227 : decode cL_areAlike 227 = .ok (.iinc 3 1, 3) := by decide +kernel
theorem dL_areAlike_230 : decode cL_areAlike 230 = .ok (.goto (-35), 3) := by decide +kernel
theorem dL_areAlike_233 : decode cL_areAlike 233 = .ok (.iload_n 2, 1) := by decide +kernel
theorem dL_areAlike_234 : decode cL_areAlike 234 = .ok (.ireturn, 1) := by decide +kernel
theorem dL_isFilterSo_0 : decode cL_isFilterSo 0 = .ok (.iconst 0, 1) := by decide +kernel
theorem dL_isFilterSo_1 : decode cL_isFilterSo 1 = .ok (.istore_n 2, 1) := by decide +kernel
theorem dL_isFilterSo_2 : decode cL_isFilterSo 2 = .ok (.iconst 0, 1) := by decide +kernel
theorem dL_isFilterSo_3 : decode cL_isFilterSo 3 = .ok (.istore_n 3, 1) := by decide +kernel
theorem dL_isFilterSo_4 : decode cL_isFilterSo 4 = .ok (.iconst 0, 1) := by decide +kernel
theorem dL_isFilterSo_5 : decode cL_isFilterSo 5 = .ok (.istore 4, 2) := by decide +kernel
theorem dL_isFilterSo_7 : decode cL_isFilterSo 7 = .ok (.iconst 0, 1) := by decide +kernel
theorem dL_isFilterSo_8 : decode cL_isFilterSo 8 = .ok (.istore 5, 2) := by decide +kernel
theorem dL_isFilterSo_10 : decode cL_isFilterSo 10 = .ok (.iconst 0, 1) := by decide +kernel
theorem dL_isFilterSo_11 : decode cL_isFilterSo 11 = .ok (.istore 6, 2) := by decide +kernel
theorem dL_isFilterSo_13 : decode cL_isFilterSo 13 = .ok (.iconst 1, 1) := by decide +kernel
theorem dL_isFilterSo_14 : decode cL_isFilterSo 14 = .ok (.istore 7, 2) := by decide +kernel
theorem dL_isFilterSo_16 : decode cL_isFilterSo 16 = .ok (.iconst 0, 1) := by decide +kernel
theorem dL_isFilterSo_17 : decode cL_isFilterSo 17 = .ok (.istore 8, 2) := by decide +kernel
theorem dL_isFilterSo_19 : decode cL_isFilterSo 19 = .ok (.iload 8, 2) := by decide +kernel
theorem dL_isFilterSo_21 : decode cL_isFilterSo 21 = .ok (.bipush 24, 2) := by decide +kernel
theorem dL_isFilterSo_23 : decode cL_isFilterSo 23 = .ok (.if_icmp .ge 164, 3) := by decide +kernel
theorem dL_isFilterSo_26 : decode cL_isFilterSo 26 = .ok (.iconst 0, 1) := by decide +kernel
theorem dL_isFilterSo_27 : decode cL_isFilterSo 27 = .ok (.istore 9, 2) := by decide +kernel
theorem dL_isFilterSo_29 : decode cL_isFilterSo 29 = .ok (.iconst 0, 1) := by decide +kernel
theorem dL_isFilterSo_30 : decode cL_isFilterSo 30 = .ok (.istore 10, 2) := by decide +kernel
theorem dL_isFilterSo_32 : decode cL_isFilterSo 32 = .ok (.iload 10, 2) := by decide +kernel
theorem dL_isFilterSo_34 : decode cL_isFilterSo 34 = .ok (.bipush 8, 2) := by decide +kernel
theorem dL_isFilterSo_36 : decode cL_isFilterSo 36 = .ok (.if_icmp .ge 74, 3) := by decide +kernel
theorem dL_isFilterSo_39 : decode cL_isFilterSo 39 = .ok (.aload_n 0, 1) := by decide +kernel
theorem dL_isFilterSo_40 : decode cL_isFilterSo 40 = .ok (.iload_n 1, 1) := by decide +kernel
theorem dL_isFilterSo_41 : decode cL_isFilterSo 41 = .ok (.iload 10, 2) := by decide +kernel
theorem dL_isFilterSo_43 : decode cL_isFilterSo 43 = .ok (.iconst 0, 1) := by decide +kernel
theorem dL_isFilterSo_44 : decode cL_isFilterSo 44 = .ok (.invokevirtual 40, 3) := by decide +kernel
theorem dL_isFilterSo_47 : decode cL_isFilterSo 47 = .ok (.istore 11, 2) := by decide +kernel
theorem dL_isFilterSo_49 : decode cL_isFilterSo 49 = .ok (.iload 9, 2) := by decide +kernel
theorem dL_isFilterSo_51 : decode cL_isFilterSo 51 = .ok (.iload 11, 2) := by decide +kernel
theorem dL_isFilterSo_53 : decode cL_isFilterSo 53 = .ok (.ifCond .lt 17, 3) := by decide +kernel
theorem dL_isFilterSo_56 : decode cL_isFilterSo 56 = .ok (.iload 11, 2) := by decide +kernel
theorem dL_isFilterSo_58 : decode cL_isFilterSo 58 = .ok (.bipush 24, 2) := by decide +kernel
theorem dL_isFilterSo_60 : decode cL_isFilterSo 60 = .ok (.irem, 1) := by decide +kernel
theorem dL_isFilterSo_61 : decode cL_isFilterSo 61 = .ok (.iload 8, 2) := by decide +kernel
theorem dL_isFilterSo_63 : decode cL_isFilterSo 63 = .ok (.if_icmp .ne 7, 3) := by decide +kernel
theorem dL_isFilterSo_66 : decode cL_isFilterSo 66 = .ok (.iconst 1, 1) := by decide +kernel
theorem dL_isFilterSo_67 : decode cL_isFilterSo 67 = .ok (.goto 4, 3) := by decide +kernel
theorem dL_isFilterSo_70 : decode cL_isFilterSo 70 = .ok (.iconst 0, 1) := by decide +kernel
theorem dL_isFilterSo_71 : decode cL_isFilterSo 71 = .ok (.iadd, 1) := by decide +kernel
theorem dL_isFilterSo_72 : decode cL_isFilterSo 72 = .ok (.istore 9, 2) := by decide +kernel
theorem dL_isFilterSo_74 : decode cL_isFilterSo 74 = .ok (.iload 9, 2) := by decide +kernel
theorem dL_isFilterSo_76 : decode cL_isFilterSo 76 = .ok (.iload 11, 2) := by decide +kernel
theorem dL_isFilterSo_78 : decode cL_isFilterSo 78 = .ok (.ifCond .lt 22, 3) := by decide +kernel
theorem dL_isFilterSo_81 : decode cL_isFilterSo 81 = .ok (.bipush 7, 2) := by decide +kernel
theorem dL_isFilterSo_83 : decode cL_isFilterSo 83 = .ok (.iload 11, 2) := by decide +kernel
theorem dL_isFilterSo_85 : decode cL_isFilterSo 85 = .ok (.imul, 1) := by decide +kernel
theorem dL_isFilterSo_86 : decode cL_isFilterSo 86 = .ok (.iconst 5, 1) := by decide +kernel
theorem dL_isFilterSo_87 : decode cL_isFilterSo 87 = .ok (.iadd, 1) := by decide +kernel
theorem dL_isFilterSo_88 : decode cL_isFilterSo 88 = .ok (.bipush 24, 2) := by decide +kernel
theorem dL_isFilterSo_90 : decode cL_isFilterSo 90 = .ok (.irem, 1) := by decide +kernel
theorem dL_isFilterSo_91 : decode cL_isFilterSo 91 = .ok (.iload 8, 2) := by decide +kernel
theorem dL_isFilterSo_93 : decode cL_isFilterSo 93 = .ok (.if_icmp .ne 7, 3) := by decide +kernel
theorem dL_isFilterSo_96 : decode cL_isFilterSo 96 = .ok (.iconst 1, 1) := by decide +kernel
theorem dL_isFilterSo_97 : decode cL_isFilterSo 97 = .ok (.goto 4, 3) := by decide +kernel
theorem dL_isFilterSo_100 : decode cL_isFilterSo 100 = .ok (.iconst 0, 1) := by decide +kernel
theorem dL_isFilterSo_101 : decode cL_isFilterSo 101 = .ok (.iadd, 1) := by decide +kernel
theorem dL_isFilterSo_102 : decode cL_isFilterSo 102 = .ok (.istore 9, 2) := by decide +kernel
theorem dL_isFilterSo_104 : decode cL_isFilterSo 104 = .ok (.iinc 10 1, 3) := by decide +kernel
theorem dL_isFilterSo_107 : decode cL_isFilterSo 107 = .ok (.goto (-75), 3) := by decide +kernel
theorem dL_isFilterSo_110 : decode cL_isFilterSo 110 = .ok (.aload_n 0, 1) := by decide +kernel
theorem dL_isFilterSo_111 : decode cL_isFilterSo 111 = .ok (.iload_n 1, 1) := by decide +kernel
theorem dL_isFilterSo_112 : decode cL_isFilterSo 112 = .ok (.iload 8, 2) := by decide +kernel
theorem dL_isFilterSo_114 : decode cL_isFilterSo 114 = .ok (.invokevirtual 43, 3) := by decide +kernel
theorem dL_isFilterSo_117 : decode cL_isFilterSo 117 = .ok (.istore 10, 2) := by decide +kernel
theorem dL_isFilterSo_119 : decode cL_isFilterSo 119 = .ok (.iload_n 3, 1) := by decide +kernel
theorem dL_isFilterSo_120 : decode cL_isFilterSo 120 = .ok (.iload 10, 2) := by decide +kernel
theorem dL_isFilterSo_122 : decode cL_isFilterSo 122 = .ok (.ifCond .le 7, 3) := by decide +kernel
theorem dL_isFilterSo_125 : decode cL_isFilterSo 125 = .ok (.iconst 1, 1) := by decide +kernel
theorem dL_isFilterSo_126 : decode cL_isFilterSo 126 = .ok (.goto 4, 3) := by decide +kernel
theorem dL_isFilterSo_129 : decode cL_isFilterSo 129 = .ok (.iconst 0, 1) := by decide +kernel
theorem dL_isFilterSo_130 : decode cL_isFilterSo 130 = .ok (.iadd, 1) := by decide +kernel
theorem dL_isFilterSo_131 : decode cL_isFilterSo 131 = .ok (.istore_n 3, 1) := by decide +kernel
theorem dL_isFilterSo_132 : decode cL_isFilterSo 132 = .ok (.iload_n 2, 1) := by decide +kernel
theorem dL_isFilterSo_133 : decode cL_isFilterSo 133 = .ok (.iload 10, 2) := by decide +kernel
theorem dL_isFilterSo_135 : decode cL_isFilterSo 135 = .ok (.iload 9, 2) := by decide +kernel
theorem dL_isFilterSo_137 : decode cL_isFilterSo 137 = .ok (.if_icmp .ne 7, 3) := by decide +kernel
theorem dL_isFilterSo_140 : decode cL_isFilterSo 140 = .ok (.iconst 0, 1) := by decide +kernel
theorem dL_isFilterSo_141 : decode cL_isFilterSo 141 = .ok (.goto 4, 3) := by decide +kernel
theorem dL_isFilterSo_144 : decode cL_isFilterSo 144 = .ok (.iconst 1, 1) := by decide +kernel
theorem dL_isFilterSo_145 : decode cL_isFilterSo 145 = .ok (.iadd, 1) := by decide +kernel
theorem dL_isFilterSo_146 : decode cL_isFilterSo 146 = .ok (.istore_n 2, 1) := by decide +kernel
theorem dL_isFilterSo_147 : decode cL_isFilterSo 147 = .ok (.iload 7, 2) := by decide +kernel
theorem dL_isFilterSo_149 : decode cL_isFilterSo 149 = .ok (.ifCond .eq 29, 3) := by decide +kernel
theorem dL_isFilterSo_152 : decode cL_isFilterSo 152 = .ok (.iload 10, 2) := by decide +kernel
theorem dL_isFilterSo_154 : decode cL_isFilterSo 154 = .ok (.ifCond .lt 24, 3) := by decide +kernel
theorem dL_isFilterSo_157 : decode cL_isFilterSo 157 = .ok (.iload 10, 2) := by decide +kernel
theorem dL_isFilterSo_159 : decode cL_isFilterSo 159 = .ok (.bipush 10, 2) := by decide +kernel
theorem dL_isFilterSo_161 : decode cL_isFilterSo 161 = .ok (.if_icmp .ge 17, 3) := by decide +kernel
theorem dL_isFilterSo_164 : decode cL_isFilterSo 164 = .ok (.iload 9, 2) := by decide +kernel
theorem dL_isFilterSo_166 : decode cL_isFilterSo 166 = .ok (.ifCond .eq 8, 3) := by decide +kernel
theorem dL_isFilterSo_169 : decode cL_isFilterSo 169 = .ok (.iload 10, 2) := by decide +kernel
theorem dL_isFilterSo_171 : decode cL_isFilterSo 171 = .ok (.ifCond .le 7, 3) := by decide +kernel
theorem dL_isFilterSo_174 : decode cL_isFilterSo 174 = .ok (.iconst 1, 1) := by decide +kernel
theorem dL_isFilterSo_175 : decode cL_isFilterSo 175 = .ok (.goto 4, 3) := by decide +kernel
theorem dL_isFilterSo_178 : decode cL_isFilterSo 178 = .ok (.iconst 0, 1) := by decide +kernel
theorem dL_isFilterSo_179 : decode cL_isFilterSo 179 = .ok (.istore 7, 2) := by decide +kernel
theorem dL_isFilterSo_181 : decode cL_isFilterSo 181 = .ok (.iinc 8 1, 3) := by decide +kernel
theorem dL_isFilterSo_184 : decode cL_isFilterSo 184 = .ok (.goto (-165), 3) := by decide +kernel
theorem dL_isFilterSo_187 : decode cL_isFilterSo 187 = .ok (.iconst 0, 1) := by decide +kernel
theorem dL_isFilterSo_188 : decode cL_isFilterSo 188 = .ok (.istore 8, 2) := by decide +kernel
theorem dL_isFilterSo_190 : decode cL_isFilterSo 190 = .ok (.iload 8, 2) := by decide +kernel
theorem dL_isFilterSo_192 : decode cL_isFilterSo 192 = .ok (.bipush 8, 2) := by decide +kernel
theorem dL_isFilterSo_194 : decode cL_isFilterSo 194 = .ok (.if_icmp .ge 165, 3) := by decide +kernel
theorem dL_isFilterSo_197 : decode cL_isFilterSo 197 = .ok (.aload_n 0, 1) := by decide +kernel
theorem dL_isFilterSo_198 : decode cL_isFilterSo 198 = .ok (.iload_n 1, 1) := by decide +kernel
theorem dL_isFilterSo_199 : decode cL_isFilterSo 199 = .ok (.iload 8, 2) := by decide +kernel
theorem dL_isFilterSo_201 : decode cL_isFilterSo 201 = .ok (.iconst 0, 1) := by decide +kernel
theorem dL_isFilterSo_202 : decode cL_isFilterSo 202 = .ok (.invokevirtual 40, 3) := by decide +kernel
theorem dL_isFilterSo_205 : decode cL_isFilterSo 205 = .ok (.istore 9, 2) := by decide +kernel
theorem dL_isFilterSo_207 : decode cL_isFilterSo 207 = .ok (.iload 9, 2) := by decide +kernel
theorem dL_isFilterSo_209 : decode cL_isFilterSo 209 = .ok (.ifCond .lt 144, 3) := by decide +kernel
theorem dL_isFilterSo_212 : decode cL_isFilterSo 212 = .ok (.iinc 4 1, 3) := by decide +kernel
theorem dL_isFilterSo_215 : decode cL_isFilterSo 215 = .ok (.iload 5, 2) := by decide +kernel
theorem dL_isFilterSo_217 : decode cL_isFilterSo 217 = .ok (.aload_n 0, 1) := by decide +kernel
theorem dL_isFilterSo_218 : decode cL_isFilterSo 218 = .ok (.iload_n 1, 1) := by decide +kernel
theorem dL_isFilterSo_219 : decode cL_isFilterSo 219 = .ok (.iload 8, 2) := by decide +kernel
theorem dL_isFilterSo_221 : decode cL_isFilterSo 221 = .ok (.iconst 2, 1) := by decide +kernel
theorem dL_isFilterSo_222 : decode cL_isFilterSo 222 = .ok (.invokevirtual 40, 3) := by decide +kernel
theorem dL_isFilterSo_225 : decode cL_isFilterSo 225 = .ok (.iadd, 1) := by decide +kernel
theorem dL_isFilterSo_226 : decode cL_isFilterSo 226 = .ok (.istore 5, 2) := by decide +kernel
theorem dL_isFilterSo_228 : decode cL_isFilterSo 228 = .ok (.iload 7, 2) := by decide +kernel
theorem dL_isFilterSo_230 : decode cL_isFilterSo 230 = .ok (.ifCond .eq 120, 3) := by decide +kernel
theorem dL_isFilterSo_233 : decode cL_isFilterSo 233 = .ok (.iload 9, 2) := by decide +kernel
theorem dL_isFilterSo_235 : decode cL_isFilterSo 235 = .ok (.bipush 8, 2) := by decide +kernel
theorem dL_isFilterSo_237 : decode cL_isFilterSo 237 = .ok (.irem, 1) := by decide +kernel
theorem dL_isFilterSo_238 : decode cL_isFilterSo 238 = .ok (.iload 8, 2) := by decide +kernel
theorem dL_isFilterSo_240 : decode cL_isFilterSo 240 = .ok (.if_icmp .ne 110, 3) := by decide +kernel
theorem dL_isFilterSo_243 : decode cL_isFilterSo 243 = .ok (.aload_n 0, 1) := by decide +kernel
theorem dL_isFilterSo_244 : decode cL_isFilterSo 244 = .ok (.iload_n 1, 1) := by decide +kernel
theorem dL_isFilterSo_245 : decode cL_isFilterSo 245 = .ok (.iload 9, 2) := by decide +kernel
theorem dL_isFilterSo_247 : decode cL_isFilterSo 247 = .ok (.bipush 16, 2) := by decide +kernel
theorem dL_isFilterSo_249 : decode cL_isFilterSo 249 = .ok (.idiv, 1) := by decide +kernel
theorem dL_isFilterSo_250 : decode cL_isFilterSo 250 = .ok (.invokevirtual 52, 3) := by decide +kernel
theorem dL_isFilterSo_253 : decode cL_isFilterSo 253 = .ok (.iconst 1, 1) := by decide +kernel
theorem dL_isFilterSo_254 : decode cL_isFilterSo 254 = .ok (.if_icmp .ne 96, 3) := by decide +kernel
theorem dL_isFilterSo_257 : decode cL_isFilterSo 257 = .ok (.aload_n 0, 1) := by decide +kernel
theorem dL_isFilterSo_258 : decode cL_isFilterSo 258 = .ok (.iload_n 1, 1) := by decide +kernel
theorem dL_isFilterSo_259 : decode cL_isFilterSo 259 = .ok (.iload 9, 2) := by decide +kernel
theorem dL_isFilterSo_261 : decode cL_isFilterSo 261 = .ok (.invokevirtual 55, 3) := by decide +kernel
theorem dL_isFilterSo_264 : decode cL_isFilterSo 264 = .ok (.ifCond .ne 86, 3) := by decide +kernel
theorem dL_isFilterSo_267 : decode cL_isFilterSo 267 = .ok (.aload_n 0, 1) := by decide +kernel
theorem dL_isFilterSo_268 : decode cL_isFilterSo 268 = .ok (.iload 9, 2) := by decide +kernel
theorem dL_isFilterSo_270 : decode cL_isFilterSo 270 = .ok (.iconst 2, 1) := by decide +kernel
theorem dL_isFilterSo_271 : decode cL_isFilterSo 271 = .ok (.invokevirtual 49, 3) := by decide +kernel
theorem dL_isFilterSo_274 : decode cL_isFilterSo 274 = .ok (.iload_n 1, 1) := by decide +kernel
theorem dL_isFilterSo_275 : decode cL_isFilterSo 275 = .ok (.ishr, 1) := by decide +kernel
theorem dL_isFilterSo_276 : decode cL_isFilterSo 276 = .ok (.iconst 1, 1) := by decide +kernel
theorem dL_isFilterSo_277 : decode cL_isFilterSo 277 = .ok (.iand, 1) := by decide +kernel
theorem dL_isFilterSo_278 : decode cL_isFilterSo 278 = .ok (.iconst 1, 1) := by decide +kernel
theorem dL_isFilterSo_279 : decode cL_isFilterSo 279 = .ok (.if_icmp .ne 71, 3) := by decide +kernel
theorem dL_isFilterSo_282 : decode cL_isFilterSo 282 = .ok (.aload_n 0, 1) := by decide +kernel
theorem dL_isFilterSo_283 : decode cL_isFilterSo 283 = .ok (.iload_n 1, 1) := by decide +kernel
theorem dL_isFilterSo_284 : decode cL_isFilterSo 284 = .ok (.iload 8, 2) := by decide +kernel
theorem dL_isFilterSo_286 : decode cL_isFilterSo 286 = .ok (.iconst 1, 1) := by decide +kernel
theorem dL_isFilterSo_287 : decode cL_isFilterSo 287 = .ok (.invokevirtual 40, 3) := by decide +kernel
theorem dL_isFilterSo_290 : decode cL_isFilterSo 290 = .ok (.aload_n 0, 1) := by decide +kernel
theorem dL_isFilterSo_291 : decode cL_isFilterSo 291 = .ok (.iload 9, 2) := by decide +kernel
theorem dL_isFilterSo_293 : decode cL_isFilterSo 293 = .ok (.iconst 1, 1) := by decide +kernel
theorem dL_isFilterSo_294 : decode cL_isFilterSo 294 = .ok (.invokevirtual 49, 3) := by decide +kernel
theorem dL_isFilterSo_297 : decode cL_isFilterSo 297 = .ok (.if_icmp .ne 53, 3) := by decide +kernel
theorem dL_isFilterSo_300 : decode cL_isFilterSo 300 = .ok (.aload_n 0, 1) := by decide +kernel
theorem dL_isFilterSo_301 : decode cL_isFilterSo 301 = .ok (.iload_n 1, 1) := by decide +kernel
theorem dL_isFilterSo_302 : decode cL_isFilterSo 302 = .ok (.iload 8, 2) := by decide +kernel
theorem dL_isFilterSo_304 : decode cL_isFilterSo 304 = .ok (.iconst 2, 1) := by decide +kernel
theorem dL_isFilterSo_305 : decode cL_isFilterSo 305 = .ok (.invokevirtual 40, 3) := by decide +kernel
theorem dL_isFilterSo_308 : decode cL_isFilterSo 308 = .ok (.iconst 1, 1) := by decide +kernel
theorem dL_isFilterSo_309 : decode cL_isFilterSo 309 = .ok (.if_icmp .ne 19, 3) := by decide +kernel
theorem dL_isFilterSo_312 : decode cL_isFilterSo 312 = .ok (.aload_n 0, 1) := by decide +kernel
theorem dL_isFilterSo_313 : decode cL_isFilterSo 313 = .ok (.iload 9, 2) := by decide +kernel
theorem dL_isFilterSo_315 : decode cL_isFilterSo 315 = .ok (.iconst 2, 1) := by decide +kernel
theorem dL_isFilterSo_316 : decode cL_isFilterSo 316 = .ok (.invokevirtual 49, 3) := by decide +kernel
theorem dL_isFilterSo_319 : decode cL_isFilterSo 319 = .ok (.iconst 1, 1) := by decide +kernel
theorem dL_isFilterSo_320 : decode cL_isFilterSo 320 = .ok (.iload_n 1, 1) := by decide +kernel
theorem dL_isFilterSo_321 : decode cL_isFilterSo 321 = .ok (.ishl, 1) := by decide +kernel
theorem dL_isFilterSo_322 : decode cL_isFilterSo 322 = .ok (.if_icmp .ne 28, 3) := by decide +kernel
theorem dL_isFilterSo_325 : decode cL_isFilterSo 325 = .ok (.goto 21, 3) := by decide +kernel
theorem dL_isFilterSo_328 : decode cL_isFilterSo 328 = .ok (.aload_n 0, 1) := by decide +kernel
theorem dL_isFilterSo_329 : decode cL_isFilterSo 329 = .ok (.iload_n 1, 1) := by decide +kernel
theorem dL_isFilterSo_330 : decode cL_isFilterSo 330 = .ok (.iload 8, 2) := by decide +kernel
theorem dL_isFilterSo_332 : decode cL_isFilterSo 332 = .ok (.iconst 1, 1) := by decide +kernel
theorem dL_isFilterSo_333 : decode cL_isFilterSo 333 = .ok (.invokevirtual 40, 3) := by decide +kernel
theorem dL_isFilterSo_336 : decode cL_isFilterSo 336 = .ok (.aload_n 0, 1) := by decide +kernel
theorem dL_isFilterSo_337 : decode cL_isFilterSo 337 = .ok (.iload 9, 2) := by decide +kernel
theorem dL_isFilterSo_339 : decode cL_isFilterSo 339 = .ok (.iconst 0, 1) := by decide +kernel
theorem dL_isFilterSo_340 : decode cL_isFilterSo 340 = .ok (.invokevirtual 49, 3) := by decide +kernel
theorem dL_isFilterSo_343 : decode cL_isFilterSo 343 = .ok (.if_icmp .ne 7, 3) := by decide +kernel
theorem dL_isFilterSo_346 : decode cL_isFilterSo 346 = .ok (.iconst 1, 1) := by decide +kernel
theorem dL_isFilterSo_347 : decode cL_isFilterSo 347 = .ok (.goto 4, 3) := by decide +kernel
theorem dL_isFilterSo_350 : decode cL_isFilterSo 350 = .ok (.iconst 0, 1) := by decide +kernel
theorem dL_isFilterSo_351 : decode cL_isFilterSo 351 = .ok (.istore 7, 2) := by decide +kernel
theorem dL_isFilterSo_353 : decode cL_isFilterSo 353 = .ok (.iinc 8 1, 3) := by decide +kernel
theorem dL_isFilterSo_356 : decode cL_isFilterSo 356 = .ok (.goto (-166), 3) := by decide +kernel
theorem dL_isFilterSo_359 : decode cL_isFilterSo 359 = .ok (.iconst 0, 1) := by decide +kernel
theorem dL_isFilterSo_360 : decode cL_isFilterSo 360 = .ok (.istore 8, 2) := by decide +kernel
theorem dL_isFilterSo_362 : decode cL_isFilterSo 362 = .ok (.iload 8, 2) := by decide +kernel
theorem dL_isFilterSo_364 : decode cL_isFilterSo 364 = .ok (.bipush 16, 2) := by decide +kernel
theorem dL_isFilterSo_366 : decode cL_isFilterSo 366 = .ok (.if_icmp .ge 21, 3) := by decide +kernel
theorem dL_isFilterSo_369 : decode cL_isFilterSo 369 = .ok (.iload 6, 2) := by decide +kernel
theorem dL_isFilterSo_371 : decode cL_isFilterSo 371 = .ok (.aload_n 0, 1) := by decide +kernel
theorem dL_isFilterSo_372 : decode cL_isFilterSo 372 = .ok (.iload_n 1, 1) := by decide +kernel
theorem dL_isFilterSo_373 : decode cL_isFilterSo 373 = .ok (.iload 8, 2) := by decide +kernel
theorem dL_isFilterSo_375 : decode cL_isFilterSo 375 = .ok (.invokevirtual 52, 3) := by decide +kernel
theorem dL_isFilterSo_378 : decode cL_isFilterSo 378 = .ok (.iadd, 1) := by decide +kernel
theorem dL_isFilterSo_379 : decode cL_isFilterSo 379 = .ok (.istore 6, 2) := by decide +kernel
theorem dL_isFilterSo_381 : decode cL_isFilterSo 381 = .ok (.iinc 8 1, 3) := by decide +kernel
theorem dL_isFilterSo_384 : decode cL_isFilterSo 384 = .ok (.goto (-22), 3) := by decide +kernel
theorem dL_isFilterSo_387 : decode cL_isFilterSo 387 = .ok (.iload 7, 2) := by decide +kernel
theorem dL_isFilterSo_389 : decode cL_isFilterSo 389 = .ok (.ifCond .eq 87, 3) := by decide +kernel
theorem dL_isFilterSo_392 : decode cL_isFilterSo 392 = .ok (.aload_n 0, 1) := by decide +kernel
theorem dL_isFilterSo_393 : decode cL_isFilterSo 393 = .ok (.iload_n 1, 1) := by decide +kernel
theorem dL_isFilterSo_394 : decode cL_isFilterSo 394 = .ok (.iconst 0, 1) := by decide +kernel
theorem dL_isFilterSo_395 : decode cL_isFilterSo 395 = .ok (.invokevirtual 46, 3) := by decide +kernel
theorem dL_isFilterSo_398 : decode cL_isFilterSo 398 = .ok (.iload 4, 2) := by decide +kernel
theorem dL_isFilterSo_400 : decode cL_isFilterSo 400 = .ok (.if_icmp .ne 76, 3) := by decide +kernel
theorem dL_isFilterSo_403 : decode cL_isFilterSo 403 = .ok (.aload_n 0, 1) := by decide +kernel
theorem dL_isFilterSo_404 : decode cL_isFilterSo 404 = .ok (.iload_n 1, 1) := by decide +kernel
theorem dL_isFilterSo_405 : decode cL_isFilterSo 405 = .ok (.iconst 1, 1) := by decide +kernel
theorem dL_isFilterSo_406 : decode cL_isFilterSo 406 = .ok (.invokevirtual 46, 3) := by decide +kernel
theorem dL_isFilterSo_409 : decode cL_isFilterSo 409 = .ok (.iload 5, 2) := by decide +kernel
theorem dL_isFilterSo_411 : decode cL_isFilterSo 411 = .ok (.if_icmp .ne 65, 3) := by decide +kernel
theorem dL_isFilterSo_414 : decode cL_isFilterSo 414 = .ok (.aload_n 0, 1) := by decide +kernel
theorem dL_isFilterSo_415 : decode cL_isFilterSo 415 = .ok (.iload_n 1, 1) := by decide +kernel
theorem dL_isFilterSo_416 : decode cL_isFilterSo 416 = .ok (.iconst 2, 1) := by decide +kernel
theorem dL_isFilterSo_417 : decode cL_isFilterSo 417 = .ok (.invokevirtual 46, 3) := by decide +kernel
theorem dL_isFilterSo_420 : decode cL_isFilterSo 420 = .ok (.iload_n 3, 1) := by decide +kernel
theorem dL_isFilterSo_421 : decode cL_isFilterSo 421 = .ok (.if_icmp .ne 55, 3) := by decide +kernel
theorem dL_isFilterSo_424 : decode cL_isFilterSo 424 = .ok (.aload_n 0, 1) := by decide +kernel
theorem dL_isFilterSo_425 : decode cL_isFilterSo 425 = .ok (.iload_n 1, 1) := by decide +kernel
theorem dL_isFilterSo_426 : decode cL_isFilterSo 426 = .ok (.iconst 3, 1) := by decide +kernel
theorem dL_isFilterSo_427 : decode cL_isFilterSo 427 = .ok (.invokevirtual 46, 3) := by decide +kernel
theorem dL_isFilterSo_430 : decode cL_isFilterSo 430 = .ok (.iload_n 2, 1) := by decide +kernel
theorem dL_isFilterSo_431 : decode cL_isFilterSo 431 = .ok (.if_icmp .lt 45, 3) := by decide +kernel
theorem dL_isFilterSo_434 : decode cL_isFilterSo 434 = .ok (.aload_n 0, 1) := by decide +kernel
theorem dL_isFilterSo_435 : decode cL_isFilterSo 435 = .ok (.iload_n 1, 1) := by decide +kernel
theorem dL_isFilterSo_436 : decode cL_isFilterSo 436 = .ok (.iconst 3, 1) := by decide +kernel
theorem dL_isFilterSo_437 : decode cL_isFilterSo 437 = .ok (.invokevirtual 46, 3) := by decide +kernel
theorem dL_isFilterSo_440 : decode cL_isFilterSo 440 = .ok (.iload_n 3, 1) := by decide +kernel
theorem dL_isFilterSo_441 : decode cL_isFilterSo 441 = .ok (.if_icmp .gt 35, 3) := by decide +kernel
theorem dL_isFilterSo_444 : decode cL_isFilterSo 444 = .ok (.aload_n 0, 1) := by decide +kernel
theorem dL_isFilterSo_445 : decode cL_isFilterSo 445 = .ok (.iload_n 1, 1) := by decide +kernel
theorem dL_isFilterSo_446 : decode cL_isFilterSo 446 = .ok (.iconst 4, 1) := by decide +kernel
theorem dL_isFilterSo_447 : decode cL_isFilterSo 447 = .ok (.invokevirtual 46, 3) := by decide +kernel
theorem dL_isFilterSo_450 : decode cL_isFilterSo 450 = .ok (.iload 6, 2) := by decide +kernel
theorem dL_isFilterSo_452 : decode cL_isFilterSo 452 = .ok (.if_icmp .ne 24, 3) := by decide +kernel
theorem dL_isFilterSo_455 : decode cL_isFilterSo 455 = .ok (.aload_n 0, 1) := by decide +kernel
theorem dL_isFilterSo_456 : decode cL_isFilterSo 456 = .ok (.iload_n 1, 1) := by decide +kernel
theorem dL_isFilterSo_457 : decode cL_isFilterSo 457 = .ok (.bipush 8, 2) := by decide +kernel
theorem dL_isFilterSo_459 : decode cL_isFilterSo 459 = .ok (.invokevirtual 46, 3) := by decide +kernel
theorem dL_isFilterSo_462 : decode cL_isFilterSo 462 = .ok (.aload_n 0, 1) := by decide +kernel
theorem dL_isFilterSo_463 : decode cL_isFilterSo 463 = .ok (.iload_n 1, 1) := by decide +kernel
theorem dL_isFilterSo_464 : decode cL_isFilterSo 464 = .ok (.bipush 7, 2) := by decide +kernel
theorem dL_isFilterSo_466 : decode cL_isFilterSo 466 = .ok (.invokevirtual 46, 3) := by decide +kernel
theorem dL_isFilterSo_469 : decode cL_isFilterSo 469 = .ok (.if_icmp .gt 7, 3) := by decide +kernel
theorem dL_isFilterSo_472 : decode cL_isFilterSo 472 = .ok (.iconst 1, 1) := by decide +kernel
theorem dL_isFilterSo_473 : decode cL_isFilterSo 473 = .ok (.goto 4, 3) := by decide +kernel
theorem dL_isFilterSo_476 : decode cL_isFilterSo 476 = .ok (.iconst 0, 1) := by decide +kernel
theorem dL_isFilterSo_477 : decode cL_isFilterSo 477 = .ok (.ireturn, 1) := by decide +kernel
theorem dL_areSums_0 : decode cL_areSums 0 = .ok (.iconst 0, 1) := by decide +kernel
theorem dL_areSums_1 : decode cL_areSums 1 = .ok (.istore_n 1, 1) := by decide +kernel
theorem dL_areSums_2 : decode cL_areSums 2 = .ok (.iconst 0, 1) := by decide +kernel
theorem dL_areSums_3 : decode cL_areSums 3 = .ok (.istore_n 2, 1) := by decide +kernel
theorem dL_areSums_4 : decode cL_areSums 4 = .ok (.iconst 0, 1) := by decide +kernel
theorem dL_areSums_5 : decode cL_areSums 5 = .ok (.istore_n 3, 1) := by decide +kernel
theorem dL_areSums_6 : decode cL_areSums 6 = .ok (.iconst 0, 1) := by decide +kernel
theorem dL_areSums_7 : decode cL_areSums 7 = .ok (.istore 4, 2) := by decide +kernel
theorem dL_areSums_9 : decode cL_areSums 9 = .ok (.iconst 0, 1) := by decide +kernel
theorem dL_areSums_10 : decode cL_areSums 10 = .ok (.istore 5, 2) := by decide +kernel
theorem dL_areSums_12 : decode cL_areSums 12 = .ok (.iconst 0, 1) := by decide +kernel
theorem dL_areSums_13 : decode cL_areSums 13 = .ok (.istore 6, 2) := by decide +kernel
theorem dL_areSums_15 : decode cL_areSums 15 = .ok (.iconst 0, 1) := by decide +kernel
theorem dL_areSums_16 : decode cL_areSums 16 = .ok (.istore 7, 2) := by decide +kernel
theorem dL_areSums_18 : decode cL_areSums 18 = .ok (.iconst 0, 1) := by decide +kernel
theorem dL_areSums_19 : decode cL_areSums 19 = .ok (.istore 8, 2) := by decide +kernel
theorem dL_areSums_21 : decode cL_areSums 21 = .ok (.iconst 0, 1) := by decide +kernel
theorem dL_areSums_22 : decode cL_areSums 22 = .ok (.istore 9, 2) := by decide +kernel
theorem dL_areSums_24 : decode cL_areSums 24 = .ok (.iconst 1, 1) := by decide +kernel
theorem dL_areSums_25 : decode cL_areSums 25 = .ok (.istore 10, 2) := by decide +kernel
theorem dL_areSums_27 : decode cL_areSums 27 = .ok (.iconst 0, 1) := by decide +kernel
theorem dL_areSums_28 : decode cL_areSums 28 = .ok (.istore 11, 2) := by decide +kernel
theorem dL_areSums_30 : decode cL_areSums 30 = .ok (.iload 11, 2) := by decide +kernel
theorem dL_areSums_32 : decode cL_areSums 32 = .ok (.iconst 4, 1) := by decide +kernel
theorem dL_areSums_33 : decode cL_areSums 33 = .ok (.if_icmp .ge 153, 3) := by decide +kernel
theorem dL_areSums_36 : decode cL_areSums 36 = .ok (.iload 10, 2) := by decide +kernel
theorem dL_areSums_38 : decode cL_areSums 38 = .ok (.ifCond .eq 16, 3) := by decide +kernel
theorem dL_areSums_41 : decode cL_areSums 41 = .ok (.aload_n 0, 1) := by decide +kernel
theorem dL_areSums_42 : decode cL_areSums 42 = .ok (.iload 11, 2) := by decide +kernel
theorem dL_areSums_44 : decode cL_areSums 44 = .ok (.invokestatic 58, 3) := by decide +kernel
theorem dL_areSums_47 : decode cL_areSums 47 = .ok (.ifCond .eq 7, 3) := by decide +kernel
theorem dL_areSums_50 : decode cL_areSums 50 = .ok (.iconst 1, 1) := by decide +kernel
theorem dL_areSums_51 : decode cL_areSums 51 = .ok (.goto 4, 3) := by decide +kernel
theorem dL_areSums_54 : decode cL_areSums 54 = .ok (.iconst 0, 1) := by decide +kernel
theorem dL_areSums_55 : decode cL_areSums 55 = .ok (.istore 10, 2) := by decide +kernel
theorem dL_areSums_57 : decode cL_areSums 57 = .ok (.iload_n 1, 1) := by decide +kernel
theorem dL_areSums_58 : decode cL_areSums 58 = .ok (.aload_n 0, 1) := by decide +kernel
theorem dL_areSums_59 : decode cL_areSums 59 = .ok (.iload 11, 2) := by decide +kernel
theorem dL_areSums_61 : decode cL_areSums 61 = .ok (.iconst 0, 1) := by decide +kernel
theorem dL_areSums_62 : decode cL_areSums 62 = .ok (.invokevirtual 46, 3) := by decide +kernel
theorem dL_areSums_65 : decode cL_areSums 65 = .ok (.iadd, 1) := by decide +kernel
theorem dL_areSums_66 : decode cL_areSums 66 = .ok (.istore_n 1, 1) := by decide +kernel
theorem dL_areSums_67 : decode cL_areSums 67 = .ok (.iload_n 2, 1) := by decide +kernel
theorem dL_areSums_68 : decode cL_areSums 68 = .ok (.aload_n 0, 1) := by decide +kernel
theorem dL_areSums_69 : decode cL_areSums 69 = .ok (.iload 11, 2) := by decide +kernel
theorem dL_areSums_71 : decode cL_areSums 71 = .ok (.iconst 1, 1) := by decide +kernel
theorem dL_areSums_72 : decode cL_areSums 72 = .ok (.invokevirtual 46, 3) := by decide +kernel
theorem dL_areSums_75 : decode cL_areSums 75 = .ok (.iadd, 1) := by decide +kernel
theorem dL_areSums_76 : decode cL_areSums 76 = .ok (.istore_n 2, 1) := by decide +kernel
theorem dL_areSums_77 : decode cL_areSums 77 = .ok (.iload 7, 2) := by decide +kernel
theorem dL_areSums_79 : decode cL_areSums 79 = .ok (.aload_n 0, 1) := by decide +kernel
theorem dL_areSums_80 : decode cL_areSums 80 = .ok (.iload 11, 2) := by decide +kernel
theorem dL_areSums_82 : decode cL_areSums 82 = .ok (.iconst 5, 1) := by decide +kernel
theorem dL_areSums_83 : decode cL_areSums 83 = .ok (.invokevirtual 46, 3) := by decide +kernel
theorem dL_areSums_86 : decode cL_areSums 86 = .ok (.iadd, 1) := by decide +kernel
theorem dL_areSums_87 : decode cL_areSums 87 = .ok (.istore 7, 2) := by decide +kernel
theorem dL_areSums_89 : decode cL_areSums 89 = .ok (.iload 8, 2) := by decide +kernel
theorem dL_areSums_91 : decode cL_areSums 91 = .ok (.aload_n 0, 1) := by decide +kernel
theorem dL_areSums_92 : decode cL_areSums 92 = .ok (.iload 11, 2) := by decide +kernel
theorem dL_areSums_94 : decode cL_areSums 94 = .ok (.bipush 6, 2) := by decide +kernel
theorem dL_areSums_96 : decode cL_areSums 96 = .ok (.invokevirtual 46, 3) := by decide +kernel
theorem dL_areSums_99 : decode cL_areSums 99 = .ok (.iadd, 1) := by decide +kernel
theorem dL_areSums_100 : decode cL_areSums 100 = .ok (.istore 8, 2) := by decide +kernel
theorem dL_areSums_102 : decode cL_areSums 102 = .ok (.iload_n 3, 1) := by decide +kernel
theorem dL_areSums_103 : decode cL_areSums 103 = .ok (.aload_n 0, 1) := by decide +kernel
theorem dL_areSums_104 : decode cL_areSums 104 = .ok (.iload 11, 2) := by decide +kernel
theorem dL_areSums_106 : decode cL_areSums 106 = .ok (.bipush 7, 2) := by decide +kernel
theorem dL_areSums_108 : decode cL_areSums 108 = .ok (.invokevirtual 46, 3) := by decide +kernel
theorem dL_areSums_111 : decode cL_areSums 111 = .ok (.iadd, 1) := by decide +kernel
theorem dL_areSums_112 : decode cL_areSums 112 = .ok (.istore_n 3, 1) := by decide +kernel
theorem dL_areSums_113 : decode cL_areSums 113 = .ok (.iload 4, 2) := by decide +kernel
theorem dL_areSums_115 : decode cL_areSums 115 = .ok (.aload_n 0, 1) := by decide +kernel
theorem dL_areSums_116 : decode cL_areSums 116 = .ok (.iload 11, 2) := by decide +kernel
theorem dL_areSums_118 : decode cL_areSums 118 = .ok (.bipush 8, 2) := by decide +kernel
theorem dL_areSums_120 : decode cL_areSums 120 = .ok (.invokevirtual 46, 3) := by decide +kernel
theorem dL_areSums_123 : decode cL_areSums 123 = .ok (.iadd, 1) := by decide +kernel
theorem dL_areSums_124 : decode cL_areSums 124 = .ok (.istore 4, 2) := by decide +kernel
theorem dL_areSums_126 : decode cL_areSums 126 = .ok (.iload 5, 2) := by decide +kernel
theorem dL_areSums_128 : decode cL_areSums 128 = .ok (.aload_n 0, 1) := by decide +kernel
theorem dL_areSums_129 : decode cL_areSums 129 = .ok (.iload 11, 2) := by decide +kernel
theorem dL_areSums_131 : decode cL_areSums 131 = .ok (.bipush 9, 2) := by decide +kernel
theorem dL_areSums_133 : decode cL_areSums 133 = .ok (.invokevirtual 46, 3) := by decide +kernel
theorem dL_areSums_136 : decode cL_areSums 136 = .ok (.iadd, 1) := by decide +kernel
theorem dL_areSums_137 : decode cL_areSums 137 = .ok (.istore 5, 2) := by decide +kernel
theorem dL_areSums_139 : decode cL_areSums 139 = .ok (.iload 6, 2) := by decide +kernel
theorem dL_areSums_141 : decode cL_areSums 141 = .ok (.aload_n 0, 1) := by decide +kernel
theorem dL_areSums_142 : decode cL_areSums 142 = .ok (.iload 11, 2) := by decide +kernel
theorem dL_areSums_144 : decode cL_areSums 144 = .ok (.bipush 10, 2) := by decide +kernel
theorem dL_areSums_146 : decode cL_areSums 146 = .ok (.invokevirtual 46, 3) := by decide +kernel
theorem dL_areSums_149 : decode cL_areSums 149 = .ok (.iadd, 1) := by decide +kernel
theorem dL_areSums_150 : decode cL_areSums 150 = .ok (.istore 6, 2) := by decide +kernel
theorem dL_areSums_152 : decode cL_areSums 152 = .ok (.aload_n 0, 1) := by decide +kernel
theorem dL_areSums_153 : decode cL_areSums 153 = .ok (.iload 11, 2) := by decide +kernel
theorem dL_areSums_155 : decode cL_areSums 155 = .ok (.bipush 8, 2) := by decide +kernel
theorem dL_areSums_157 : decode cL_areSums 157 = .ok (.invokevirtual 46, 3) := by decide +kernel
theorem dL_areSums_160 : decode cL_areSums 160 = .ok (.iload 9, 2) := by decide +kernel
theorem dL_areSums_162 : decode cL_areSums 162 = .ok (.if_icmp .le 14, 3) := by decide +kernel
theorem dL_areSums_165 : decode cL_areSums 165 = .ok (.aload_n 0, 1) := by decide +kernel
theorem dL_areSums_166 : decode cL_areSums 166 = .ok (.iload 11, 2) := by decide +kernel
theorem dL_areSums_168 : decode cL_areSums 168 = .ok (.bipush 8, 2) := by decide +kernel
theorem dL_areSums_170 : decode cL_areSums 170 = .ok (.invokevirtual 46, 3) := by decide +kernel
theorem dL_areSums_173 : decode cL_areSums 173 = .ok (.goto 5, 3) := by decide +kernel
theorem dL_areSums_176 : decode cL_areSums 176 = .ok (.iload 9, 2) := by decide +kernel
theorem dL_areSums_178 : decode cL_areSums 178 = .ok (.istore 9, 2) := by decide +kernel
theorem dL_areSums_180 : decode cL_areSums 180 = .ok (.iinc 11 1, 3) := by decide +kernel
theorem dL_areSums_183 : decode cL_areSums 183 = .ok (.goto (-153), 3) := by decide +kernel
theorem dL_areSums_186 : decode cL_areSums 186 = .ok (.iload 10, 2) := by decide +kernel
theorem dL_areSums_188 : decode cL_areSums 188 = .ok (.ifCond .eq 87, 3) := by decide +kernel
theorem dL_areSums_191 : decode cL_areSums 191 = .ok (.iload_n 1, 1) := by decide +kernel
theorem dL_areSums_192 : decode cL_areSums 192 = .ok (.aload_n 0, 1) := by decide +kernel
theorem dL_areSums_193 : decode cL_areSums 193 = .ok (.iconst 0, 1) := by decide +kernel
theorem dL_areSums_194 : decode cL_areSums 194 = .ok (.invokevirtual 37, 3) := by decide +kernel
theorem dL_areSums_197 : decode cL_areSums 197 = .ok (.if_icmp .ne 78, 3) := by decide +kernel
theorem dL_areSums_200 : decode cL_areSums 200 = .ok (.iload_n 2, 1) := by decide +kernel
theorem dL_areSums_201 : decode cL_areSums 201 = .ok (.aload_n 0, 1) := by decide +kernel
theorem dL_areSums_202 : decode cL_areSums 202 = .ok (.iconst 1, 1) := by decide +kernel
theorem dL_areSums_203 : decode cL_areSums 203 = .ok (.invokevirtual 37, 3) := by decide +kernel
theorem dL_areSums_206 : decode cL_areSums 206 = .ok (.if_icmp .ne 69, 3) := by decide +kernel
theorem dL_areSums_209 : decode cL_areSums 209 = .ok (.iload_n 3, 1) := by decide +kernel
theorem dL_areSums_210 : decode cL_areSums 210 = .ok (.aload_n 0, 1) := by decide +kernel
theorem dL_areSums_211 : decode cL_areSums 211 = .ok (.iconst 2, 1) := by decide +kernel
theorem dL_areSums_212 : decode cL_areSums 212 = .ok (.invokevirtual 37, 3) := by decide +kernel
theorem dL_areSums_215 : decode cL_areSums 215 = .ok (.if_icmp .ne 60, 3) := by decide +kernel
theorem dL_areSums_218 : decode cL_areSums 218 = .ok (.iload 4, 2) := by decide +kernel
theorem dL_areSums_220 : decode cL_areSums 220 = .ok (.aload_n 0, 1) := by decide +kernel
theorem dL_areSums_221 : decode cL_areSums 221 = .ok (.iconst 3, 1) := by decide +kernel
theorem dL_areSums_222 : decode cL_areSums 222 = .ok (.invokevirtual 37, 3) := by decide +kernel
theorem dL_areSums_225 : decode cL_areSums 225 = .ok (.if_icmp .ne 50, 3) := by decide +kernel
theorem dL_areSums_228 : decode cL_areSums 228 = .ok (.iload 5, 2) := by decide +kernel
theorem dL_areSums_230 : decode cL_areSums 230 = .ok (.aload_n 0, 1) := by decide +kernel
theorem dL_areSums_231 : decode cL_areSums 231 = .ok (.iconst 4, 1) := by decide +kernel
theorem dL_areSums_232 : decode cL_areSums 232 = .ok (.invokevirtual 37, 3) := by decide +kernel
theorem dL_areSums_235 : decode cL_areSums 235 = .ok (.if_icmp .ne 40, 3) := by decide +kernel
theorem dL_areSums_238 : decode cL_areSums 238 = .ok (.iload 6, 2) := by decide +kernel
theorem dL_areSums_240 : decode cL_areSums 240 = .ok (.aload_n 0, 1) := by decide +kernel
theorem dL_areSums_241 : decode cL_areSums 241 = .ok (.bipush 6, 2) := by decide +kernel
theorem dL_areSums_243 : decode cL_areSums 243 = .ok (.invokevirtual 37, 3) := by decide +kernel
theorem dL_areSums_246 : decode cL_areSums 246 = .ok (.if_icmp .ne 29, 3) := by decide +kernel
theorem dL_areSums_249 : decode cL_areSums 249 = .ok (.iload 7, 2) := by decide +kernel
theorem dL_areSums_251 : decode cL_areSums 251 = .ok (.aload_n 0, 1) := by decide +kernel
theorem dL_areSums_252 : decode cL_areSums 252 = .ok (.bipush 7, 2) := by decide +kernel
theorem dL_areSums_254 : decode cL_areSums 254 = .ok (.invokevirtual 37, 3) := by decide +kernel
theorem dL_areSums_257 : decode cL_areSums 257 = .ok (.if_icmp .ne 18, 3) := by decide +kernel
theorem dL_areSums_260 : decode cL_areSums 260 = .ok (.iload 8, 2) := by decide +kernel
theorem dL_areSums_262 : decode cL_areSums 262 = .ok (.aload_n 0, 1) := by decide +kernel
theorem dL_areSums_263 : decode cL_areSums 263 = .ok (.bipush 8, 2) := by decide +kernel
theorem dL_areSums_265 : decode cL_areSums 265 = .ok (.invokevirtual 37, 3) := by decide +kernel
theorem dL_areSums_268 : decode cL_areSums 268 = .ok (.if_icmp .ne 7, 3) := by decide +kernel
theorem dL_areSums_271 : decode cL_areSums 271 = .ok (.iconst 1, 1) := by decide +kernel
theorem dL_areSums_272 : decode cL_areSums 272 = .ok (.goto 4, 3) := by decide +kernel
theorem dL_areSums_275 : decode cL_areSums 275 = .ok (.iconst 0, 1) := by decide +kernel
theorem dL_areSums_276 : decode cL_areSums 276 = .ok (.istore 10, 2) := by decide +kernel
theorem dL_areSums_278 : decode cL_areSums 278 = .ok (.iload 10, 2) := by decide +kernel
theorem dL_areSums_280 : decode cL_areSums 280 = .ok (.ifCond .eq 77, 3) := by decide +kernel
theorem dL_areSums_283 : decode cL_areSums 283 = .ok (.iload_n 3, 1) := by decide +kernel
theorem dL_areSums_284 : decode cL_areSums 284 = .ok (.iload 5, 2) := by decide +kernel
theorem dL_areSums_286 : decode cL_areSums 286 = .ok (.iadd, 1) := by decide +kernel
theorem dL_areSums_287 : decode cL_areSums 287 = .ok (.iconst 3, 1) := by decide +kernel
theorem dL_areSums_288 : decode cL_areSums 288 = .ok (.iload 8, 2) := by decide +kernel
theorem dL_areSums_290 : decode cL_areSums 290 = .ok (.imul, 1) := by decide +kernel
theorem dL_areSums_291 : decode cL_areSums 291 = .ok (.if_icmp .lt 66, 3) := by decide +kernel
theorem dL_areSums_294 : decode cL_areSums 294 = .ok (.iload_n 3, 1) := by decide +kernel
theorem dL_areSums_295 : decode cL_areSums 295 = .ok (.iload 5, 2) := by decide +kernel
theorem dL_areSums_297 : decode cL_areSums 297 = .ok (.iadd, 1) := by decide +kernel
theorem dL_areSums_298 : decode cL_areSums 298 = .ok (.iconst 3, 1) := by decide +kernel
theorem dL_areSums_299 : decode cL_areSums 299 = .ok (.iload 8, 2) := by decide +kernel
theorem dL_areSums_301 : decode cL_areSums 301 = .ok (.aload_n 0, 1) := by decide +kernel
theorem dL_areSums_302 : decode cL_areSums 302 = .ok (.bipush 9, 2) := by decide +kernel
theorem dL_areSums_304 : decode cL_areSums 304 = .ok (.invokevirtual 37, 3) := by decide +kernel
theorem dL_areSums_307 : decode cL_areSums 307 = .ok (.iadd, 1) := by decide +kernel
theorem dL_areSums_308 : decode cL_areSums 308 = .ok (.imul, 1) := by decide +kernel
theorem dL_areSums_309 : decode cL_areSums 309 = .ok (.if_icmp .gt 48, 3) := by decide +kernel
theorem dL_areSums_312 : decode cL_areSums 312 = .ok (.iload_n 3, 1) := by decide +kernel
theorem dL_areSums_313 : decode cL_areSums 313 = .ok (.iload 5, 2) := by decide +kernel
theorem dL_areSums_315 : decode cL_areSums 315 = .ok (.iadd, 1) := by decide +kernel
theorem dL_areSums_316 : decode cL_areSums 316 = .ok (.iconst 3, 1) := by decide +kernel
theorem dL_areSums_317 : decode cL_areSums 317 = .ok (.irem, 1) := by decide +kernel
theorem dL_areSums_318 : decode cL_areSums 318 = .ok (.ifCond .ne 39, 3) := by decide +kernel
theorem dL_areSums_321 : decode cL_areSums 321 = .ok (.iload 9, 2) := by decide +kernel
theorem dL_areSums_323 : decode cL_areSums 323 = .ok (.ifCond .ne 15, 3) := by decide +kernel
theorem dL_areSums_326 : decode cL_areSums 326 = .ok (.aload_n 0, 1) := by decide +kernel
theorem dL_areSums_327 : decode cL_areSums 327 = .ok (.invokevirtual 33, 3) := by decide +kernel
theorem dL_areSums_330 : decode cL_areSums 330 = .ok (.bipush (-5), 2) := by decide +kernel
theorem dL_areSums_332 : decode cL_areSums 332 = .ok (.if_icmp .ne 25, 3) := by decide +kernel
theorem dL_areSums_335 : decode cL_areSums 335 = .ok (.goto 18, 3) := by decide +kernel
theorem dL_areSums_338 : decode cL_areSums 338 = .ok (.aload_n 0, 1) := by decide +kernel
theorem dL_areSums_339 : decode cL_areSums 339 = .ok (.aload_n 0, 1) := by decide +kernel
theorem dL_areSums_340 : decode cL_areSums 340 = .ok (.invokevirtual 33, 3) := by decide +kernel
theorem dL_areSums_343 : decode cL_areSums 343 = .ok (.bipush 8, 2) := by decide +kernel
theorem dL_areSums_345 : decode cL_areSums 345 = .ok (.invokevirtual 46, 3) := by decide +kernel
theorem dL_areSums_348 : decode cL_areSums 348 = .ok (.iload 9, 2) := by decide +kernel
theorem dL_areSums_350 : decode cL_areSums 350 = .ok (.if_icmp .ne 7, 3) := by decide +kernel
theorem dL_areSums_353 : decode cL_areSums 353 = .ok (.iconst 1, 1) := by decide +kernel
theorem dL_areSums_354 : decode cL_areSums 354 = .ok (.goto 4, 3) := by decide +kernel
theorem dL_areSums_357 : decode cL_areSums 357 = .ok (.iconst 0, 1) := by decide +kernel
theorem dL_areSums_358 : decode cL_areSums 358 = .ok (.ireturn, 1) := by decide +kernel
theorem dL_isLineSo_0 : decode cL_isLineSo 0 = .ok (.aload_n 0, 1) := by decide +kernel
theorem dL_isLineSo_1 : decode cL_isLineSo 1 = .ok (.iload_n 1, 1) := by decide +kernel
theorem dL_isLineSo_2 : decode cL_isLineSo 2 = .ok (.iconst 2, 1) := by decide +kernel
theorem dL_isLineSo_3 : decode cL_isLineSo 3 = .ok (.invokevirtual 49, 3) := by decide +kernel
theorem dL_isLineSo_6 : decode cL_isLineSo 6 = .ok (.istore_n 3, 1) := by decide +kernel
theorem dL_isLineSo_7 : decode cL_isLineSo 7 = .ok (.aload_n 0, 1) := by decide +kernel
theorem dL_isLineSo_8 : decode cL_isLineSo 8 = .ok (.iload_n 1, 1) := by decide +kernel
theorem dL_isLineSo_9 : decode cL_isLineSo 9 = .ok (.iconst 3, 1) := by decide +kernel
theorem dL_isLineSo_10 : decode cL_isLineSo 10 = .ok (.invokevirtual 49, 3) := by decide +kernel
theorem dL_isLineSo_13 : decode cL_isLineSo 13 = .ok (.istore 4, 2) := by decide +kernel
theorem dL_isLineSo_15 : decode cL_isLineSo 15 = .ok (.iconst 0, 1) := by decide +kernel
theorem dL_isLineSo_16 : decode cL_isLineSo 16 = .ok (.istore 5, 2) := by decide +kernel
theorem dL_isLineSo_18 : decode cL_isLineSo 18 = .ok (.iconst 0, 1) := by decide +kernel
theorem dL_isLineSo_19 : decode cL_isLineSo 19 = .ok (.istore 6, 2) := by decide +kernel
theorem dL_isLineSo_21 : decode cL_isLineSo 21 = .ok (.iload_n 3, 1) := by decide +kernel
theorem dL_isLineSo_22 : decode cL_isLineSo 22 = .ok (.iload 4, 2) := by decide +kernel
theorem dL_isLineSo_24 : decode cL_isLineSo 24 = .ok (.iconst (-1), 1) := by decide +kernel
theorem dL_isLineSo_25 : decode cL_isLineSo 25 = .ok (.ixor, 1) := by decide +kernel
theorem dL_isLineSo_26 : decode cL_isLineSo 26 = .ok (.iand, 1) := by decide +kernel
theorem dL_isLineSo_27 : decode cL_isLineSo 27 = .ok (.ifCond .ne 38, 3) := by decide +kernel
theorem dL_isLineSo_30 : decode cL_isLineSo 30 = .ok (.aload_n 0, 1) := by decide +kernel
theorem dL_isLineSo_31 : decode cL_isLineSo 31 = .ok (.iload_n 1, 1) := by decide +kernel
theorem dL_isLineSo_32 : decode cL_isLineSo 32 = .ok (.iconst 4, 1) := by decide +kernel
theorem dL_isLineSo_33 : decode cL_isLineSo 33 = .ok (.invokevirtual 49, 3) := by decide +kernel
theorem dL_isLineSo_36 : decode cL_isLineSo 36 = .ok (.iload_n 1, 1) := by decide +kernel
theorem dL_isLineSo_37 : decode cL_isLineSo 37 = .ok (.bipush 24, 2) := by decide +kernel
theorem dL_isLineSo_39 : decode cL_isLineSo 39 = .ok (.irem, 1) := by decide +kernel
theorem dL_isLineSo_40 : decode cL_isLineSo 40 = .ok (.if_icmp .ne 25, 3) := by decide +kernel
theorem dL_isLineSo_43 : decode cL_isLineSo 43 = .ok (.aload_n 0, 1) := by decide +kernel
theorem dL_isLineSo_44 : decode cL_isLineSo 44 = .ok (.iload_n 1, 1) := by decide +kernel
theorem dL_isLineSo_45 : decode cL_isLineSo 45 = .ok (.iconst 5, 1) := by decide +kernel
theorem dL_isLineSo_46 : decode cL_isLineSo 46 = .ok (.invokevirtual 49, 3) := by decide +kernel
theorem dL_isLineSo_49 : decode cL_isLineSo 49 = .ok (.bipush 7, 2) := by decide +kernel
theorem dL_isLineSo_51 : decode cL_isLineSo 51 = .ok (.iload_n 1, 1) := by decide +kernel
theorem dL_isLineSo_52 : decode cL_isLineSo 52 = .ok (.imul, 1) := by decide +kernel
theorem dL_isLineSo_53 : decode cL_isLineSo 53 = .ok (.iconst 5, 1) := by decide +kernel
theorem dL_isLineSo_54 : decode cL_isLineSo 54 = .ok (.iadd, 1) := by decide +kernel
theorem dL_isLineSo_55 : decode cL_isLineSo 55 = .ok (.bipush 24, 2) := by decide +kernel
theorem dL_isLineSo_57 : decode cL_isLineSo 57 = .ok (.irem, 1) := by decide +kernel
theorem dL_isLineSo_58 : decode cL_isLineSo 58 = .ok (.if_icmp .ne 7, 3) := by decide +kernel
theorem dL_isLineSo_61 : decode cL_isLineSo 61 = .ok (.iconst 1, 1) := by decide +kernel
theorem dL_isLineSo_62 : decode cL_isLineSo 62 = .ok (.goto 4, 3) := by decide +kernel
theorem dL_isLineSo_65 : decode cL_isLineSo 65 = .ok (.iconst 0, 1) := by decide +kernel
theorem dL_isLineSo_66 : decode cL_isLineSo 66 = .ok (.istore 7, 2) := by decide +kernel
theorem dL_isLineSo_68 : decode cL_isLineSo 68 = .ok (.iconst 0, 1) := by decide +kernel
theorem dL_isLineSo_69 : decode cL_isLineSo 69 = .ok (.istore 8, 2) := by decide +kernel
theorem dL_isLineSo_71 : decode cL_isLineSo 71 = .ok (.iload 8, 2) := by decide +kernel
theorem dL_isLineSo_73 : decode cL_isLineSo 73 = .ok (.iconst 4, 1) := by decide +kernel
theorem dL_isLineSo_74 : decode cL_isLineSo 74 = .ok (.if_icmp .ge 204, 3) := by decide +kernel
theorem dL_isLineSo_77 : decode cL_isLineSo 77 = .ok (.aload_n 0, 1) := by decide +kernel
theorem dL_isLineSo_78 : decode cL_isLineSo 78 = .ok (.iload 8, 2) := by decide +kernel
theorem dL_isLineSo_80 : decode cL_isLineSo 80 = .ok (.iload_n 1, 1) := by decide +kernel
theorem dL_isLineSo_81 : decode cL_isLineSo 81 = .ok (.invokevirtual 55, 3) := by decide +kernel
theorem dL_isLineSo_84 : decode cL_isLineSo 84 = .ok (.istore 9, 2) := by decide +kernel
theorem dL_isLineSo_86 : decode cL_isLineSo 86 = .ok (.iload 4, 2) := by decide +kernel
theorem dL_isLineSo_88 : decode cL_isLineSo 88 = .ok (.iload 8, 2) := by decide +kernel
theorem dL_isLineSo_90 : decode cL_isLineSo 90 = .ok (.ishr, 1) := by decide +kernel
theorem dL_isLineSo_91 : decode cL_isLineSo 91 = .ok (.iconst 1, 1) := by decide +kernel
theorem dL_isLineSo_92 : decode cL_isLineSo 92 = .ok (.iand, 1) := by decide +kernel
theorem dL_isLineSo_93 : decode cL_isLineSo 93 = .ok (.iconst 1, 1) := by decide +kernel
theorem dL_isLineSo_94 : decode cL_isLineSo 94 = .ok (.if_icmp .ne 7, 3) := by decide +kernel
theorem dL_isLineSo_97 : decode cL_isLineSo 97 = .ok (.iconst 1, 1) := by decide +kernel
theorem dL_isLineSo_98 : decode cL_isLineSo 98 = .ok (.goto 4, 3) := by decide +kernel
theorem dL_isLineSo_101 : decode cL_isLineSo 101 = .ok (.iconst 0, 1) := by decide +kernel
theorem dL_isLineSo_102 : decode cL_isLineSo 102 = .ok (.istore 10, 2) := by decide +kernel
theorem dL_isLineSo_104 : decode cL_isLineSo 104 = .ok (.iload 7, 2) := by decide +kernel
theorem dL_isLineSo_106 : decode cL_isLineSo 106 = .ok (.ifCond .eq 120, 3) := by decide +kernel
theorem dL_isLineSo_109 : decode cL_isLineSo 109 = .ok (.iload 9, 2) := by decide +kernel
theorem dL_isLineSo_111 : decode cL_isLineSo 111 = .ok (.iconst 2, 1) := by decide +kernel
theorem dL_isLineSo_112 : decode cL_isLineSo 112 = .ok (.if_icmp .ge 7, 3) := by decide +kernel
theorem dL_isLineSo_115 : decode cL_isLineSo 115 = .ok (.iconst 1, 1) := by decide +kernel
theorem dL_isLineSo_116 : decode cL_isLineSo 116 = .ok (.goto 4, 3) := by decide +kernel
theorem dL_isLineSo_119 : decode cL_isLineSo 119 = .ok (.iconst 0, 1) := by decide +kernel
theorem dL_isLineSo_120 : decode cL_isLineSo 120 = .ok (.iload 10, 2) := by decide +kernel
theorem dL_isLineSo_122 : decode cL_isLineSo 122 = .ok (.if_icmp .ne 104, 3) := by decide +kernel
theorem dL_isLineSo_125 : decode cL_isLineSo 125 = .ok (.iload 9, 2) := by decide +kernel
theorem dL_isLineSo_127 : decode cL_isLineSo 127 = .ok (.ifCond .ne 7, 3) := by decide +kernel
theorem dL_isLineSo_130 : decode cL_isLineSo 130 = .ok (.iconst 1, 1) := by decide +kernel
theorem dL_isLineSo_131 : decode cL_isLineSo 131 = .ok (.goto 4, 3) := by decide +kernel
theorem dL_isLineSo_134 : decode cL_isLineSo 134 = .ok (.iconst 0, 1) := by decide +kernel
theorem dL_isLineSo_135 : decode cL_isLineSo 135 = .ok (.iload_n 3, 1) := by decide +kernel
theorem dL_isLineSo_136 : decode cL_isLineSo 136 = .ok (.iload 8, 2) := by decide +kernel
theorem dL_isLineSo_138 : decode cL_isLineSo 138 = .ok (.ishr, 1) := by decide +kernel
theorem dL_isLineSo_139 : decode cL_isLineSo 139 = .ok (.iconst 1, 1) := by decide +kernel
theorem dL_isLineSo_140 : decode cL_isLineSo 140 = .ok (.iand, 1) := by decide +kernel
theorem dL_isLineSo_141 : decode cL_isLineSo 141 = .ok (.iconst 1, 1) := by decide +kernel
theorem dL_isLineSo_142 : decode cL_isLineSo 142 = .ok (.if_icmp .ne 7, 3) := by decide +kernel
theorem dL_isLineSo_145 : decode cL_isLineSo 145 = .ok (.iconst 1, 1) := by decide +kernel
theorem dL_isLineSo_146 : decode cL_isLineSo 146 = .ok (.goto 4, 3) := by decide +kernel
theorem dL_isLineSo_149 : decode cL_isLineSo 149 = .ok (.iconst 0, 1) := by decide +kernel
theorem dL_isLineSo_150 : decode cL_isLineSo 150 = .ok (.if_icmp .ne 76, 3) := by decide +kernel
theorem dL_isLineSo_153 : decode cL_isLineSo 153 = .ok (.iload 9, 2) := by decide +kernel
theorem dL_isLineSo_155 : decode cL_isLineSo 155 = .ok (.iconst 2, 1) := by decide +kernel
theorem dL_isLineSo_156 : decode cL_isLineSo 156 = .ok (.if_icmp .ne 7, 3) := by decide +kernel
theorem dL_isLineSo_159 : decode cL_isLineSo 159 = .ok (.iconst 1, 1) := by decide +kernel
theorem dL_isLineSo_160 : decode cL_isLineSo 160 = .ok (.goto 4, 3) := by decide +kernel
theorem dL_isLineSo_163 : decode cL_isLineSo 163 = .ok (.iconst 0, 1) := by decide +kernel
theorem dL_isLineSo_164 : decode cL_isLineSo 164 = .ok (.aload_n 0, 1) := by decide +kernel
theorem dL_isLineSo_165 : decode cL_isLineSo 165 = .ok (.iload 8, 2) := by decide +kernel
theorem dL_isLineSo_167 : decode cL_isLineSo 167 = .ok (.iload_n 1, 1) := by decide +kernel
theorem dL_isLineSo_168 : decode cL_isLineSo 168 = .ok (.bipush 16, 2) := by decide +kernel
theorem dL_isLineSo_170 : decode cL_isLineSo 170 = .ok (.idiv, 1) := by decide +kernel
theorem dL_isLineSo_171 : decode cL_isLineSo 171 = .ok (.invokevirtual 52, 3) := by decide +kernel
theorem dL_isLineSo_174 : decode cL_isLineSo 174 = .ok (.ifCond .ne 7, 3) := by decide +kernel
theorem dL_isLineSo_177 : decode cL_isLineSo 177 = .ok (.iconst 1, 1) := by decide +kernel
theorem dL_isLineSo_178 : decode cL_isLineSo 178 = .ok (.goto 4, 3) := by decide +kernel
theorem dL_isLineSo_181 : decode cL_isLineSo 181 = .ok (.iconst 0, 1) := by decide +kernel
theorem dL_isLineSo_182 : decode cL_isLineSo 182 = .ok (.if_icmp .ne 44, 3) := by decide +kernel
theorem dL_isLineSo_185 : decode cL_isLineSo 185 = .ok (.iload 9, 2) := by decide +kernel
theorem dL_isLineSo_187 : decode cL_isLineSo 187 = .ok (.iconst 3, 1) := by decide +kernel
theorem dL_isLineSo_188 : decode cL_isLineSo 188 = .ok (.if_icmp .ne 34, 3) := by decide +kernel
theorem dL_isLineSo_191 : decode cL_isLineSo 191 = .ok (.aload_n 0, 1) := by decide +kernel
theorem dL_isLineSo_192 : decode cL_isLineSo 192 = .ok (.iload 8, 2) := by decide +kernel
theorem dL_isLineSo_194 : decode cL_isLineSo 194 = .ok (.iload_n 1, 1) := by decide +kernel
theorem dL_isLineSo_195 : decode cL_isLineSo 195 = .ok (.bipush 24, 2) := by decide +kernel
theorem dL_isLineSo_197 : decode cL_isLineSo 197 = .ok (.irem, 1) := by decide +kernel
theorem dL_isLineSo_198 : decode cL_isLineSo 198 = .ok (.invokevirtual 43, 3) := by decide +kernel
theorem dL_isLineSo_201 : decode cL_isLineSo 201 = .ok (.ifCond .eq 21, 3) := by decide +kernel
theorem dL_isLineSo_204 : decode cL_isLineSo 204 = .ok (.aload_n 0, 1) := by decide +kernel
theorem dL_isLineSo_205 : decode cL_isLineSo 205 = .ok (.iload 8, 2) := by decide +kernel
theorem dL_isLineSo_207 : decode cL_isLineSo 207 = .ok (.bipush 7, 2) := by decide +kernel
theorem dL_isLineSo_209 : decode cL_isLineSo 209 = .ok (.iload_n 1, 1) := by decide +kernel
theorem dL_isLineSo_210 : decode cL_isLineSo 210 = .ok (.imul, 1) := by decide +kernel
theorem dL_isLineSo_211 : decode cL_isLineSo 211 = .ok (.iconst 5, 1) := by decide +kernel
theorem dL_isLineSo_212 : decode cL_isLineSo 212 = .ok (.iadd, 1) := by decide +kernel
theorem dL_isLineSo_213 : decode cL_isLineSo 213 = .ok (.bipush 24, 2) := by decide +kernel
theorem dL_isLineSo_215 : decode cL_isLineSo 215 = .ok (.irem, 1) := by decide +kernel
theorem dL_isLineSo_216 : decode cL_isLineSo 216 = .ok (.invokevirtual 43, 3) := by decide +kernel
theorem dL_isLineSo_219 : decode cL_isLineSo 219 = .ok (.ifCond .ne 7, 3) := by decide +kernel
theorem dL_isLineSo_222 : decode cL_isLineSo 222 = .ok (.iconst 1, 1) := by decide +kernel
theorem dL_isLineSo_223 : decode cL_isLineSo 223 = .ok (.goto 4, 3) := by decide +kernel
theorem dL_isLineSo_226 : decode cL_isLineSo 226 = .ok (.iconst 0, 1) := by decide +kernel
theorem dL_isLineSo_227 : decode cL_isLineSo 227 = .ok (.istore 7, 2) := by decide +kernel
theorem dL_isLineSo_229 : decode cL_isLineSo 229 = .ok (.iload 5, 2) := by decide +kernel
theorem dL_isLineSo_231 : decode cL_isLineSo 231 = .ok (.iload 10, 2) := by decide +kernel
theorem dL_isLineSo_233 : decode cL_isLineSo 233 = .ok (.ifCond .eq 13, 3) := by decide +kernel
theorem dL_isLineSo_236 : decode cL_isLineSo 236 = .ok (.iload 8, 2) := by decide +kernel
theorem dL_isLineSo_238 : decode cL_isLineSo 238 = .ok (.iload_n 2, 1) := by decide +kernel
theorem dL_isLineSo_239 : decode cL_isLineSo 239 = .ok (.if_icmp .eq 7, 3) := by decide +kernel
theorem dL_isLineSo_242 : decode cL_isLineSo 242 = .ok (.iconst 1, 1) := by decide +kernel
theorem dL_isLineSo_243 : decode cL_isLineSo 243 = .ok (.goto 4, 3) := by decide +kernel
theorem dL_isLineSo_246 : decode cL_isLineSo 246 = .ok (.iconst 0, 1) := by decide +kernel
theorem dL_isLineSo_247 : decode cL_isLineSo 247 = .ok (.iadd, 1) := by decide +kernel
theorem dL_isLineSo_248 : decode cL_isLineSo 248 = .ok (.istore 5, 2) := by decide +kernel
theorem dL_isLineSo_250 : decode cL_isLineSo 250 = .ok (.iload 6, 2) := by decide +kernel
theorem dL_isLineSo_252 : decode cL_isLineSo 252 = .ok (.iload 9, 2) := by decide +kernel
theorem dL_isLineSo_254 : decode cL_isLineSo 254 = .ok (.iconst 1, 1) := by decide +kernel
theorem dL_isLineSo_255 : decode cL_isLineSo 255 = .ok (.if_icmp .ne 13, 3) := by decide +kernel
theorem dL_isLineSo_258 : decode cL_isLineSo 258 = .ok (.iload 8, 2) := by decide +kernel
theorem dL_isLineSo_260 : decode cL_isLineSo 260 = .ok (.iload_n 2, 1) := by decide +kernel
theorem dL_isLineSo_261 : decode cL_isLineSo 261 = .ok (.if_icmp .eq 7, 3) := by decide +kernel
theorem dL_isLineSo_264 : decode cL_isLineSo 264 = .ok (.iconst 1, 1) := by decide +kernel
theorem dL_isLineSo_265 : decode cL_isLineSo 265 = .ok (.goto 4, 3) := by decide +kernel
theorem dL_isLineSo_268 : decode cL_isLineSo 268 = .ok (.iconst 0, 1) := by decide +kernel
theorem dL_isLineSo_269 : decode cL_isLineSo 269 = .ok (.iadd, 1) := by decide +kernel
theorem dL_isLineSo_270 : decode cL_isLineSo 270 = .ok (.istore 6, 2) := by decide +kernel
theorem dL_isLineSo_272 : decode cL_isLineSo 272 = .ok (.iinc 8 1, 3) := by decide +kernel
theorem dL_isLineSo_275 : decode cL_isLineSo 275 = .ok (.goto (-204), 3) := by decide +kernel
theorem dL_isLineSo_278 : decode cL_isLineSo 278 = .ok (.iload_n 3, 1) := by decide +kernel
theorem dL_isLineSo_279 : decode cL_isLineSo 279 = .ok (.iload_n 2, 1) := by decide +kernel
theorem dL_isLineSo_280 : decode cL_isLineSo 280 = .ok (.ishr, 1) := by decide +kernel
theorem dL_isLineSo_281 : decode cL_isLineSo 281 = .ok (.iconst 1, 1) := by decide +kernel
theorem dL_isLineSo_282 : decode cL_isLineSo 282 = .ok (.iand, 1) := by decide +kernel
theorem dL_isLineSo_283 : decode cL_isLineSo 283 = .ok (.iconst 1, 1) := by decide +kernel
theorem dL_isLineSo_284 : decode cL_isLineSo 284 = .ok (.if_icmp .ne 7, 3) := by decide +kernel
theorem dL_isLineSo_287 : decode cL_isLineSo 287 = .ok (.iconst 1, 1) := by decide +kernel
theorem dL_isLineSo_288 : decode cL_isLineSo 288 = .ok (.goto 4, 3) := by decide +kernel
theorem dL_isLineSo_291 : decode cL_isLineSo 291 = .ok (.iconst 0, 1) := by decide +kernel
theorem dL_isLineSo_292 : decode cL_isLineSo 292 = .ok (.istore 8, 2) := by decide +kernel
theorem dL_isLineSo_294 : decode cL_isLineSo 294 = .ok (.iload 8, 2) := by decide +kernel
theorem dL_isLineSo_296 : decode cL_isLineSo 296 = .ok (.ifCond .eq 21, 3) := by decide +kernel
theorem dL_isLineSo_299 : decode cL_isLineSo 299 = .ok (.aload_n 0, 1) := by decide +kernel
theorem dL_isLineSo_300 : decode cL_isLineSo 300 = .ok (.iload_n 2, 1) := by decide +kernel
theorem dL_isLineSo_301 : decode cL_isLineSo 301 = .ok (.iload_n 1, 1) := by decide +kernel
theorem dL_isLineSo_302 : decode cL_isLineSo 302 = .ok (.bipush 8, 2) := by decide +kernel
theorem dL_isLineSo_304 : decode cL_isLineSo 304 = .ok (.irem, 1) := by decide +kernel
theorem dL_isLineSo_305 : decode cL_isLineSo 305 = .ok (.iconst 2, 1) := by decide +kernel
theorem dL_isLineSo_306 : decode cL_isLineSo 306 = .ok (.invokevirtual 40, 3) := by decide +kernel
theorem dL_isLineSo_309 : decode cL_isLineSo 309 = .ok (.iconst 1, 1) := by decide +kernel
theorem dL_isLineSo_310 : decode cL_isLineSo 310 = .ok (.if_icmp .ne 7, 3) := by decide +kernel
theorem dL_isLineSo_313 : decode cL_isLineSo 313 = .ok (.iconst 1, 1) := by decide +kernel
theorem dL_isLineSo_314 : decode cL_isLineSo 314 = .ok (.goto 4, 3) := by decide +kernel
theorem dL_isLineSo_317 : decode cL_isLineSo 317 = .ok (.iconst 0, 1) := by decide +kernel
theorem dL_isLineSo_318 : decode cL_isLineSo 318 = .ok (.istore 9, 2) := by decide +kernel
theorem dL_isLineSo_320 : decode cL_isLineSo 320 = .ok (.iload 7, 2) := by decide +kernel
theorem dL_isLineSo_322 : decode cL_isLineSo 322 = .ok (.ifCond .eq 129, 3) := by decide +kernel
theorem dL_isLineSo_325 : decode cL_isLineSo 325 = .ok (.aload_n 0, 1) := by decide +kernel
theorem dL_isLineSo_326 : decode cL_isLineSo 326 = .ok (.iload_n 2, 1) := by decide +kernel
theorem dL_isLineSo_327 : decode cL_isLineSo 327 = .ok (.iload_n 1, 1) := by decide +kernel
theorem dL_isLineSo_328 : decode cL_isLineSo 328 = .ok (.iconst 0, 1) := by decide +kernel
theorem dL_isLineSo_329 : decode cL_isLineSo 329 = .ok (.iconst 0, 1) := by decide +kernel
theorem dL_isLineSo_330 : decode cL_isLineSo 330 = .ok (.invokevirtual 62, 3) := by decide +kernel
theorem dL_isLineSo_333 : decode cL_isLineSo 333 = .ok (.iload 8, 2) := by decide +kernel
theorem dL_isLineSo_335 : decode cL_isLineSo 335 = .ok (.ifCond .eq 7, 3) := by decide +kernel
theorem dL_isLineSo_338 : decode cL_isLineSo 338 = .ok (.iconst 0, 1) := by decide +kernel
theorem dL_isLineSo_339 : decode cL_isLineSo 339 = .ok (.goto 5, 3) := by decide +kernel
theorem dL_isLineSo_342 : decode cL_isLineSo 342 = .ok (.iload 5, 2) := by decide +kernel
theorem dL_isLineSo_344 : decode cL_isLineSo 344 = .ok (.if_icmp .ne 107, 3) := by decide +kernel
theorem dL_isLineSo_347 : decode cL_isLineSo 347 = .ok (.aload_n 0, 1) := by decide +kernel
theorem dL_isLineSo_348 : decode cL_isLineSo 348 = .ok (.iload_n 2, 1) := by decide +kernel
theorem dL_isLineSo_349 : decode cL_isLineSo 349 = .ok (.iload_n 1, 1) := by decide +kernel
theorem dL_isLineSo_350 : decode cL_isLineSo 350 = .ok (.iconst 0, 1) := by decide +kernel
theorem dL_isLineSo_351 : decode cL_isLineSo 351 = .ok (.iconst 1, 1) := by decide +kernel
theorem dL_isLineSo_352 : decode cL_isLineSo 352 = .ok (.invokevirtual 62, 3) := by decide +kernel
theorem dL_isLineSo_355 : decode cL_isLineSo 355 = .ok (.iload 8, 2) := by decide +kernel
theorem dL_isLineSo_357 : decode cL_isLineSo 357 = .ok (.ifCond .eq 7, 3) := by decide +kernel
theorem dL_isLineSo_360 : decode cL_isLineSo 360 = .ok (.iconst 0, 1) := by decide +kernel
theorem dL_isLineSo_361 : decode cL_isLineSo 361 = .ok (.goto 5, 3) := by decide +kernel
theorem dL_isLineSo_364 : decode cL_isLineSo 364 = .ok (.iload 6, 2) := by decide +kernel
theorem dL_isLineSo_366 : decode cL_isLineSo 366 = .ok (.if_icmp .ne 85, 3) := by decide +kernel
theorem dL_isLineSo_369 : decode cL_isLineSo 369 = .ok (.aload_n 0, 1) := by decide +kernel
theorem dL_isLineSo_370 : decode cL_isLineSo 370 = .ok (.iload_n 2, 1) := by decide +kernel
theorem dL_isLineSo_371 : decode cL_isLineSo 371 = .ok (.iload_n 1, 1) := by decide +kernel
theorem dL_isLineSo_372 : decode cL_isLineSo 372 = .ok (.iconst 1, 1) := by decide +kernel
theorem dL_isLineSo_373 : decode cL_isLineSo 373 = .ok (.iconst 0, 1) := by decide +kernel
theorem dL_isLineSo_374 : decode cL_isLineSo 374 = .ok (.invokevirtual 62, 3) := by decide +kernel
theorem dL_isLineSo_377 : decode cL_isLineSo 377 = .ok (.iload 9, 2) := by decide +kernel
theorem dL_isLineSo_379 : decode cL_isLineSo 379 = .ok (.ifCond .eq 7, 3) := by decide +kernel
theorem dL_isLineSo_382 : decode cL_isLineSo 382 = .ok (.iconst 0, 1) := by decide +kernel
theorem dL_isLineSo_383 : decode cL_isLineSo 383 = .ok (.goto 5, 3) := by decide +kernel
theorem dL_isLineSo_386 : decode cL_isLineSo 386 = .ok (.iload 5, 2) := by decide +kernel
theorem dL_isLineSo_388 : decode cL_isLineSo 388 = .ok (.if_icmp .ne 63, 3) := by decide +kernel
theorem dL_isLineSo_391 : decode cL_isLineSo 391 = .ok (.aload_n 0, 1) := by decide +kernel
theorem dL_isLineSo_392 : decode cL_isLineSo 392 = .ok (.iload_n 2, 1) := by decide +kernel
theorem dL_isLineSo_393 : decode cL_isLineSo 393 = .ok (.iload_n 1, 1) := by decide +kernel
theorem dL_isLineSo_394 : decode cL_isLineSo 394 = .ok (.iconst 1, 1) := by decide +kernel
theorem dL_isLineSo_395 : decode cL_isLineSo 395 = .ok (.iconst 1, 1) := by decide +kernel
theorem dL_isLineSo_396 : decode cL_isLineSo 396 = .ok (.invokevirtual 62, 3) := by decide +kernel
theorem dL_isLineSo_399 : decode cL_isLineSo 399 = .ok (.iload 9, 2) := by decide +kernel
theorem dL_isLineSo_401 : decode cL_isLineSo 401 = .ok (.ifCond .eq 7, 3) := by decide +kernel
theorem dL_isLineSo_404 : decode cL_isLineSo 404 = .ok (.iconst 0, 1) := by decide +kernel
theorem dL_isLineSo_405 : decode cL_isLineSo 405 = .ok (.goto 5, 3) := by decide +kernel
theorem dL_isLineSo_408 : decode cL_isLineSo 408 = .ok (.iload 6, 2) := by decide +kernel
theorem dL_isLineSo_410 : decode cL_isLineSo 410 = .ok (.if_icmp .ne 41, 3) := by decide +kernel
theorem dL_isLineSo_413 : decode cL_isLineSo 413 = .ok (.iload 8, 2) := by decide +kernel
theorem dL_isLineSo_415 : decode cL_isLineSo 415 = .ok (.ifCond .eq 32, 3) := by decide +kernel
theorem dL_isLineSo_418 : decode cL_isLineSo 418 = .ok (.aload_n 0, 1) := by decide +kernel
theorem dL_isLineSo_419 : decode cL_isLineSo 419 = .ok (.iload_n 2, 1) := by decide +kernel
theorem dL_isLineSo_420 : decode cL_isLineSo 420 = .ok (.iload_n 1, 1) := by decide +kernel
theorem dL_isLineSo_421 : decode cL_isLineSo 421 = .ok (.iconst 0, 1) := by decide +kernel
theorem dL_isLineSo_422 : decode cL_isLineSo 422 = .ok (.iconst 2, 1) := by decide +kernel
theorem dL_isLineSo_423 : decode cL_isLineSo 423 = .ok (.invokevirtual 62, 3) := by decide +kernel
theorem dL_isLineSo_426 : decode cL_isLineSo 426 = .ok (.aload_n 0, 1) := by decide +kernel
theorem dL_isLineSo_427 : decode cL_isLineSo 427 = .ok (.iload_n 2, 1) := by decide +kernel
theorem dL_isLineSo_428 : decode cL_isLineSo 428 = .ok (.iload_n 1, 1) := by decide +kernel
theorem dL_isLineSo_429 : decode cL_isLineSo 429 = .ok (.iconst 0, 1) := by decide +kernel
theorem dL_isLineSo_430 : decode cL_isLineSo 430 = .ok (.iconst 3, 1) := by decide +kernel
theorem dL_isLineSo_431 : decode cL_isLineSo 431 = .ok (.invokevirtual 62, 3) := by decide +kernel
theorem dL_isLineSo_434 : decode cL_isLineSo 434 = .ok (.iadd, 1) := by decide +kernel
theorem dL_isLineSo_435 : decode cL_isLineSo 435 = .ok (.aload_n 0, 1) := by decide +kernel
theorem dL_isLineSo_436 : decode cL_isLineSo 436 = .ok (.iload_n 2, 1) := by decide +kernel
theorem dL_isLineSo_437 : decode cL_isLineSo 437 = .ok (.iload_n 1, 1) := by decide +kernel
theorem dL_isLineSo_438 : decode cL_isLineSo 438 = .ok (.iconst 1, 1) := by decide +kernel
theorem dL_isLineSo_439 : decode cL_isLineSo 439 = .ok (.iconst 3, 1) := by decide +kernel
theorem dL_isLineSo_440 : decode cL_isLineSo 440 = .ok (.invokevirtual 62, 3) := by decide +kernel
theorem dL_isLineSo_443 : decode cL_isLineSo 443 = .ok (.iadd, 1) := by decide +kernel
theorem dL_isLineSo_444 : decode cL_isLineSo 444 = .ok (.ifCond .ne 7, 3) := by decide +kernel
theorem dL_isLineSo_447 : decode cL_isLineSo 447 = .ok (.iconst 1, 1) := by decide +kernel
theorem dL_isLineSo_448 : decode cL_isLineSo 448 = .ok (.goto 4, 3) := by decide +kernel
theorem dL_isLineSo_451 : decode cL_isLineSo 451 = .ok (.iconst 0, 1) := by decide +kernel
theorem dL_isLineSo_452 : decode cL_isLineSo 452 = .ok (.istore 7, 2) := by decide +kernel
theorem dL_isLineSo_454 : decode cL_isLineSo 454 = .ok (.aload_n 0, 1) := by decide +kernel
theorem dL_isLineSo_455 : decode cL_isLineSo 455 = .ok (.iload_n 1, 1) := by decide +kernel
theorem dL_isLineSo_456 : decode cL_isLineSo 456 = .ok (.iconst 1, 1) := by decide +kernel
theorem dL_isLineSo_457 : decode cL_isLineSo 457 = .ok (.invokevirtual 49, 3) := by decide +kernel
theorem dL_isLineSo_460 : decode cL_isLineSo 460 = .ok (.istore 10, 2) := by decide +kernel
theorem dL_isLineSo_462 : decode cL_isLineSo 462 = .ok (.aload_n 0, 1) := by decide +kernel
theorem dL_isLineSo_463 : decode cL_isLineSo 463 = .ok (.bipush 12, 2) := by decide +kernel
theorem dL_isLineSo_465 : decode cL_isLineSo 465 = .ok (.invokevirtual 37, 3) := by decide +kernel
theorem dL_isLineSo_468 : decode cL_isLineSo 468 = .ok (.istore 11, 2) := by decide +kernel
theorem dL_isLineSo_470 : decode cL_isLineSo 470 = .ok (.iload 7, 2) := by decide +kernel
theorem dL_isLineSo_472 : decode cL_isLineSo 472 = .ok (.ifCond .eq 47, 3) := by decide +kernel
theorem dL_isLineSo_475 : decode cL_isLineSo 475 = .ok (.aload_n 0, 1) := by decide +kernel
theorem dL_isLineSo_476 : decode cL_isLineSo 476 = .ok (.iload_n 2, 1) := by decide +kernel
theorem dL_isLineSo_477 : decode cL_isLineSo 477 = .ok (.iload_n 1, 1) := by decide +kernel
theorem dL_isLineSo_478 : decode cL_isLineSo 478 = .ok (.invokevirtual 14, 3) := by decide +kernel
theorem dL_isLineSo_481 : decode cL_isLineSo 481 = .ok (.iload 10, 2) := by decide +kernel
theorem dL_isLineSo_483 : decode cL_isLineSo 483 = .ok (.if_icmp .ne 36, 3) := by decide +kernel
theorem dL_isLineSo_486 : decode cL_isLineSo 486 = .ok (.aload_n 0, 1) := by decide +kernel
theorem dL_isLineSo_487 : decode cL_isLineSo 487 = .ok (.invokevirtual 66, 3) := by decide +kernel
theorem dL_isLineSo_490 : decode cL_isLineSo 490 = .ok (.iload 11, 2) := by decide +kernel
theorem dL_isLineSo_492 : decode cL_isLineSo 492 = .ok (.iconst 4, 1) := by decide +kernel
theorem dL_isLineSo_493 : decode cL_isLineSo 493 = .ok (.if_icmp .ne 7, 3) := by decide +kernel
theorem dL_isLineSo_496 : decode cL_isLineSo 496 = .ok (.iconst 3, 1) := by decide +kernel
theorem dL_isLineSo_497 : decode cL_isLineSo 497 = .ok (.goto 5, 3) := by decide +kernel
theorem dL_isLineSo_500 : decode cL_isLineSo 500 = .ok (.iload 11, 2) := by decide +kernel
theorem dL_isLineSo_502 : decode cL_isLineSo 502 = .ok (.if_icmp .ne 17, 3) := by decide +kernel
theorem dL_isLineSo_505 : decode cL_isLineSo 505 = .ok (.aload_n 0, 1) := by decide +kernel
theorem dL_isLineSo_506 : decode cL_isLineSo 506 = .ok (.iload_n 1, 1) := by decide +kernel
theorem dL_isLineSo_507 : decode cL_isLineSo 507 = .ok (.iconst 2, 1) := by decide +kernel
theorem dL_isLineSo_508 : decode cL_isLineSo 508 = .ok (.invokevirtual 49, 3) := by decide +kernel
theorem dL_isLineSo_511 : decode cL_isLineSo 511 = .ok (.iload_n 3, 1) := by decide +kernel
theorem dL_isLineSo_512 : decode cL_isLineSo 512 = .ok (.if_icmp .ne 7, 3) := by decide +kernel
theorem dL_isLineSo_515 : decode cL_isLineSo 515 = .ok (.iconst 1, 1) := by decide +kernel
theorem dL_isLineSo_516 : decode cL_isLineSo 516 = .ok (.goto 4, 3) := by decide +kernel
theorem dL_isLineSo_519 : decode cL_isLineSo 519 = .ok (.iconst 0, 1) := by decide +kernel
theorem dL_isLineSo_520 : decode cL_isLineSo 520 = .ok (.ireturn, 1) := by decide +kernel
theorem dL_law_0 : decode cL_law 0 = .ok (.new 15, 3) := by decide +kernel
theorem dL_law_3 : decode cL_law 3 = .ok (.dup, 1) := by decide +kernel
theorem dL_law_4 : decode cL_law 4 = .ok (.invokespecial 69, 3) := by decide +kernel
theorem dL_law_7 : decode cL_law 7 = .ok (.astore_n 1, 1) := by decide +kernel
theorem dL_law_8 : decode cL_law 8 = .ok (.new 15, 3) := by decide +kernel
theorem dL_law_11 : decode cL_law 11 = .ok (.dup, 1) := by decide +kernel
theorem dL_law_12 : decode cL_law 12 = .ok (.invokespecial 69, 3) := by decide +kernel
theorem dL_law_15 : decode cL_law 15 = .ok (.astore_n 2, 1) := by decide +kernel
theorem dL_law_16 : decode cL_law 16 = .ok (.iconst 0, 1) := by decide +kernel
theorem dL_law_17 : decode cL_law 17 = .ok (.istore_n 3, 1) := by decide +kernel
theorem dL_law_18 : decode cL_law 18 = .ok (.iload_n 3, 1) := by decide +kernel
theorem dL_law_19 : decode cL_law 19 = .ok (.bipush 50, 2) := by decide +kernel
theorem dL_law_21 : decode cL_law 21 = .ok (.if_icmp .ge 196, 3) := by decide +kernel
theorem dL_law_24 : decode cL_law 24 = .ok (.aload_n 0, 1) := by decide +kernel
theorem dL_law_25 : decode cL_law 25 = .ok (.iload_n 3, 1) := by decide +kernel
theorem dL_law_26 : decode cL_law 26 = .ok (.invokestatic 70, 3) := by decide +kernel
theorem dL_law_29 : decode cL_law 29 = .ok (.istore 4, 2) := by decide +kernel
theorem dL_law_31 : decode cL_law 31 = .ok (.aload_n 1, 1) := by decide +kernel
theorem dL_law_32 : decode cL_law 32 = .ok (.bipush 12, 2) := by decide +kernel
theorem dL_law_34 : decode cL_law 34 = .ok (.invokevirtual 37, 3) := by decide +kernel
theorem dL_law_37 : decode cL_law 37 = .ok (.istore 5, 2) := by decide +kernel
theorem dL_law_39 : decode cL_law 39 = .ok (.aload_n 1, 1) := by decide +kernel
theorem dL_law_40 : decode cL_law 40 = .ok (.iload 4, 2) := by decide +kernel
theorem dL_law_42 : decode cL_law 42 = .ok (.invokestatic 74, 3) := by decide +kernel
theorem dL_law_45 : decode cL_law 45 = .ok (.istore 6, 2) := by decide +kernel
theorem dL_law_47 : decode cL_law 47 = .ok (.iload 6, 2) := by decide +kernel
theorem dL_law_49 : decode cL_law 49 = .ok (.ifCond .ge 24, 3) := by decide +kernel
theorem dL_law_52 : decode cL_law 52 = .ok (.aload_n 1, 1) := by decide +kernel
theorem dL_law_53 : decode cL_law 53 = .ok (.aload_n 2, 1) := by decide +kernel
theorem dL_law_54 : decode cL_law 54 = .ok (.invokestatic 78, 3) := by decide +kernel
theorem dL_law_57 : decode cL_law 57 = .ok (.ifCond .eq 14, 3) := by decide +kernel
theorem dL_law_60 : decode cL_law 60 = .ok (.aload_n 1, 1) := by decide +kernel
theorem dL_law_61 : decode cL_law 61 = .ok (.bipush 12, 2) := by decide +kernel
theorem dL_law_63 : decode cL_law 63 = .ok (.invokevirtual 37, 3) := by decide +kernel
theorem dL_law_66 : decode cL_law 66 = .ok (.iload 5, 2) := by decide +kernel
theorem dL_law_68 : decode cL_law 68 = .ok (.if_icmp .eq 5, 3) := by decide +kernel
theorem dL_law_71 : decode cL_law 71 = .ok (.iconst 0, 1) := by decide +kernel
theorem dL_law_72 : decode cL_law 72 = .ok (.ireturn, 1) := by decide +kernel
theorem dL_law_73 : decode cL_law 73 = .ok (.iload 6, 2) := by decide +kernel
theorem dL_law_75 : decode cL_law 75 = .ok (.ifCond .lt 57, 3) := by decide +kernel
theorem dL_law_78 : decode cL_law 78 = .ok (.iload 4, 2) := by decide +kernel
theorem dL_law_80 : decode cL_law 80 = .ok (.bipush 9, 2) := by decide +kernel
theorem dL_law_82 : decode cL_law 82 = .ok (.ishr, 1) := by decide +kernel
theorem dL_law_83 : decode cL_law 83 = .ok (.iconst 1, 1) := by decide +kernel
theorem dL_law_84 : decode cL_law 84 = .ok (.iand, 1) := by decide +kernel
theorem dL_law_85 : decode cL_law 85 = .ok (.ifCond .ne 47, 3) := by decide +kernel
theorem dL_law_88 : decode cL_law 88 = .ok (.aload_n 1, 1) := by decide +kernel
theorem dL_law_89 : decode cL_law 89 = .ok (.invokevirtual 66, 3) := by decide +kernel
theorem dL_law_92 : decode cL_law 92 = .ok (.istore 7, 2) := by decide +kernel
theorem dL_law_94 : decode cL_law 94 = .ok (.iload 7, 2) := by decide +kernel
theorem dL_law_96 : decode cL_law 96 = .ok (.iload 5, 2) := by decide +kernel
theorem dL_law_98 : decode cL_law 98 = .ok (.iconst 4, 1) := by decide +kernel
theorem dL_law_99 : decode cL_law 99 = .ok (.if_icmp .ne 7, 3) := by decide +kernel
theorem dL_law_102 : decode cL_law 102 = .ok (.iconst 3, 1) := by decide +kernel
theorem dL_law_103 : decode cL_law 103 = .ok (.goto 5, 3) := by decide +kernel
theorem dL_law_106 : decode cL_law 106 = .ok (.iload 5, 2) := by decide +kernel
theorem dL_law_108 : decode cL_law 108 = .ok (.if_icmp .ne 22, 3) := by decide +kernel
theorem dL_law_111 : decode cL_law 111 = .ok (.aload_n 1, 1) := by decide +kernel
theorem dL_law_112 : decode cL_law 112 = .ok (.aload_n 2, 1) := by decide +kernel
theorem dL_law_113 : decode cL_law 113 = .ok (.invokestatic 78, 3) := by decide +kernel
theorem dL_law_116 : decode cL_law 116 = .ok (.ifCond .eq 14, 3) := by decide +kernel
theorem dL_law_119 : decode cL_law 119 = .ok (.aload_n 1, 1) := by decide +kernel
theorem dL_law_120 : decode cL_law 120 = .ok (.iload 4, 2) := by decide +kernel
theorem dL_law_122 : decode cL_law 122 = .ok (.invokestatic 74, 3) := by decide +kernel
theorem dL_law_125 : decode cL_law 125 = .ok (.iload 6, 2) := by decide +kernel
theorem dL_law_127 : decode cL_law 127 = .ok (.if_icmp .eq 5, 3) := by decide +kernel
theorem dL_law_130 : decode cL_law 130 = .ok (.iconst 0, 1) := by decide +kernel
theorem dL_law_131 : decode cL_law 131 = .ok (.ireturn, 1) := by decide +kernel
theorem dL_law_132 : decode cL_law 132 = .ok (.aload_n 2, 1) := by decide +kernel
theorem dL_law_133 : decode cL_law 133 = .ok (.iload 4, 2) := by decide +kernel
theorem dL_law_135 : decode cL_law 135 = .ok (.invokestatic 74, 3) := by decide +kernel
theorem dL_law_138 : decode cL_law 138 = .ok (.iload 6, 2) := by decide +kernel
theorem dL_law_140 : decode cL_law 140 = .ok (.if_icmp .ne 11, 3) := by decide +kernel
theorem dL_law_143 : decode cL_law 143 = .ok (.aload_n 1, 1) := by decide +kernel
theorem dL_law_144 : decode cL_law 144 = .ok (.aload_n 2, 1) := by decide +kernel
theorem dL_law_145 : decode cL_law 145 = .ok (.invokestatic 78, 3) := by decide +kernel
theorem dL_law_148 : decode cL_law 148 = .ok (.ifCond .ne 5, 3) := by decide +kernel
theorem dL_law_151 : decode cL_law 151 = .ok (.iconst 0, 1) := by decide +kernel
theorem dL_law_152 : decode cL_law 152 = .ok (.ireturn, 1) := by decide +kernel
theorem dL_law_153 : decode cL_law 153 = .ok (.iload_n 3, 1) := by decide +kernel
theorem dL_law_154 : decode cL_law 154 = .ok (.iconst 3, 1) := by decide +kernel
theorem dL_law_155 : decode cL_law 155 = .ok (.irem, 1) := by decide +kernel
theorem dL_law_156 : decode cL_law 156 = .ok (.iconst 2, 1) := by decide +kernel
theorem dL_law_157 : decode cL_law 157 = .ok (.if_icmp .ne 54, 3) := by decide +kernel
theorem dL_law_160 : decode cL_law 160 = .ok (.aload_n 1, 1) := by decide +kernel
theorem dL_law_161 : decode cL_law 161 = .ok (.invokestatic 82, 3) := by decide +kernel
theorem dL_law_164 : decode cL_law 164 = .ok (.ifCond .eq 45, 3) := by decide +kernel
theorem dL_law_167 : decode cL_law 167 = .ok (.aload_n 1, 1) := by decide +kernel
theorem dL_law_168 : decode cL_law 168 = .ok (.iload 4, 2) := by decide +kernel
theorem dL_law_170 : decode cL_law 170 = .ok (.bipush 7, 2) := by decide +kernel
theorem dL_law_172 : decode cL_law 172 = .ok (.ishr, 1) := by decide +kernel
theorem dL_law_173 : decode cL_law 173 = .ok (.iload 4, 2) := by decide +kernel
theorem dL_law_175 : decode cL_law 175 = .ok (.iconst 4, 1) := by decide +kernel
theorem dL_law_176 : decode cL_law 176 = .ok (.ishr, 1) := by decide +kernel
theorem dL_law_177 : decode cL_law 177 = .ok (.iconst 2, 1) := by decide +kernel
theorem dL_law_178 : decode cL_law 178 = .ok (.invokestatic 8, 3) := by decide +kernel
theorem dL_law_181 : decode cL_law 181 = .ok (.ifCond .ne 9, 3) := by decide +kernel
theorem dL_law_184 : decode cL_law 184 = .ok (.sipush 256, 3) := by decide +kernel
theorem dL_law_187 : decode cL_law 187 = .ok (.goto 5, 3) := by decide +kernel
theorem dL_law_190 : decode cL_law 190 = .ok (.bipush 14, 2) := by decide +kernel
theorem dL_law_192 : decode cL_law 192 = .ok (.invokestatic 8, 3) := by decide +kernel
theorem dL_law_195 : decode cL_law 195 = .ok (.iload 4, 2) := by decide +kernel
theorem dL_law_197 : decode cL_law 197 = .ok (.iconst 5, 1) := by decide +kernel
theorem dL_law_198 : decode cL_law 198 = .ok (.ishr, 1) := by decide +kernel
theorem dL_law_199 : decode cL_law 199 = .ok (.iconst 4, 1) := by decide +kernel
theorem dL_law_200 : decode cL_law 200 = .ok (.invokestatic 8, 3) := by decide +kernel
theorem dL_law_203 : decode cL_law 203 = .ok (.invokestatic 86, 3) := by decide +kernel
theorem dL_law_206 : decode cL_law 206 = .ok (.ifCond .ne 5, 3) := by decide +kernel
theorem dL_law_209 : decode cL_law 209 = .ok (.iconst 0, 1) := by decide +kernel
theorem dL_law_210 : decode cL_law 210 = .ok (.ireturn, 1) := by decide +kernel
theorem dL_law_211 : decode cL_law 211 = .ok (.iinc 3 1, 3) := by decide +kernel
theorem dL_law_214 : decode cL_law 214 = .ok (.goto (-196), 3) := by decide +kernel
theorem dL_law_217 : decode cL_law 217 = .ok (.aload_n 1, 1) := by decide +kernel
theorem dL_law_218 : decode cL_law 218 = .ok (.invokestatic 82, 3) := by decide +kernel
theorem dL_law_221 : decode cL_law 221 = .ok (.ireturn, 1) := by decide +kernel
