theorem dX8_takesE_2 : decode cX8_takesE 2 = .ok (.putfield 65, 3) := by decide +kernel
theorem dX8_takesE_5 : decode cX8_takesE 5 = .ok (.aload_n 0, 1) := by decide +kernel
theorem dX8_takesE_6 : decode cX8_takesE 6 = .ok (.iconst 0, 1) := by decide +kernel
theorem dX8_takesE_7 : decode cX8_takesE 7 = .ok (.putfield 68, 3) := by decide +kernel
theorem dX8_takesE_10 : decode cX8_takesE 10 = .ok (.aload_n 0, 1) := by decide +kernel
theorem dX8_takesE_11 : decode cX8_takesE 11 = .ok (.getfield 50, 3) := by decide +kernel
theorem dX8_takesE_14 : decode cX8_takesE 14 = .ok (.iload_n 1, 1) := by decide +kernel
theorem dX8_takesE_15 : decode cX8_takesE 15 = .ok (.aload_n 0, 1) := by decide +kernel
theorem dX8_takesE_16 : decode cX8_takesE 16 = .ok (.getfield 62, 3) := by decide +kernel
theorem dX8_takesE_19 : decode cX8_takesE 19 = .ok (.iastore, 1) := by decide +kernel
theorem dX8_takesE_20 : decode cX8_takesE 20 = .ok (.iconst 1, 1) := by decide +kernel
theorem dX8_takesE_21 : decode cX8_takesE 21 = .ok (.istore_n 2, 1) := by decide +kernel
theorem dX8_takesE_22 : decode cX8_takesE 22 = .ok (.aload_n 0, 1) := by decide +kernel
theorem dX8_takesE_23 : decode cX8_takesE 23 = .ok (.invokevirtual 197, 3) := by decide +kernel
theorem dX8_takesE_26 : decode cX8_takesE 26 = .ok (.istore_n 3, 1) := by decide +kernel
theorem dX8_takesE_27 : decode cX8_takesE 27 = .ok (.iload_n 2, 1) := by decide +kernel
theorem dX8_takesE_28 : decode cX8_takesE 28 = .ok (.ifCond .eq 82, 3) := by decide +kernel
theorem dX8_takesE_31 : decode cX8_takesE 31 = .ok (.iload_n 3, 1) := by decide +kernel
theorem dX8_takesE_32 : decode cX8_takesE 32 = .ok (.bipush 33, 2) := by decide +kernel
theorem dX8_takesE_34 : decode cX8_takesE 34 = .ok (.if_icmp .eq 9, 3) := by decide +kernel
theorem dX8_takesE_37 : decode cX8_takesE 37 = .ok (.iload_n 3, 1) := by decide +kernel
theorem dX8_takesE_38 : decode cX8_takesE 38 = .ok (.bipush 40, 2) := by decide +kernel
theorem dX8_takesE_40 : decode cX8_takesE 40 = .ok (.if_icmp .ne 56, 3) := by decide +kernel
theorem dX8_takesE_43 : decode cX8_takesE 43 = .ok (.aload_n 0, 1) := by decide +kernel
theorem dX8_takesE_44 : decode cX8_takesE 44 = .ok (.getfield 68, 3) := by decide +kernel
theorem dX8_takesE_47 : decode cX8_takesE 47 = .ok (.iconst 4, 1) := by decide +kernel
theorem dX8_takesE_48 : decode cX8_takesE 48 = .ok (.if_icmp .ne 5, 3) := by decide +kernel
theorem dX8_takesE_51 : decode cX8_takesE 51 = .ok (.iconst 0, 1) := by decide +kernel
theorem dX8_takesE_52 : decode cX8_takesE 52 = .ok (.ireturn, 1) := by decide +kernel
theorem dX8_takesE_53 : decode cX8_takesE 53 = .ok (.aload_n 0, 1) := by decide +kernel
theorem dX8_takesE_54 : decode cX8_takesE 54 = .ok (.dup, 1) := by decide +kernel
theorem dX8_takesE_55 : decode cX8_takesE 55 = .ok (.getfield 68, 3) := by decide +kernel
theorem dX8_takesE_58 : decode cX8_takesE 58 = .ok (.iconst 1, 1) := by decide +kernel
theorem dX8_takesE_59 : decode cX8_takesE 59 = .ok (.iadd, 1) := by decide +kernel
theorem dX8_takesE_60 : decode cX8_takesE 60 = .ok (.putfield 68, 3) := by decide +kernel
theorem dX8_takesE_63 : decode cX8_takesE 63 = .ok (.aload_n 0, 1) := by decide +kernel
theorem dX8_takesE_64 : decode cX8_takesE 64 = .ok (.getfield 59, 3) := by decide +kernel
theorem dX8_takesE_67 : decode cX8_takesE 67 = .ok (.aload_n 0, 1) := by decide +kernel
theorem dX8_takesE_68 : decode cX8_takesE 68 = .ok (.getfield 65, 3) := by decide +kernel
theorem dX8_takesE_71 : decode cX8_takesE 71 = .ok (.iload_n 3, 1) := by decide +kernel
theorem dX8_takesE_72 : decode cX8_takesE 72 = .ok (.iastore, 1) := by decide +kernel
theorem dX8_takesE_73 : decode cX8_takesE 73 = .ok (.aload_n 0, 1) := by decide +kernel
theorem dX8_takesE_74 : decode cX8_takesE 74 = .ok (.dup, 1) := by decide +kernel
theorem dX8_takesE_75 : decode cX8_takesE 75 = .ok (.getfield 65, 3) := by decide +kernel
theorem dX8_takesE_78 : decode cX8_takesE 78 = .ok (.iconst 1, 1) := by decide +kernel
theorem dX8_takesE_79 : decode cX8_takesE 79 = .ok (.iadd, 1) := by decide +kernel
theorem dX8_takesE_80 : decode cX8_takesE 80 = .ok (.putfield 65, 3) := by decide +kernel
theorem dX8_takesE_83 : decode cX8_takesE 83 = .ok (.aload_n 0, 1) := by decide +kernel
theorem dX8_takesE_84 : decode cX8_takesE 84 = .ok (.dup, 1) := by decide +kernel
theorem dX8_takesE_85 : decode cX8_takesE 85 = .ok (.getfield 32, 3) := by decide +kernel
theorem dX8_takesE_88 : decode cX8_takesE 88 = .ok (.iconst 1, 1) := by decide +kernel
theorem dX8_takesE_89 : decode cX8_takesE 89 = .ok (.iadd, 1) := by decide +kernel
theorem dX8_takesE_90 : decode cX8_takesE 90 = .ok (.putfield 32, 3) := by decide +kernel
theorem dX8_takesE_93 : decode cX8_takesE 93 = .ok (.goto (-71), 3) := by decide +kernel
theorem dX8_takesE_96 : decode cX8_takesE 96 = .ok (.aload_n 0, 1) := by decide +kernel
theorem dX8_takesE_97 : decode cX8_takesE 97 = .ok (.invokevirtual 222, 3) := by decide +kernel
theorem dX8_takesE_100 : decode cX8_takesE 100 = .ok (.ifCond .eq 8, 3) := by decide +kernel
theorem dX8_takesE_103 : decode cX8_takesE 103 = .ok (.iconst 0, 1) := by decide +kernel
theorem dX8_takesE_104 : decode cX8_takesE 104 = .ok (.istore_n 2, 1) := by decide +kernel
theorem dX8_takesE_105 : decode cX8_takesE 105 = .ok (.goto (-83), 3) := by decide +kernel
theorem dX8_takesE_108 : decode cX8_takesE 108 = .ok (.iconst 0, 1) := by decide +kernel
theorem dX8_takesE_109 : decode cX8_takesE 109 = .ok (.ireturn, 1) := by decide +kernel
theorem dX8_takesE_110 : decode cX8_takesE 110 = .ok (.iload_n 3, 1) := by decide +kernel
theorem dX8_takesE_111 : decode cX8_takesE 111 = .ok (.bipush 38, 2) := by decide +kernel
theorem dX8_takesE_113 : decode cX8_takesE 113 = .ok (.if_icmp .eq 9, 3) := by decide +kernel
theorem dX8_takesE_116 : decode cX8_takesE 116 = .ok (.iload_n 3, 1) := by decide +kernel
theorem dX8_takesE_117 : decode cX8_takesE 117 = .ok (.bipush 124, 2) := by decide +kernel
theorem dX8_takesE_119 : decode cX8_takesE 119 = .ok (.if_icmp .ne 43, 3) := by decide +kernel
theorem dX8_takesE_122 : decode cX8_takesE 122 = .ok (.aload_n 0, 1) := by decide +kernel
theorem dX8_takesE_123 : decode cX8_takesE 123 = .ok (.iload_n 3, 1) := by decide +kernel
theorem dX8_takesE_124 : decode cX8_takesE 124 = .ok (.invokevirtual 225, 3) := by decide +kernel
theorem dX8_takesE_127 : decode cX8_takesE 127 = .ok (.aload_n 0, 1) := by decide +kernel
theorem dX8_takesE_128 : decode cX8_takesE 128 = .ok (.getfield 59, 3) := by decide +kernel
theorem dX8_takesE_131 : decode cX8_takesE 131 = .ok (.aload_n 0, 1) := by decide +kernel
theorem dX8_takesE_132 : decode cX8_takesE 132 = .ok (.getfield 65, 3) := by decide +kernel
theorem dX8_takesE_135 : decode cX8_takesE 135 = .ok (.iload_n 3, 1) := by decide +kernel
theorem dX8_takesE_136 : decode cX8_takesE 136 = .ok (.iastore, 1) := by decide +kernel
theorem dX8_takesE_137 : decode cX8_takesE 137 = .ok (.aload_n 0, 1) := by decide +kernel
theorem dX8_takesE_138 : decode cX8_takesE 138 = .ok (.dup, 1) := by decide +kernel
theorem dX8_takesE_139 : decode cX8_takesE 139 = .ok (.getfield 65, 3) := by decide +kernel
theorem dX8_takesE_142 : decode cX8_takesE 142 = .ok (.iconst 1, 1) := by decide +kernel
theorem dX8_takesE_143 : decode cX8_takesE 143 = .ok (.iadd, 1) := by decide +kernel
theorem dX8_takesE_144 : decode cX8_takesE 144 = .ok (.putfield 65, 3) := by decide +kernel
theorem dX8_takesE_147 : decode cX8_takesE 147 = .ok (.iconst 1, 1) := by decide +kernel
theorem dX8_takesE_148 : decode cX8_takesE 148 = .ok (.istore_n 2, 1) := by decide +kernel
theorem dX8_takesE_149 : decode cX8_takesE 149 = .ok (.aload_n 0, 1) := by decide +kernel
theorem dX8_takesE_150 : decode cX8_takesE 150 = .ok (.dup, 1) := by decide +kernel
theorem dX8_takesE_151 : decode cX8_takesE 151 = .ok (.getfield 32, 3) := by decide +kernel
theorem dX8_takesE_154 : decode cX8_takesE 154 = .ok (.iconst 1, 1) := by decide +kernel
theorem dX8_takesE_155 : decode cX8_takesE 155 = .ok (.iadd, 1) := by decide +kernel
theorem dX8_takesE_156 : decode cX8_takesE 156 = .ok (.putfield 32, 3) := by decide +kernel
theorem dX8_takesE_159 : decode cX8_takesE 159 = .ok (.goto (-137), 3) := by decide +kernel
theorem dX8_takesE_162 : decode cX8_takesE 162 = .ok (.aload_n 0, 1) := by decide +kernel
theorem dX8_takesE_163 : decode cX8_takesE 163 = .ok (.bipush 124, 2) := by decide +kernel
theorem dX8_takesE_165 : decode cX8_takesE 165 = .ok (.invokevirtual 225, 3) := by decide +kernel
theorem dX8_takesE_168 : decode cX8_takesE 168 = .ok (.aload_n 0, 1) := by decide +kernel
theorem dX8_takesE_169 : decode cX8_takesE 169 = .ok (.getfield 53, 3) := by decide +kernel
theorem dX8_takesE_172 : decode cX8_takesE 172 = .ok (.iload_n 1, 1) := by decide +kernel
theorem dX8_takesE_173 : decode cX8_takesE 173 = .ok (.aload_n 0, 1) := by decide +kernel
theorem dX8_takesE_174 : decode cX8_takesE 174 = .ok (.getfield 62, 3) := by decide +kernel
theorem dX8_takesE_177 : decode cX8_takesE 177 = .ok (.iastore, 1) := by decide +kernel
theorem dX8_takesE_178 : decode cX8_takesE 178 = .ok (.aload_n 0, 1) := by decide +kernel
theorem dX8_takesE_179 : decode cX8_takesE 179 = .ok (.getfield 65, 3) := by decide +kernel
theorem dX8_takesE_182 : decode cX8_takesE 182 = .ok (.ifCond .ne 5, 3) := by decide +kernel
theorem dX8_takesE_185 : decode cX8_takesE 185 = .ok (.iconst 1, 1) := by decide +kernel
theorem dX8_takesE_186 : decode cX8_takesE 186 = .ok (.ireturn, 1) := by decide +kernel
theorem dX8_takesE_187 : decode cX8_takesE 187 = .ok (.iload_n 3, 1) := by decide +kernel
theorem dX8_takesE_188 : decode cX8_takesE 188 = .ok (.bipush 41, 2) := by decide +kernel
theorem dX8_takesE_190 : decode cX8_takesE 190 = .ok (.if_icmp .eq 5, 3) := by decide +kernel
theorem dX8_takesE_193 : decode cX8_takesE 193 = .ok (.iconst 0, 1) := by decide +kernel
theorem dX8_takesE_194 : decode cX8_takesE 194 = .ok (.ireturn, 1) := by decide +kernel
theorem dX8_takesE_195 : decode cX8_takesE 195 = .ok (.aload_n 0, 1) := by decide +kernel
theorem dX8_takesE_196 : decode cX8_takesE 196 = .ok (.dup, 1) := by decide +kernel
theorem dX8_takesE_197 : decode cX8_takesE 197 = .ok (.getfield 65, 3) := by decide +kernel
theorem dX8_takesE_200 : decode cX8_takesE 200 = .ok (.iconst 1, 1) := by decide +kernel
theorem dX8_takesE_201 : decode cX8_takesE 201 = .ok (.isub, 1) := by decide +kernel
theorem dX8_takesE_202 : decode cX8_takesE 202 = .ok (.putfield 65, 3) := by decide +kernel
theorem dX8_takesE_205 : decode cX8_takesE 205 = .ok (.aload_n 0, 1) := by decide +kernel
theorem dX8_takesE_206 : decode cX8_takesE 206 = .ok (.dup, 1) := by decide +kernel
theorem dX8_takesE_207 : decode cX8_takesE 207 = .ok (.getfield 68, 3) := by decide +kernel
theorem dX8_takesE_210 : decode cX8_takesE 210 = .ok (.iconst 1, 1) := by decide +kernel
theorem dX8_takesE_211 : decode cX8_takesE 211 = .ok (.isub, 1) := by decide +kernel
theorem dX8_takesE_212 : decode cX8_takesE 212 = .ok (.putfield 68, 3) := by decide +kernel
theorem dX8_takesE_215 : decode cX8_takesE 215 = .ok (.aload_n 0, 1) := by decide +kernel
theorem dX8_takesE_216 : decode cX8_takesE 216 = .ok (.dup, 1) := by decide +kernel
theorem dX8_takesE_217 : decode cX8_takesE 217 = .ok (.getfield 32, 3) := by decide +kernel
theorem dX8_takesE_220 : decode cX8_takesE 220 = .ok (.iconst 1, 1) := by decide +kernel
theorem dX8_takesE_221 : decode cX8_takesE 221 = .ok (.iadd, 1) := by decide +kernel
theorem dX8_takesE_222 : decode cX8_takesE 222 = .ok (.putfield 32, 3) := by decide +kernel
theorem dX8_takesE_225 : decode cX8_takesE 225 = .ok (.aload_n 0, 1) := by decide +kernel
theorem dX8_takesE_226 : decode cX8_takesE 226 = .ok (.invokevirtual 219, 3) := by decide +kernel
theorem dX8_takesE_229 : decode cX8_takesE 229 = .ok (.goto (-207), 3) := by decide +kernel
theorem dX8_takesHead_0 : decode cX8_takesHead 0 = .ok (.aload_n 0, 1) := by decide +kernel
theorem dX8_takesHead_1 : decode cX8_takesHead 1 = .ok (.invokevirtual 197, 3) := by decide +kernel
theorem dX8_takesHead_4 : decode cX8_takesHead 4 = .ok (.lookupswitch 81 #[(104, 36), (112, 51), (115, 66)], 36) := by decide +kernel
theorem dX8_takesHead_40 : decode cX8_takesHead 40 = .ok (.aload_n 0, 1) := by decide +kernel
theorem dX8_takesHead_41 : decode cX8_takesHead 41 = .ok (.getfield 44, 3) := by decide +kernel
theorem dX8_takesHead_44 : decode cX8_takesHead 44 = .ok (.iload_n 1, 1) := by decide +kernel
theorem dX8_takesHead_45 : decode cX8_takesHead 45 = .ok (.iconst 1, 1) := by decide +kernel
theorem dX8_takesHead_46 : decode cX8_takesHead 46 = .ok (.iastore, 1) := by decide +kernel
theorem dX8_takesHead_47 : decode cX8_takesHead 47 = .ok (.aload_n 0, 1) := by decide +kernel
theorem dX8_takesHead_48 : decode cX8_takesHead 48 = .ok (.ldc 228, 2) := by decide +kernel
theorem dX8_takesHead_50 : decode cX8_takesHead 50 = .ok (.iconst 5, 1) := by decide +kernel
theorem dX8_takesHead_51 : decode cX8_takesHead 51 = .ok (.invokevirtual 229, 3) := by decide +kernel
theorem dX8_takesHead_54 : decode cX8_takesHead 54 = .ok (.ireturn, 1) := by decide +kernel
theorem dX8_takesHead_55 : decode cX8_takesHead 55 = .ok (.aload_n 0, 1) := by decide +kernel
theorem dX8_takesHead_56 : decode cX8_takesHead 56 = .ok (.getfield 44, 3) := by decide +kernel
theorem dX8_takesHead_59 : decode cX8_takesHead 59 = .ok (.iload_n 1, 1) := by decide +kernel
theorem dX8_takesHead_60 : decode cX8_takesHead 60 = .ok (.iconst 2, 1) := by decide +kernel
theorem dX8_takesHead_61 : decode cX8_takesHead 61 = .ok (.iastore, 1) := by decide +kernel
theorem dX8_takesHead_62 : decode cX8_takesHead 62 = .ok (.aload_n 0, 1) := by decide +kernel
theorem dX8_takesHead_63 : decode cX8_takesHead 63 = .ok (.ldc 233, 2) := by decide +kernel
theorem dX8_takesHead_65 : decode cX8_takesHead 65 = .ok (.iconst 5, 1) := by decide +kernel
theorem dX8_takesHead_66 : decode cX8_takesHead 66 = .ok (.invokevirtual 229, 3) := by decide +kernel
theorem dX8_takesHead_69 : decode cX8_takesHead 69 = .ok (.ireturn, 1) := by decide +kernel
theorem dX8_takesHead_70 : decode cX8_takesHead 70 = .ok (.aload_n 0, 1) := by decide +kernel
theorem dX8_takesHead_71 : decode cX8_takesHead 71 = .ok (.getfield 44, 3) := by decide +kernel
theorem dX8_takesHead_74 : decode cX8_takesHead 74 = .ok (.iload_n 1, 1) := by decide +kernel
theorem dX8_takesHead_75 : decode cX8_takesHead 75 = .ok (.iconst 4, 1) := by decide +kernel
theorem dX8_takesHead_76 : decode cX8_takesHead 76 = .ok (.iastore, 1) := by decide +kernel
theorem dX8_takesHead_77 : decode cX8_takesHead 77 = .ok (.aload_n 0, 1) := by decide +kernel
theorem dX8_takesHead_78 : decode cX8_takesHead 78 = .ok (.ldc 234, 2) := by decide +kernel
theorem dX8_takesHead_80 : decode cX8_takesHead 80 = .ok (.iconst 5, 1) := by decide +kernel
theorem dX8_takesHead_81 : decode cX8_takesHead 81 = .ok (.invokevirtual 229, 3) := by decide +kernel
theorem dX8_takesHead_84 : decode cX8_takesHead 84 = .ok (.ireturn, 1) := by decide +kernel
theorem dX8_takesHead_85 : decode cX8_takesHead 85 = .ok (.aload_n 0, 1) := by decide +kernel
theorem dX8_takesHead_86 : decode cX8_takesHead 86 = .ok (.getfield 44, 3) := by decide +kernel
theorem dX8_takesHead_89 : decode cX8_takesHead 89 = .ok (.iload_n 1, 1) := by decide +kernel
theorem dX8_takesHead_90 : decode cX8_takesHead 90 = .ok (.aload_n 0, 1) := by decide +kernel
theorem dX8_takesHead_91 : decode cX8_takesHead 91 = .ok (.invokevirtual 235, 3) := by decide +kernel
theorem dX8_takesHead_94 : decode cX8_takesHead 94 = .ok (.bipush 116, 2) := by decide +kernel
theorem dX8_takesHead_96 : decode cX8_takesHead 96 = .ok (.if_icmp .ne 7, 3) := by decide +kernel
theorem dX8_takesHead_99 : decode cX8_takesHead 99 = .ok (.iconst 3, 1) := by decide +kernel
theorem dX8_takesHead_100 : decode cX8_takesHead 100 = .ok (.goto 4, 3) := by decide +kernel
theorem dX8_takesHead_103 : decode cX8_takesHead 103 = .ok (.iconst 0, 1) := by decide +kernel
theorem dX8_takesHead_104 : decode cX8_takesHead 104 = .ok (.iastore, 1) := by decide +kernel
theorem dX8_takesHead_105 : decode cX8_takesHead 105 = .ok (.aload_n 0, 1) := by decide +kernel
theorem dX8_takesHead_106 : decode cX8_takesHead 106 = .ok (.getfield 44, 3) := by decide +kernel
theorem dX8_takesHead_109 : decode cX8_takesHead 109 = .ok (.iload_n 1, 1) := by decide +kernel
theorem dX8_takesHead_110 : decode cX8_takesHead 110 = .ok (.iaload, 1) := by decide +kernel
theorem dX8_takesHead_111 : decode cX8_takesHead 111 = .ok (.iconst 3, 1) := by decide +kernel
theorem dX8_takesHead_112 : decode cX8_takesHead 112 = .ok (.if_icmp .ne 13, 3) := by decide +kernel
theorem dX8_takesHead_115 : decode cX8_takesHead 115 = .ok (.aload_n 0, 1) := by decide +kernel
theorem dX8_takesHead_116 : decode cX8_takesHead 116 = .ok (.ldc 238, 2) := by decide +kernel
theorem dX8_takesHead_118 : decode cX8_takesHead 118 = .ok (.iconst 5, 1) := by decide +kernel
theorem dX8_takesHead_119 : decode cX8_takesHead 119 = .ok (.invokevirtual 229, 3) := by decide +kernel
theorem dX8_takesHead_122 : decode cX8_takesHead 122 = .ok (.goto 11, 3) := by decide +kernel
theorem dX8_takesHead_125 : decode cX8_takesHead 125 = .ok (.aload_n 0, 1) := by decide +kernel
theorem dX8_takesHead_126 : decode cX8_takesHead 126 = .ok (.sipush 23609, 3) := by decide +kernel
theorem dX8_takesHead_129 : decode cX8_takesHead 129 = .ok (.iconst 3, 1) := by decide +kernel
theorem dX8_takesHead_130 : decode cX8_takesHead 130 = .ok (.invokevirtual 229, 3) := by decide +kernel
theorem dX8_takesHead_133 : decode cX8_takesHead 133 = .ok (.ireturn, 1) := by decide +kernel
theorem dX8_takesClause_0 : decode cX8_takesClause 0 = .ok (.aload_n 0, 1) := by decide +kernel
theorem dX8_takesClause_1 : decode cX8_takesClause 1 = .ok (.iload_n 1, 1) := by decide +kernel
theorem dX8_takesClause_2 : decode cX8_takesClause 2 = .ok (.invokevirtual 239, 3) := by decide +kernel
theorem dX8_takesClause_5 : decode cX8_takesClause 5 = .ok (.ifCond .eq 11, 3) := by decide +kernel
theorem dX8_takesClause_8 : decode cX8_takesClause 8 = .ok (.aload_n 0, 1) := by decide +kernel
theorem dX8_takesClause_9 : decode cX8_takesClause 9 = .ok (.iconst 3, 1) := by decide +kernel
theorem dX8_takesClause_10 : decode cX8_takesClause 10 = .ok (.invokevirtual 216, 3) := by decide +kernel
theorem dX8_takesClause_13 : decode cX8_takesClause 13 = .ok (.ifCond .ne 5, 3) := by decide +kernel
theorem dX8_takesClause_16 : decode cX8_takesClause 16 = .ok (.iconst 0, 1) := by decide +kernel
theorem dX8_takesClause_17 : decode cX8_takesClause 17 = .ok (.ireturn, 1) := by decide +kernel
theorem dX8_takesClause_18 : decode cX8_takesClause 18 = .ok (.aload_n 0, 1) := by decide +kernel
theorem dX8_takesClause_19 : decode cX8_takesClause 19 = .ok (.getfield 47, 3) := by decide +kernel
theorem dX8_takesClause_22 : decode cX8_takesClause 22 = .ok (.iload_n 1, 1) := by decide +kernel
theorem dX8_takesClause_23 : decode cX8_takesClause 23 = .ok (.aload_n 0, 1) := by decide +kernel
theorem dX8_takesClause_24 : decode cX8_takesClause 24 = .ok (.getfield 35, 3) := by decide +kernel
theorem dX8_takesClause_27 : decode cX8_takesClause 27 = .ok (.iastore, 1) := by decide +kernel
theorem dX8_takesClause_28 : decode cX8_takesClause 28 = .ok (.aload_n 0, 1) := by decide +kernel
theorem dX8_takesClause_29 : decode cX8_takesClause 29 = .ok (.getfield 44, 3) := by decide +kernel
theorem dX8_takesClause_32 : decode cX8_takesClause 32 = .ok (.iload_n 1, 1) := by decide +kernel
theorem dX8_takesClause_33 : decode cX8_takesClause 33 = .ok (.iaload, 1) := by decide +kernel
theorem dX8_takesClause_34 : decode cX8_takesClause 34 = .ok (.iconst 1, 1) := by decide +kernel
theorem dX8_takesClause_35 : decode cX8_takesClause 35 = .ok (.if_icmp .gt 20, 3) := by decide +kernel
theorem dX8_takesClause_38 : decode cX8_takesClause 38 = .ok (.aload_n 0, 1) := by decide +kernel
theorem dX8_takesClause_39 : decode cX8_takesClause 39 = .ok (.bipush 32, 2) := by decide +kernel
theorem dX8_takesClause_41 : decode cX8_takesClause 41 = .ok (.invokevirtual 201, 3) := by decide +kernel
theorem dX8_takesClause_44 : decode cX8_takesClause 44 = .ok (.ifCond .eq 15, 3) := by decide +kernel
theorem dX8_takesClause_47 : decode cX8_takesClause 47 = .ok (.aload_n 0, 1) := by decide +kernel
theorem dX8_takesClause_48 : decode cX8_takesClause 48 = .ok (.iload_n 1, 1) := by decide +kernel
theorem dX8_takesClause_49 : decode cX8_takesClause 49 = .ok (.invokevirtual 242, 3) := by decide +kernel
theorem dX8_takesClause_52 : decode cX8_takesClause 52 = .ok (.ifCond .eq 7, 3) := by decide +kernel
theorem dX8_takesClause_55 : decode cX8_takesClause 55 = .ok (.iconst 1, 1) := by decide +kernel
theorem dX8_takesClause_56 : decode cX8_takesClause 56 = .ok (.goto 4, 3) := by decide +kernel
theorem dX8_takesClause_59 : decode cX8_takesClause 59 = .ok (.iconst 0, 1) := by decide +kernel
theorem dX8_takesClause_60 : decode cX8_takesClause 60 = .ok (.ireturn, 1) := by decide +kernel
theorem dX8_goesText_0 : decode cX8_goesText 0 = .ok (.aload_n 0, 1) := by decide +kernel
theorem dX8_goesText_1 : decode cX8_goesText 1 = .ok (.iconst 0, 1) := by decide +kernel
theorem dX8_goesText_2 : decode cX8_goesText 2 = .ok (.putfield 32, 3) := by decide +kernel
theorem dX8_goesText_5 : decode cX8_goesText 5 = .ok (.aload_n 0, 1) := by decide +kernel
theorem dX8_goesText_6 : decode cX8_goesText 6 = .ok (.bipush 100, 2) := by decide +kernel
theorem dX8_goesText_8 : decode cX8_goesText 8 = .ok (.iload_n 1, 1) := by decide +kernel
theorem dX8_goesText_9 : decode cX8_goesText 9 = .ok (.imul, 1) := by decide +kernel
theorem dX8_goesText_10 : decode cX8_goesText 10 = .ok (.putfield 62, 3) := by decide +kernel
theorem dX8_goesText_13 : decode cX8_goesText 13 = .ok (.iconst 0, 1) := by decide +kernel
theorem dX8_goesText_14 : decode cX8_goesText 14 = .ok (.istore_n 2, 1) := by decide +kernel
theorem dX8_goesText_15 : decode cX8_goesText 15 = .ok (.aload_n 0, 1) := by decide +kernel
theorem dX8_goesText_16 : decode cX8_goesText 16 = .ok (.bipush 10, 2) := by decide +kernel
theorem dX8_goesText_18 : decode cX8_goesText 18 = .ok (.iload_n 1, 1) := by decide +kernel
theorem dX8_goesText_19 : decode cX8_goesText 19 = .ok (.imul, 1) := by decide +kernel
theorem dX8_goesText_20 : decode cX8_goesText 20 = .ok (.iload_n 2, 1) := by decide +kernel
theorem dX8_goesText_21 : decode cX8_goesText 21 = .ok (.iadd, 1) := by decide +kernel
theorem dX8_goesText_22 : decode cX8_goesText 22 = .ok (.invokevirtual 245, 3) := by decide +kernel
theorem dX8_goesText_25 : decode cX8_goesText 25 = .ok (.ifCond .ne 5, 3) := by decide +kernel
theorem dX8_goesText_28 : decode cX8_goesText 28 = .ok (.iconst 0, 1) := by decide +kernel
theorem dX8_goesText_29 : decode cX8_goesText 29 = .ok (.ireturn, 1) := by decide +kernel
theorem dX8_goesText_30 : decode cX8_goesText 30 = .ok (.iinc 2 1, 3) := by decide +kernel
theorem dX8_goesText_33 : decode cX8_goesText 33 = .ok (.aload_n 0, 1) := by decide +kernel
theorem dX8_goesText_34 : decode cX8_goesText 34 = .ok (.getfield 41, 3) := by decide +kernel
theorem dX8_goesText_37 : decode cX8_goesText 37 = .ok (.iload_n 1, 1) := by decide +kernel
theorem dX8_goesText_38 : decode cX8_goesText 38 = .ok (.iload_n 2, 1) := by decide +kernel
theorem dX8_goesText_39 : decode cX8_goesText 39 = .ok (.iastore, 1) := by decide +kernel
theorem dX8_goesText_40 : decode cX8_goesText 40 = .ok (.aload_n 0, 1) := by decide +kernel
theorem dX8_goesText_41 : decode cX8_goesText 41 = .ok (.getfield 32, 3) := by decide +kernel
theorem dX8_goesText_44 : decode cX8_goesText 44 = .ok (.aload_n 0, 1) := by decide +kernel
theorem dX8_goesText_45 : decode cX8_goesText 45 = .ok (.getfield 29, 3) := by decide +kernel
theorem dX8_goesText_48 : decode cX8_goesText 48 = .ok (.if_icmp .ne 5, 3) := by decide +kernel
theorem dX8_goesText_51 : decode cX8_goesText 51 = .ok (.iconst 1, 1) := by decide +kernel
theorem dX8_goesText_52 : decode cX8_goesText 52 = .ok (.ireturn, 1) := by decide +kernel
theorem dX8_goesText_53 : decode cX8_goesText 53 = .ok (.iload_n 2, 1) := by decide +kernel
theorem dX8_goesText_54 : decode cX8_goesText 54 = .ok (.bipush 10, 2) := by decide +kernel
theorem dX8_goesText_56 : decode cX8_goesText 56 = .ok (.if_icmp .eq 12, 3) := by decide +kernel
theorem dX8_goesText_59 : decode cX8_goesText 59 = .ok (.aload_n 0, 1) := by decide +kernel
theorem dX8_goesText_60 : decode cX8_goesText 60 = .ok (.bipush 59, 2) := by decide +kernel
theorem dX8_goesText_62 : decode cX8_goesText 62 = .ok (.invokevirtual 201, 3) := by decide +kernel
theorem dX8_goesText_65 : decode cX8_goesText 65 = .ok (.ifCond .ne (-50), 3) := by decide +kernel
theorem dX8_goesText_68 : decode cX8_goesText 68 = .ok (.iconst 0, 1) := by decide +kernel
theorem dX8_goesText_69 : decode cX8_goesText 69 = .ok (.ireturn, 1) := by decide +kernel
theorem dX8_law_0 : decode cX8_law 0 = .ok (.aload_n 0, 1) := by decide +kernel
theorem dX8_law_1 : decode cX8_law 1 = .ok (.getfield 23, 3) := by decide +kernel
theorem dX8_law_4 : decode cX8_law 4 = .ok (.bipush 6, 2) := by decide +kernel
theorem dX8_law_6 : decode cX8_law 6 = .ok (.if_icmp .ne 6, 3) := by decide +kernel
theorem dX8_law_9 : decode cX8_law 9 = .ok (.bipush (-4), 2) := by decide +kernel
theorem dX8_law_11 : decode cX8_law 11 = .ok (.ireturn, 1) := by decide +kernel
theorem dX8_law_12 : decode cX8_law 12 = .ok (.aload_n 0, 1) := by decide +kernel
theorem dX8_law_13 : decode cX8_law 13 = .ok (.aload_n 0, 1) := by decide +kernel
theorem dX8_law_14 : decode cX8_law 14 = .ok (.getfield 23, 3) := by decide +kernel
theorem dX8_law_17 : decode cX8_law 17 = .ok (.invokevirtual 248, 3) := by decide +kernel
theorem dX8_law_20 : decode cX8_law 20 = .ok (.istore_n 1, 1) := by decide +kernel
theorem dX8_law_21 : decode cX8_law 21 = .ok (.aload_n 0, 1) := by decide +kernel
theorem dX8_law_22 : decode cX8_law 22 = .ok (.iconst 0, 1) := by decide +kernel
theorem dX8_law_23 : decode cX8_law 23 = .ok (.putfield 29, 3) := by decide +kernel
theorem dX8_law_26 : decode cX8_law 26 = .ok (.iload_n 1, 1) := by decide +kernel
theorem dX8_law_27 : decode cX8_law 27 = .ok (.ifCond .ne 11, 3) := by decide +kernel
theorem dX8_law_30 : decode cX8_law 30 = .ok (.bipush (-10), 2) := by decide +kernel
theorem dX8_law_32 : decode cX8_law 32 = .ok (.aload_n 0, 1) := by decide +kernel
theorem dX8_law_33 : decode cX8_law 33 = .ok (.getfield 32, 3) := by decide +kernel
theorem dX8_law_36 : decode cX8_law 36 = .ok (.isub, 1) := by decide +kernel
theorem dX8_law_37 : decode cX8_law 37 = .ok (.ireturn, 1) := by decide +kernel
theorem dX8_law_38 : decode cX8_law 38 = .ok (.aload_n 0, 1) := by decide +kernel
theorem dX8_law_39 : decode cX8_law 39 = .ok (.aload_n 0, 1) := by decide +kernel
theorem dX8_law_40 : decode cX8_law 40 = .ok (.getfield 23, 3) := by decide +kernel
theorem dX8_law_43 : decode cX8_law 43 = .ok (.putfield 26, 3) := by decide +kernel
theorem dX8_law_46 : decode cX8_law 46 = .ok (.aload_n 0, 1) := by decide +kernel
theorem dX8_law_47 : decode cX8_law 47 = .ok (.dup, 1) := by decide +kernel
theorem dX8_law_48 : decode cX8_law 48 = .ok (.getfield 23, 3) := by decide +kernel
theorem dX8_law_51 : decode cX8_law 51 = .ok (.iconst 1, 1) := by decide +kernel
theorem dX8_law_52 : decode cX8_law 52 = .ok (.iadd, 1) := by decide +kernel
theorem dX8_law_53 : decode cX8_law 53 = .ok (.putfield 23, 3) := by decide +kernel
theorem dX8_law_56 : decode cX8_law 56 = .ok (.aload_n 0, 1) := by decide +kernel
theorem dX8_law_57 : decode cX8_law 57 = .ok (.getfield 26, 3) := by decide +kernel
theorem dX8_law_60 : decode cX8_law 60 = .ok (.ireturn, 1) := by decide +kernel
theorem dX8_first_0 : decode cX8_first 0 = .ok (.aload_n 0, 1) := by decide +kernel
theorem dX8_first_1 : decode cX8_first 1 = .ok (.getfield 26, 3) := by decide +kernel
theorem dX8_first_4 : decode cX8_first 4 = .ok (.ifCond .ge 7, 3) := by decide +kernel
theorem dX8_first_7 : decode cX8_first 7 = .ok (.iconst 0, 1) := by decide +kernel
theorem dX8_first_8 : decode cX8_first 8 = .ok (.goto 10, 3) := by decide +kernel
theorem dX8_first_11 : decode cX8_first 11 = .ok (.bipush 10, 2) := by decide +kernel
theorem dX8_first_13 : decode cX8_first 13 = .ok (.aload_n 0, 1) := by decide +kernel
theorem dX8_first_14 : decode cX8_first 14 = .ok (.getfield 26, 3) := by decide +kernel
theorem dX8_first_17 : decode cX8_first 17 = .ok (.imul, 1) := by decide +kernel
theorem dX8_first_18 : decode cX8_first 18 = .ok (.ireturn, 1) := by decide +kernel
theorem dX8_behind_0 : decode cX8_behind 0 = .ok (.aload_n 0, 1) := by decide +kernel
theorem dX8_behind_1 : decode cX8_behind 1 = .ok (.getfield 26, 3) := by decide +kernel
theorem dX8_behind_4 : decode cX8_behind 4 = .ok (.ifCond .ge 7, 3) := by decide +kernel
theorem dX8_behind_7 : decode cX8_behind 7 = .ok (.iconst 0, 1) := by decide +kernel
theorem dX8_behind_8 : decode cX8_behind 8 = .ok (.goto 20, 3) := by decide +kernel
theorem dX8_behind_11 : decode cX8_behind 11 = .ok (.bipush 10, 2) := by decide +kernel
theorem dX8_behind_13 : decode cX8_behind 13 = .ok (.aload_n 0, 1) := by decide +kernel
theorem dX8_behind_14 : decode cX8_behind 14 = .ok (.getfield 26, 3) := by decide +kernel
theorem dX8_behind_17 : decode cX8_behind 17 = .ok (.imul, 1) := by decide +kernel
theorem dX8_behind_18 : decode cX8_behind 18 = .ok (.aload_n 0, 1) := by decide +kernel
theorem dX8_behind_19 : decode cX8_behind 19 = .ok (.getfield 41, 3) := by decide +kernel
theorem dX8_behind_22 : decode cX8_behind 22 = .ok (.aload_n 0, 1) := by decide +kernel
theorem dX8_behind_23 : decode cX8_behind 23 = .ok (.getfield 26, 3) := by decide +kernel
theorem dX8_behind_26 : decode cX8_behind 26 = .ok (.iaload, 1) := by decide +kernel
theorem dX8_behind_27 : decode cX8_behind 27 = .ok (.iadd, 1) := by decide +kernel
theorem dX8_behind_28 : decode cX8_behind 28 = .ok (.ireturn, 1) := by decide +kernel
theorem dX8_last_0 : decode cX8_last 0 = .ok (.iload_n 2, 1) := by decide +kernel
theorem dX8_last_1 : decode cX8_last 1 = .ok (.istore_n 3, 1) := by decide +kernel
theorem dX8_last_2 : decode cX8_last 2 = .ok (.aload_n 0, 1) := by decide +kernel
theorem dX8_last_3 : decode cX8_last 3 = .ok (.invokevirtual 251, 3) := by decide +kernel
theorem dX8_last_6 : decode cX8_last 6 = .ok (.istore 4, 2) := by decide +kernel
theorem dX8_last_8 : decode cX8_last 8 = .ok (.iload 4, 2) := by decide +kernel
theorem dX8_last_10 : decode cX8_last 10 = .ok (.aload_n 0, 1) := by decide +kernel
theorem dX8_last_11 : decode cX8_last 11 = .ok (.invokevirtual 254, 3) := by decide +kernel
theorem dX8_last_14 : decode cX8_last 14 = .ok (.if_icmp .ge 32, 3) := by decide +kernel
theorem dX8_last_17 : decode cX8_last 17 = .ok (.aload_n 0, 1) := by decide +kernel
theorem dX8_last_18 : decode cX8_last 18 = .ok (.getfield 44, 3) := by decide +kernel
theorem dX8_last_21 : decode cX8_last 21 = .ok (.iload 4, 2) := by decide +kernel
theorem dX8_last_23 : decode cX8_last 23 = .ok (.iaload, 1) := by decide +kernel
theorem dX8_last_24 : decode cX8_last 24 = .ok (.iload_n 1, 1) := by decide +kernel
theorem dX8_last_25 : decode cX8_last 25 = .ok (.if_icmp .ne 13, 3) := by decide +kernel
theorem dX8_last_28 : decode cX8_last 28 = .ok (.aload_n 0, 1) := by decide +kernel
theorem dX8_last_29 : decode cX8_last 29 = .ok (.getfield 47, 3) := by decide +kernel
theorem dX8_last_32 : decode cX8_last 32 = .ok (.iload 4, 2) := by decide +kernel
theorem dX8_last_34 : decode cX8_last 34 = .ok (.iaload, 1) := by decide +kernel
theorem dX8_last_35 : decode cX8_last 35 = .ok (.goto 4, 3) := by decide +kernel
theorem dX8_last_38 : decode cX8_last 38 = .ok (.iload_n 3, 1) := by decide +kernel
theorem dX8_last_39 : decode cX8_last 39 = .ok (.istore_n 3, 1) := by decide +kernel
theorem dX8_last_40 : decode cX8_last 40 = .ok (.iinc 4 1, 3) := by decide +kernel
theorem dX8_last_43 : decode cX8_last 43 = .ok (.goto (-35), 3) := by decide +kernel
theorem dX8_last_46 : decode cX8_last 46 = .ok (.iload_n 3, 1) := by decide +kernel
theorem dX8_last_47 : decode cX8_last 47 = .ok (.ireturn, 1) := by decide +kernel
theorem dX8_ask_0 : decode cX8_ask 0 = .ok (.aload_n 0, 1) := by decide +kernel
theorem dX8_ask_1 : decode cX8_ask 1 = .ok (.getfield 71, 3) := by decide +kernel
theorem dX8_ask_4 : decode cX8_ask 4 = .ok (.iconst 0, 1) := by decide +kernel
theorem dX8_ask_5 : decode cX8_ask 5 = .ok (.iload_n 1, 1) := by decide +kernel
theorem dX8_ask_6 : decode cX8_ask 6 = .ok (.iastore, 1) := by decide +kernel
theorem dX8_ask_7 : decode cX8_ask 7 = .ok (.aload_n 0, 1) := by decide +kernel
theorem dX8_ask_8 : decode cX8_ask 8 = .ok (.getfield 71, 3) := by decide +kernel
theorem dX8_ask_11 : decode cX8_ask 11 = .ok (.iconst 1, 1) := by decide +kernel
theorem dX8_ask_12 : decode cX8_ask 12 = .ok (.iload_n 2, 1) := by decide +kernel
theorem dX8_ask_13 : decode cX8_ask 13 = .ok (.iastore, 1) := by decide +kernel
theorem dX8_ask_14 : decode cX8_ask 14 = .ok (.aload_n 0, 1) := by decide +kernel
theorem dX8_ask_15 : decode cX8_ask 15 = .ok (.getfield 71, 3) := by decide +kernel
theorem dX8_ask_18 : decode cX8_ask 18 = .ok (.iconst 2, 1) := by decide +kernel
theorem dX8_ask_19 : decode cX8_ask 19 = .ok (.iload_n 3, 1) := by decide +kernel
theorem dX8_ask_20 : decode cX8_ask 20 = .ok (.iastore, 1) := by decide +kernel
theorem dX8_ask_21 : decode cX8_ask 21 = .ok (.aload_n 0, 1) := by decide +kernel
theorem dX8_ask_22 : decode cX8_ask 22 = .ok (.getfield 71, 3) := by decide +kernel
theorem dX8_ask_25 : decode cX8_ask 25 = .ok (.iconst 3, 1) := by decide +kernel
theorem dX8_ask_26 : decode cX8_ask 26 = .ok (.iload 4, 2) := by decide +kernel
theorem dX8_ask_28 : decode cX8_ask 28 = .ok (.iastore, 1) := by decide +kernel
theorem dX8_ask_29 : decode cX8_ask 29 = .ok (.aload_n 0, 1) := by decide +kernel
theorem dX8_ask_30 : decode cX8_ask 30 = .ok (.getfield 71, 3) := by decide +kernel
theorem dX8_ask_33 : decode cX8_ask 33 = .ok (.iconst 4, 1) := by decide +kernel
theorem dX8_ask_34 : decode cX8_ask 34 = .ok (.iload 5, 2) := by decide +kernel
theorem dX8_ask_36 : decode cX8_ask 36 = .ok (.iastore, 1) := by decide +kernel
theorem dX8_ask_37 : decode cX8_ask 37 = .ok (.return_, 1) := by decide +kernel
theorem dX8_holds_0 : decode cX8_holds 0 = .ok (.iconst 0, 1) := by decide +kernel
theorem dX8_holds_1 : decode cX8_holds 1 = .ok (.istore_n 2, 1) := by decide +kernel
theorem dX8_holds_2 : decode cX8_holds 2 = .ok (.aload_n 0, 1) := by decide +kernel
theorem dX8_holds_3 : decode cX8_holds 3 = .ok (.getfield 50, 3) := by decide +kernel
theorem dX8_holds_6 : decode cX8_holds 6 = .ok (.iload_n 1, 1) := by decide +kernel
theorem dX8_holds_7 : decode cX8_holds 7 = .ok (.iaload, 1) := by decide +kernel
theorem dX8_holds_8 : decode cX8_holds 8 = .ok (.istore_n 3, 1) := by decide +kernel
theorem dX8_holds_9 : decode cX8_holds 9 = .ok (.iload_n 3, 1) := by decide +kernel
theorem dX8_holds_10 : decode cX8_holds 10 = .ok (.aload_n 0, 1) := by decide +kernel
theorem dX8_holds_11 : decode cX8_holds 11 = .ok (.getfield 53, 3) := by decide +kernel
theorem dX8_holds_14 : decode cX8_holds 14 = .ok (.iload_n 1, 1) := by decide +kernel
theorem dX8_holds_15 : decode cX8_holds 15 = .ok (.iaload, 1) := by decide +kernel
theorem dX8_holds_16 : decode cX8_holds 16 = .ok (.if_icmp .ge 224, 3) := by decide +kernel
theorem dX8_holds_19 : decode cX8_holds 19 = .ok (.aload_n 0, 1) := by decide +kernel
theorem dX8_holds_20 : decode cX8_holds 20 = .ok (.getfield 56, 3) := by decide +kernel
theorem dX8_holds_23 : decode cX8_holds 23 = .ok (.iload_n 3, 1) := by decide +kernel
theorem dX8_holds_24 : decode cX8_holds 24 = .ok (.iaload, 1) := by decide +kernel
theorem dX8_holds_25 : decode cX8_holds 25 = .ok (.istore 4, 2) := by decide +kernel
theorem dX8_holds_27 : decode cX8_holds 27 = .ok (.iload 4, 2) := by decide +kernel
theorem dX8_holds_29 : decode cX8_holds 29 = .ok (.bipush (-33), 2) := by decide +kernel
theorem dX8_holds_31 : decode cX8_holds 31 = .ok (.if_icmp .ne 30, 3) := by decide +kernel
theorem dX8_holds_34 : decode cX8_holds 34 = .ok (.aload_n 0, 1) := by decide +kernel
theorem dX8_holds_35 : decode cX8_holds 35 = .ok (.getfield 74, 3) := by decide +kernel
theorem dX8_holds_38 : decode cX8_holds 38 = .ok (.iload_n 2, 1) := by decide +kernel
theorem dX8_holds_39 : decode cX8_holds 39 = .ok (.iconst 1, 1) := by decide +kernel
theorem dX8_holds_40 : decode cX8_holds 40 = .ok (.isub, 1) := by decide +kernel
theorem dX8_holds_41 : decode cX8_holds 41 = .ok (.aload_n 0, 1) := by decide +kernel
theorem dX8_holds_42 : decode cX8_holds 42 = .ok (.getfield 74, 3) := by decide +kernel
theorem dX8_holds_45 : decode cX8_holds 45 = .ok (.iload_n 2, 1) := by decide +kernel
theorem dX8_holds_46 : decode cX8_holds 46 = .ok (.iconst 1, 1) := by decide +kernel
theorem dX8_holds_47 : decode cX8_holds 47 = .ok (.isub, 1) := by decide +kernel
theorem dX8_holds_48 : decode cX8_holds 48 = .ok (.baload, 1) := by decide +kernel
theorem dX8_holds_49 : decode cX8_holds 49 = .ok (.ifCond .ne 7, 3) := by decide +kernel
theorem dX8_holds_52 : decode cX8_holds 52 = .ok (.iconst 1, 1) := by decide +kernel
theorem dX8_holds_53 : decode cX8_holds 53 = .ok (.goto 4, 3) := by decide +kernel
theorem dX8_holds_56 : decode cX8_holds 56 = .ok (.iconst 0, 1) := by decide +kernel
theorem dX8_holds_57 : decode cX8_holds 57 = .ok (.bastore, 1) := by decide +kernel
theorem dX8_holds_58 : decode cX8_holds 58 = .ok (.goto 176, 3) := by decide +kernel
theorem dX8_holds_61 : decode cX8_holds 61 = .ok (.iload 4, 2) := by decide +kernel
theorem dX8_holds_63 : decode cX8_holds 63 = .ok (.ifCond .ge 77, 3) := by decide +kernel
theorem dX8_holds_66 : decode cX8_holds 66 = .ok (.iinc 2 (-1), 3) := by decide +kernel
theorem dX8_holds_69 : decode cX8_holds 69 = .ok (.aload_n 0, 1) := by decide +kernel
theorem dX8_holds_70 : decode cX8_holds 70 = .ok (.getfield 74, 3) := by decide +kernel
theorem dX8_holds_73 : decode cX8_holds 73 = .ok (.iload_n 2, 1) := by decide +kernel
theorem dX8_holds_74 : decode cX8_holds 74 = .ok (.iconst 1, 1) := by decide +kernel
theorem dX8_holds_75 : decode cX8_holds 75 = .ok (.isub, 1) := by decide +kernel
theorem dX8_holds_76 : decode cX8_holds 76 = .ok (.iload 4, 2) := by decide +kernel
theorem dX8_holds_78 : decode cX8_holds 78 = .ok (.bipush (-38), 2) := by decide +kernel
theorem dX8_holds_80 : decode cX8_holds 80 = .ok (.if_icmp .ne 31, 3) := by decide +kernel
theorem dX8_holds_83 : decode cX8_holds 83 = .ok (.aload_n 0, 1) := by decide +kernel
theorem dX8_holds_84 : decode cX8_holds 84 = .ok (.getfield 74, 3) := by decide +kernel
theorem dX8_holds_87 : decode cX8_holds 87 = .ok (.iload_n 2, 1) := by decide +kernel
theorem dX8_holds_88 : decode cX8_holds 88 = .ok (.iconst 1, 1) := by decide +kernel
theorem dX8_holds_89 : decode cX8_holds 89 = .ok (.isub, 1) := by decide +kernel
theorem dX8_holds_90 : decode cX8_holds 90 = .ok (.baload, 1) := by decide +kernel
theorem dX8_holds_91 : decode cX8_holds 91 = .ok (.ifCond .eq 16, 3) := by decide +kernel
theorem dX8_holds_94 : decode cX8_holds 94 = .ok (.aload_n 0, 1) := by decide +kernel
theorem dX8_holds_95 : decode cX8_holds 95 = .ok (.getfield 74, 3) := by decide +kernel
theorem dX8_holds_98 : decode cX8_holds 98 = .ok (.iload_n 2, 1) := by decide +kernel
theorem dX8_holds_99 : decode cX8_holds 99 = .ok (.baload, 1) := by decide +kernel
theorem dX8_holds_100 : decode cX8_holds 100 = .ok (.ifCond .eq 7, 3) := by decide +kernel
theorem dX8_holds_103 : decode cX8_holds 103 = .ok (.iconst 1, 1) := by decide +kernel
theorem dX8_holds_104 : decode cX8_holds 104 = .ok (.goto 32, 3) := by decide +kernel
theorem dX8_holds_107 : decode cX8_holds 107 = .ok (.iconst 0, 1) := by decide +kernel
theorem dX8_holds_108 : decode cX8_holds 108 = .ok (.goto 28, 3) := by decide +kernel
theorem dX8_holds_111 : decode cX8_holds 111 = .ok (.aload_n 0, 1) := by decide +kernel
theorem dX8_holds_112 : decode cX8_holds 112 = .ok (.getfield 74, 3) := by decide +kernel
theorem dX8_holds_115 : decode cX8_holds 115 = .ok (.iload_n 2, 1) := by decide +kernel
theorem dX8_holds_116 : decode cX8_holds 116 = .ok (.iconst 1, 1) := by decide +kernel
theorem dX8_holds_117 : decode cX8_holds 117 = .ok (.isub, 1) := by decide +kernel
theorem dX8_holds_118 : decode cX8_holds 118 = .ok (.baload, 1) := by decide +kernel
theorem dX8_holds_119 : decode cX8_holds 119 = .ok (.ifCond .ne 12, 3) := by decide +kernel
theorem dX8_holds_122 : decode cX8_holds 122 = .ok (.aload_n 0, 1) := by decide +kernel
theorem dX8_holds_123 : decode cX8_holds 123 = .ok (.getfield 74, 3) := by decide +kernel
theorem dX8_holds_126 : decode cX8_holds 126 = .ok (.iload_n 2, 1) := by decide +kernel
theorem dX8_holds_127 : decode cX8_holds 127 = .ok (.baload, 1) := by decide +kernel
theorem dX8_holds_128 : decode cX8_holds 128 = .ok (.ifCond .eq 7, 3) := by decide +kernel
theorem dX8_holds_131 : decode cX8_holds 131 = .ok (.iconst 1, 1) := by decide +kernel
theorem dX8_holds_132 : decode cX8_holds 132 = .ok (.goto 4, 3) := by decide +kernel
theorem dX8_holds_135 : decode cX8_holds 135 = .ok (.iconst 0, 1) := by decide +kernel
theorem dX8_holds_136 : decode cX8_holds 136 = .ok (.bastore, 1) := by decide +kernel
theorem dX8_holds_137 : decode cX8_holds 137 = .ok (.goto 97, 3) := by decide +kernel
theorem dX8_holds_140 : decode cX8_holds 140 = .ok (.aload_n 0, 1) := by decide +kernel
theorem dX8_holds_141 : decode cX8_holds 141 = .ok (.getfield 71, 3) := by decide +kernel
theorem dX8_holds_144 : decode cX8_holds 144 = .ok (.iload 4, 2) := by decide +kernel
theorem dX8_holds_146 : decode cX8_holds 146 = .ok (.sipush 1000, 3) := by decide +kernel
theorem dX8_holds_149 : decode cX8_holds 149 = .ok (.idiv, 1) := by decide +kernel
theorem dX8_holds_150 : decode cX8_holds 150 = .ok (.iaload, 1) := by decide +kernel
theorem dX8_holds_151 : decode cX8_holds 151 = .ok (.istore 5, 2) := by decide +kernel
theorem dX8_holds_153 : decode cX8_holds 153 = .ok (.iload 4, 2) := by decide +kernel
theorem dX8_holds_155 : decode cX8_holds 155 = .ok (.bipush 100, 2) := by decide +kernel
theorem dX8_holds_157 : decode cX8_holds 157 = .ok (.idiv, 1) := by decide +kernel
theorem dX8_holds_158 : decode cX8_holds 158 = .ok (.bipush 10, 2) := by decide +kernel
theorem dX8_holds_160 : decode cX8_holds 160 = .ok (.irem, 1) := by decide +kernel
theorem dX8_holds_161 : decode cX8_holds 161 = .ok (.istore 6, 2) := by decide +kernel
theorem dX8_holds_163 : decode cX8_holds 163 = .ok (.aload_n 0, 1) := by decide +kernel
theorem dX8_holds_164 : decode cX8_holds 164 = .ok (.getfield 74, 3) := by decide +kernel
theorem dX8_holds_167 : decode cX8_holds 167 = .ok (.iload_n 2, 1) := by decide +kernel
theorem dX8_holds_168 : decode cX8_holds 168 = .ok (.iload 6, 2) := by decide +kernel
theorem dX8_holds_170 : decode cX8_holds 170 = .ok (.ifCond .ne 21, 3) := by decide +kernel
theorem dX8_holds_173 : decode cX8_holds 173 = .ok (.iload 5, 2) := by decide +kernel
theorem dX8_holds_175 : decode cX8_holds 175 = .ok (.iload 4, 2) := by decide +kernel
theorem dX8_holds_177 : decode cX8_holds 177 = .ok (.bipush 100, 2) := by decide +kernel
theorem dX8_holds_179 : decode cX8_holds 179 = .ok (.irem, 1) := by decide +kernel
theorem dX8_holds_180 : decode cX8_holds 180 = .ok (.if_icmp .ge 7, 3) := by decide +kernel
theorem dX8_holds_183 : decode cX8_holds 183 = .ok (.iconst 1, 1) := by decide +kernel
theorem dX8_holds_184 : decode cX8_holds 184 = .ok (.goto 46, 3) := by decide +kernel
theorem dX8_holds_187 : decode cX8_holds 187 = .ok (.iconst 0, 1) := by decide +kernel
theorem dX8_holds_188 : decode cX8_holds 188 = .ok (.goto 42, 3) := by decide +kernel
theorem dX8_holds_191 : decode cX8_holds 191 = .ok (.iload 6, 2) := by decide +kernel
theorem dX8_holds_193 : decode cX8_holds 193 = .ok (.iconst 1, 1) := by decide +kernel
theorem dX8_holds_194 : decode cX8_holds 194 = .ok (.if_icmp .ne 21, 3) := by decide +kernel
theorem dX8_holds_197 : decode cX8_holds 197 = .ok (.iload 5, 2) := by decide +kernel
theorem dX8_holds_199 : decode cX8_holds 199 = .ok (.iload 4, 2) := by decide +kernel
theorem dX8_holds_201 : decode cX8_holds 201 = .ok (.bipush 100, 2) := by decide +kernel
theorem dX8_holds_203 : decode cX8_holds 203 = .ok (.irem, 1) := by decide +kernel
theorem dX8_holds_204 : decode cX8_holds 204 = .ok (.if_icmp .ne 7, 3) := by decide +kernel
theorem dX8_holds_207 : decode cX8_holds 207 = .ok (.iconst 1, 1) := by decide +kernel
theorem dX8_holds_208 : decode cX8_holds 208 = .ok (.goto 22, 3) := by decide +kernel
theorem dX8_holds_211 : decode cX8_holds 211 = .ok (.iconst 0, 1) := by decide +kernel
theorem dX8_holds_212 : decode cX8_holds 212 = .ok (.goto 18, 3) := by decide +kernel
theorem dX8_holds_215 : decode cX8_holds 215 = .ok (.iload 5, 2) := by decide +kernel
theorem dX8_holds_217 : decode cX8_holds 217 = .ok (.iload 4, 2) := by decide +kernel
theorem dX8_holds_219 : decode cX8_holds 219 = .ok (.bipush 100, 2) := by decide +kernel
theorem dX8_holds_221 : decode cX8_holds 221 = .ok (.irem, 1) := by decide +kernel
theorem dX8_holds_222 : decode cX8_holds 222 = .ok (.if_icmp .le 7, 3) := by decide +kernel
theorem dX8_holds_225 : decode cX8_holds 225 = .ok (.iconst 1, 1) := by decide +kernel
theorem dX8_holds_226 : decode cX8_holds 226 = .ok (.goto 4, 3) := by decide +kernel
theorem dX8_holds_229 : decode cX8_holds 229 = .ok (.iconst 0, 1) := by decide +kernel
theorem dX8_holds_230 : decode cX8_holds 230 = .ok (.bastore, 1) := by decide +kernel
theorem dX8_holds_231 : decode cX8_holds 231 = .ok (.iinc 2 1, 3) := by decide +kernel
theorem dX8_holds_234 : decode cX8_holds 234 = .ok (.iinc 3 1, 3) := by decide +kernel
theorem dX8_holds_237 : decode cX8_holds 237 = .ok (.goto (-228), 3) := by decide +kernel
theorem dX8_holds_240 : decode cX8_holds 240 = .ok (.aload_n 0, 1) := by decide +kernel
theorem dX8_holds_241 : decode cX8_holds 241 = .ok (.getfield 74, 3) := by decide +kernel
theorem dX8_holds_244 : decode cX8_holds 244 = .ok (.iconst 0, 1) := by decide +kernel
theorem dX8_holds_245 : decode cX8_holds 245 = .ok (.baload, 1) := by decide +kernel
theorem dX8_holds_246 : decode cX8_holds 246 = .ok (.ireturn, 1) := by decide +kernel
theorem dX8_goesIn_0 : decode cX8_goesIn 0 = .ok (.aload_n 0, 1) := by decide +kernel
theorem dX8_goesIn_1 : decode cX8_goesIn 1 = .ok (.getfield 17, 3) := by decide +kernel
theorem dX8_goesIn_4 : decode cX8_goesIn 4 = .ok (.bipush 8, 2) := by decide +kernel
theorem dX8_goesIn_6 : decode cX8_goesIn 6 = .ok (.iload_n 1, 1) := by decide +kernel
theorem dX8_goesIn_7 : decode cX8_goesIn 7 = .ok (.imul, 1) := by decide +kernel
theorem dX8_goesIn_8 : decode cX8_goesIn 8 = .ok (.iload_n 2, 1) := by decide +kernel
theorem dX8_goesIn_9 : decode cX8_goesIn 9 = .ok (.iadd, 1) := by decide +kernel
theorem dX8_goesIn_10 : decode cX8_goesIn 10 = .ok (.iaload, 1) := by decide +kernel
theorem dX8_goesIn_11 : decode cX8_goesIn 11 = .ok (.istore_n 3, 1) := by decide +kernel
theorem dX8_goesIn_12 : decode cX8_goesIn 12 = .ok (.iload_n 1, 1) := by decide +kernel
theorem dX8_goesIn_13 : decode cX8_goesIn 13 = .ok (.iload_n 2, 1) := by decide +kernel
theorem dX8_goesIn_14 : decode cX8_goesIn 14 = .ok (.if_icmp .eq 7, 3) := by decide +kernel
theorem dX8_goesIn_17 : decode cX8_goesIn 17 = .ok (.iload_n 3, 1) := by decide +kernel
theorem dX8_goesIn_18 : decode cX8_goesIn 18 = .ok (.ifCond .ne 6, 3) := by decide +kernel
theorem dX8_goesIn_21 : decode cX8_goesIn 21 = .ok (.bipush (-5), 2) := by decide +kernel
theorem dX8_goesIn_23 : decode cX8_goesIn 23 = .ok (.ireturn, 1) := by decide +kernel
theorem dX8_goesIn_24 : decode cX8_goesIn 24 = .ok (.aload_n 0, 1) := by decide +kernel
theorem dX8_goesIn_25 : decode cX8_goesIn 25 = .ok (.iload_n 1, 1) := by decide +kernel
theorem dX8_goesIn_26 : decode cX8_goesIn 26 = .ok (.iload_n 2, 1) := by decide +kernel
theorem dX8_goesIn_27 : decode cX8_goesIn 27 = .ok (.iload_n 3, 1) := by decide +kernel
theorem dX8_goesIn_28 : decode cX8_goesIn 28 = .ok (.iconst 0, 1) := by decide +kernel
theorem dX8_goesIn_29 : decode cX8_goesIn 29 = .ok (.iconst 0, 1) := by decide +kernel
theorem dX8_goesIn_30 : decode cX8_goesIn 30 = .ok (.invokevirtual 257, 3) := by decide +kernel
theorem dX8_goesIn_33 : decode cX8_goesIn 33 = .ok (.aload_n 0, 1) := by decide +kernel
theorem dX8_goesIn_34 : decode cX8_goesIn 34 = .ok (.invokevirtual 251, 3) := by decide +kernel
theorem dX8_goesIn_37 : decode cX8_goesIn 37 = .ok (.istore 4, 2) := by decide +kernel
theorem dX8_goesIn_39 : decode cX8_goesIn 39 = .ok (.iload 4, 2) := by decide +kernel
theorem dX8_goesIn_41 : decode cX8_goesIn 41 = .ok (.aload_n 0, 1) := by decide +kernel
theorem dX8_goesIn_42 : decode cX8_goesIn 42 = .ok (.invokevirtual 254, 3) := by decide +kernel
theorem dX8_goesIn_45 : decode cX8_goesIn 45 = .ok (.if_icmp .ge 36, 3) := by decide +kernel
theorem dX8_goesIn_48 : decode cX8_goesIn 48 = .ok (.aload_n 0, 1) := by decide +kernel
theorem dX8_goesIn_49 : decode cX8_goesIn 49 = .ok (.getfield 44, 3) := by decide +kernel
theorem dX8_goesIn_52 : decode cX8_goesIn 52 = .ok (.iload 4, 2) := by decide +kernel
theorem dX8_goesIn_54 : decode cX8_goesIn 54 = .ok (.iaload, 1) := by decide +kernel
theorem dX8_goesIn_55 : decode cX8_goesIn 55 = .ok (.ifCond .ne 20, 3) := by decide +kernel
theorem dX8_goesIn_58 : decode cX8_goesIn 58 = .ok (.aload_n 0, 1) := by decide +kernel
theorem dX8_goesIn_59 : decode cX8_goesIn 59 = .ok (.iload 4, 2) := by decide +kernel
theorem dX8_goesIn_61 : decode cX8_goesIn 61 = .ok (.invokevirtual 261, 3) := by decide +kernel
theorem dX8_goesIn_64 : decode cX8_goesIn 64 = .ok (.ifCond .eq 11, 3) := by decide +kernel
theorem dX8_goesIn_67 : decode cX8_goesIn 67 = .ok (.aload_n 0, 1) := by decide +kernel
theorem dX8_goesIn_68 : decode cX8_goesIn 68 = .ok (.getfield 47, 3) := by decide +kernel
theorem dX8_goesIn_71 : decode cX8_goesIn 71 = .ok (.iload 4, 2) := by decide +kernel
theorem dX8_goesIn_73 : decode cX8_goesIn 73 = .ok (.iaload, 1) := by decide +kernel
theorem dX8_goesIn_74 : decode cX8_goesIn 74 = .ok (.ireturn, 1) := by decide +kernel
theorem dX8_goesIn_75 : decode cX8_goesIn 75 = .ok (.iinc 4 1, 3) := by decide +kernel
theorem dX8_goesIn_78 : decode cX8_goesIn 78 = .ok (.goto (-39), 3) := by decide +kernel
theorem dX8_goesIn_81 : decode cX8_goesIn 81 = .ok (.bipush (-5), 2) := by decide +kernel
theorem dX8_goesIn_83 : decode cX8_goesIn 83 = .ok (.ireturn, 1) := by decide +kernel
theorem dX8_goes_0 : decode cX8_goes 0 = .ok (.aload_n 0, 1) := by decide +kernel
theorem dX8_goes_1 : decode cX8_goes 1 = .ok (.iload_n 1, 1) := by decide +kernel
theorem dX8_goes_2 : decode cX8_goes 2 = .ok (.invokevirtual 193, 3) := by decide +kernel
theorem dX8_goes_5 : decode cX8_goes 5 = .ok (.ifCond .eq 11, 3) := by decide +kernel
theorem dX8_goes_8 : decode cX8_goes 8 = .ok (.aload_n 0, 1) := by decide +kernel
theorem dX8_goes_9 : decode cX8_goes 9 = .ok (.iload_n 2, 1) := by decide +kernel
theorem dX8_goes_10 : decode cX8_goes 10 = .ok (.invokevirtual 193, 3) := by decide +kernel
theorem dX8_goes_13 : decode cX8_goes 13 = .ok (.ifCond .ne 5, 3) := by decide +kernel
theorem dX8_goes_16 : decode cX8_goes 16 = .ok (.iconst (-1), 1) := by decide +kernel
theorem dX8_goes_17 : decode cX8_goes 17 = .ok (.ireturn, 1) := by decide +kernel
theorem dX8_goes_18 : decode cX8_goes 18 = .ok (.iload_n 1, 1) := by decide +kernel
theorem dX8_goes_19 : decode cX8_goes 19 = .ok (.iload_n 2, 1) := by decide +kernel
theorem dX8_goes_20 : decode cX8_goes 20 = .ok (.if_icmp .ne 8, 3) := by decide +kernel
theorem dX8_goes_23 : decode cX8_goes 23 = .ok (.bipush (-2), 2) := by decide +kernel
theorem dX8_goes_25 : decode cX8_goes 25 = .ok (.goto 9, 3) := by decide +kernel
theorem dX8_goes_28 : decode cX8_goes 28 = .ok (.aload_n 0, 1) := by decide +kernel
theorem dX8_goes_29 : decode cX8_goes 29 = .ok (.iload_n 1, 1) := by decide +kernel
theorem dX8_goes_30 : decode cX8_goes 30 = .ok (.iload_n 2, 1) := by decide +kernel
theorem dX8_goes_31 : decode cX8_goes 31 = .ok (.invokevirtual 264, 3) := by decide +kernel
theorem dX8_goes_34 : decode cX8_goes 34 = .ok (.ireturn, 1) := by decide +kernel
theorem dX8_habitOf_0 : decode cX8_habitOf 0 = .ok (.aload_n 0, 1) := by decide +kernel
theorem dX8_habitOf_1 : decode cX8_habitOf 1 = .ok (.iload_n 1, 1) := by decide +kernel
theorem dX8_habitOf_2 : decode cX8_habitOf 2 = .ok (.iconst 0, 1) := by decide +kernel
theorem dX8_habitOf_3 : decode cX8_habitOf 3 = .ok (.iconst 0, 1) := by decide +kernel
theorem dX8_habitOf_4 : decode cX8_habitOf 4 = .ok (.aload_n 0, 1) := by decide +kernel
theorem dX8_habitOf_5 : decode cX8_habitOf 5 = .ok (.getfield 13, 3) := by decide +kernel
theorem dX8_habitOf_8 : decode cX8_habitOf 8 = .ok (.iload_n 1, 1) := by decide +kernel
theorem dX8_habitOf_9 : decode cX8_habitOf 9 = .ok (.iaload, 1) := by decide +kernel
theorem dX8_habitOf_10 : decode cX8_habitOf 10 = .ok (.iload_n 2, 1) := by decide +kernel
theorem dX8_habitOf_11 : decode cX8_habitOf 11 = .ok (.invokevirtual 257, 3) := by decide +kernel
theorem dX8_habitOf_14 : decode cX8_habitOf 14 = .ok (.iconst 0, 1) := by decide +kernel
theorem dX8_habitOf_15 : decode cX8_habitOf 15 = .ok (.istore_n 3, 1) := by decide +kernel
theorem dX8_habitOf_16 : decode cX8_habitOf 16 = .ok (.aload_n 0, 1) := by decide +kernel
theorem dX8_habitOf_17 : decode cX8_habitOf 17 = .ok (.invokevirtual 251, 3) := by decide +kernel
theorem dX8_habitOf_20 : decode cX8_habitOf 20 = .ok (.istore 4, 2) := by decide +kernel
theorem dX8_habitOf_22 : decode cX8_habitOf 22 = .ok (.iload 4, 2) := by decide +kernel
theorem dX8_habitOf_24 : decode cX8_habitOf 24 = .ok (.aload_n 0, 1) := by decide +kernel
theorem dX8_habitOf_25 : decode cX8_habitOf 25 = .ok (.invokevirtual 254, 3) := by decide +kernel
theorem dX8_habitOf_28 : decode cX8_habitOf 28 = .ok (.if_icmp .ge 43, 3) := by decide +kernel
theorem dX8_habitOf_31 : decode cX8_habitOf 31 = .ok (.iload_n 3, 1) := by decide +kernel
theorem dX8_habitOf_32 : decode cX8_habitOf 32 = .ok (.aload_n 0, 1) := by decide +kernel
theorem dX8_habitOf_33 : decode cX8_habitOf 33 = .ok (.getfield 44, 3) := by decide +kernel
theorem dX8_habitOf_36 : decode cX8_habitOf 36 = .ok (.iload 4, 2) := by decide +kernel
theorem dX8_habitOf_38 : decode cX8_habitOf 38 = .ok (.iaload, 1) := by decide +kernel
theorem dX8_habitOf_39 : decode cX8_habitOf 39 = .ok (.iconst 1, 1) := by decide +kernel
theorem dX8_habitOf_40 : decode cX8_habitOf 40 = .ok (.if_icmp .ne 22, 3) := by decide +kernel
theorem dX8_habitOf_43 : decode cX8_habitOf 43 = .ok (.aload_n 0, 1) := by decide +kernel
theorem dX8_habitOf_44 : decode cX8_habitOf 44 = .ok (.iload 4, 2) := by decide +kernel
theorem dX8_habitOf_46 : decode cX8_habitOf 46 = .ok (.invokevirtual 261, 3) := by decide +kernel
theorem dX8_habitOf_49 : decode cX8_habitOf 49 = .ok (.ifCond .eq 13, 3) := by decide +kernel
theorem dX8_habitOf_52 : decode cX8_habitOf 52 = .ok (.aload_n 0, 1) := by decide +kernel
theorem dX8_habitOf_53 : decode cX8_habitOf 53 = .ok (.getfield 47, 3) := by decide +kernel
theorem dX8_habitOf_56 : decode cX8_habitOf 56 = .ok (.iload 4, 2) := by decide +kernel
theorem dX8_habitOf_58 : decode cX8_habitOf 58 = .ok (.iaload, 1) := by decide +kernel
theorem dX8_habitOf_59 : decode cX8_habitOf 59 = .ok (.goto 4, 3) := by decide +kernel
theorem dX8_habitOf_62 : decode cX8_habitOf 62 = .ok (.iconst 0, 1) := by decide +kernel
theorem dX8_habitOf_63 : decode cX8_habitOf 63 = .ok (.iadd, 1) := by decide +kernel
theorem dX8_habitOf_64 : decode cX8_habitOf 64 = .ok (.istore_n 3, 1) := by decide +kernel
theorem dX8_habitOf_65 : decode cX8_habitOf 65 = .ok (.iinc 4 1, 3) := by decide +kernel
theorem dX8_habitOf_68 : decode cX8_habitOf 68 = .ok (.goto (-46), 3) := by decide +kernel
theorem dX8_habitOf_71 : decode cX8_habitOf 71 = .ok (.iload_n 3, 1) := by decide +kernel
theorem dX8_habitOf_72 : decode cX8_habitOf 72 = .ok (.bipush 100, 2) := by decide +kernel
theorem dX8_habitOf_74 : decode cX8_habitOf 74 = .ok (.if_icmp .le 8, 3) := by decide +kernel
theorem dX8_habitOf_77 : decode cX8_habitOf 77 = .ok (.bipush 100, 2) := by decide +kernel
theorem dX8_habitOf_79 : decode cX8_habitOf 79 = .ok (.goto 4, 3) := by decide +kernel
theorem dX8_habitOf_82 : decode cX8_habitOf 82 = .ok (.iload_n 3, 1) := by decide +kernel
theorem dX8_habitOf_83 : decode cX8_habitOf 83 = .ok (.ireturn, 1) := by decide +kernel
theorem dX8_habit_0 : decode cX8_habit 0 = .ok (.aload_n 0, 1) := by decide +kernel
theorem dX8_habit_1 : decode cX8_habit 1 = .ok (.iload_n 1, 1) := by decide +kernel
theorem dX8_habit_2 : decode cX8_habit 2 = .ok (.invokevirtual 193, 3) := by decide +kernel
theorem dX8_habit_5 : decode cX8_habit 5 = .ok (.ifCond .eq 23, 3) := by decide +kernel
theorem dX8_habit_8 : decode cX8_habit 8 = .ok (.aload_n 0, 1) := by decide +kernel
theorem dX8_habit_9 : decode cX8_habit 9 = .ok (.iload_n 2, 1) := by decide +kernel
theorem dX8_habit_10 : decode cX8_habit 10 = .ok (.iconst 0, 1) := by decide +kernel
theorem dX8_habit_11 : decode cX8_habit 11 = .ok (.bipush 8, 2) := by decide +kernel
theorem dX8_habit_13 : decode cX8_habit 13 = .ok (.invokevirtual 189, 3) := by decide +kernel
theorem dX8_habit_16 : decode cX8_habit 16 = .ok (.ifCond .eq 12, 3) := by decide +kernel
theorem dX8_habit_19 : decode cX8_habit 19 = .ok (.aload_n 0, 1) := by decide +kernel
theorem dX8_habit_20 : decode cX8_habit 20 = .ok (.iload_n 1, 1) := by decide +kernel
theorem dX8_habit_21 : decode cX8_habit 21 = .ok (.iload_n 2, 1) := by decide +kernel
theorem dX8_habit_22 : decode cX8_habit 22 = .ok (.invokevirtual 268, 3) := by decide +kernel
theorem dX8_habit_25 : decode cX8_habit 25 = .ok (.goto 4, 3) := by decide +kernel
theorem dX8_habit_28 : decode cX8_habit 28 = .ok (.iconst (-1), 1) := by decide +kernel
theorem dX8_habit_29 : decode cX8_habit 29 = .ok (.ireturn, 1) := by decide +kernel
theorem dX8_layHours_0 : decode cX8_layHours 0 = .ok (.aload_n 0, 1) := by decide +kernel
theorem dX8_layHours_1 : decode cX8_layHours 1 = .ok (.aload_n 0, 1) := by decide +kernel
theorem dX8_layHours_2 : decode cX8_layHours 2 = .ok (.iconst 4, 1) := by decide +kernel
theorem dX8_layHours_3 : decode cX8_layHours 3 = .ok (.bipush 9, 2) := by decide +kernel
theorem dX8_layHours_5 : decode cX8_layHours 5 = .ok (.invokevirtual 271, 3) := by decide +kernel
theorem dX8_layHours_8 : decode cX8_layHours 8 = .ok (.bipush 9, 2) := by decide +kernel
theorem dX8_layHours_10 : decode cX8_layHours 10 = .ok (.if_icmp .le 8, 3) := by decide +kernel
theorem dX8_layHours_13 : decode cX8_layHours 13 = .ok (.bipush 9, 2) := by decide +kernel
theorem dX8_layHours_15 : decode cX8_layHours 15 = .ok (.goto 10, 3) := by decide +kernel
theorem dX8_layHours_18 : decode cX8_layHours 18 = .ok (.aload_n 0, 1) := by decide +kernel
theorem dX8_layHours_19 : decode cX8_layHours 19 = .ok (.iconst 4, 1) := by decide +kernel
theorem dX8_layHours_20 : decode cX8_layHours 20 = .ok (.bipush 9, 2) := by decide +kernel
theorem dX8_layHours_22 : decode cX8_layHours 22 = .ok (.invokevirtual 271, 3) := by decide +kernel
theorem dX8_layHours_25 : decode cX8_layHours 25 = .ok (.putfield 87, 3) := by decide +kernel
theorem dX8_layHours_28 : decode cX8_layHours 28 = .ok (.iconst 0, 1) := by decide +kernel
theorem dX8_layHours_29 : decode cX8_layHours 29 = .ok (.istore_n 1, 1) := by decide +kernel
theorem dX8_layHours_30 : decode cX8_layHours 30 = .ok (.iload_n 1, 1) := by decide +kernel
theorem dX8_layHours_31 : decode cX8_layHours 31 = .ok (.aload_n 0, 1) := by decide +kernel
theorem dX8_layHours_32 : decode cX8_layHours 32 = .ok (.getfield 7, 3) := by decide +kernel
theorem dX8_layHours_35 : decode cX8_layHours 35 = .ok (.if_icmp .ge 42, 3) := by decide +kernel
theorem dX8_layHours_38 : decode cX8_layHours 38 = .ok (.iconst 0, 1) := by decide +kernel
theorem dX8_layHours_39 : decode cX8_layHours 39 = .ok (.istore_n 2, 1) := by decide +kernel
theorem dX8_layHours_40 : decode cX8_layHours 40 = .ok (.iload_n 2, 1) := by decide +kernel
theorem dX8_layHours_41 : decode cX8_layHours 41 = .ok (.aload_n 0, 1) := by decide +kernel
theorem dX8_layHours_42 : decode cX8_layHours 42 = .ok (.getfield 7, 3) := by decide +kernel
theorem dX8_layHours_45 : decode cX8_layHours 45 = .ok (.if_icmp .ge 26, 3) := by decide +kernel
theorem dX8_layHours_48 : decode cX8_layHours 48 = .ok (.aload_n 0, 1) := by decide +kernel
theorem dX8_layHours_49 : decode cX8_layHours 49 = .ok (.getfield 78, 3) := by decide +kernel
theorem dX8_layHours_52 : decode cX8_layHours 52 = .ok (.bipush 8, 2) := by decide +kernel
theorem dX8_layHours_54 : decode cX8_layHours 54 = .ok (.iload_n 1, 1) := by decide +kernel
theorem dX8_layHours_55 : decode cX8_layHours 55 = .ok (.imul, 1) := by decide +kernel
theorem dX8_layHours_56 : decode cX8_layHours 56 = .ok (.iload_n 2, 1) := by decide +kernel
theorem dX8_layHours_57 : decode cX8_layHours 57 = .ok (.iadd, 1) := by decide +kernel
theorem dX8_layHours_58 : decode cX8_layHours 58 = .ok (.aload_n 0, 1) := by decide +kernel
theorem dX8_layHours_59 : decode cX8_layHours 59 = .ok (.iload_n 1, 1) := by decide +kernel
theorem dX8_layHours_60 : decode cX8_layHours 60 = .ok (.iload_n 2, 1) := by decide +kernel
theorem dX8_layHours_61 : decode cX8_layHours 61 = .ok (.invokevirtual 264, 3) := by decide +kernel
theorem dX8_layHours_64 : decode cX8_layHours 64 = .ok (.iastore, 1) := by decide +kernel
theorem dX8_layHours_65 : decode cX8_layHours 65 = .ok (.iinc 2 1, 3) := by decide +kernel
theorem dX8_layHours_68 : decode cX8_layHours 68 = .ok (.goto (-28), 3) := by decide +kernel
theorem dX8_layHours_71 : decode cX8_layHours 71 = .ok (.iinc 1 1, 3) := by decide +kernel
theorem dX8_layHours_74 : decode cX8_layHours 74 = .ok (.goto (-44), 3) := by decide +kernel
theorem dX8_layHours_77 : decode cX8_layHours 77 = .ok (.return_, 1) := by decide +kernel
theorem dX8_spread_0 : decode cX8_spread 0 = .ok (.iconst 0, 1) := by decide +kernel
theorem dX8_spread_1 : decode cX8_spread 1 = .ok (.istore_n 2, 1) := by decide +kernel
theorem dX8_spread_2 : decode cX8_spread 2 = .ok (.iload_n 2, 1) := by decide +kernel
theorem dX8_spread_3 : decode cX8_spread 3 = .ok (.aload_n 0, 1) := by decide +kernel
theorem dX8_spread_4 : decode cX8_spread 4 = .ok (.getfield 7, 3) := by decide +kernel
theorem dX8_spread_7 : decode cX8_spread 7 = .ok (.if_icmp .ge 36, 3) := by decide +kernel
theorem dX8_spread_10 : decode cX8_spread 10 = .ok (.aload_n 0, 1) := by decide +kernel
theorem dX8_spread_11 : decode cX8_spread 11 = .ok (.getfield 81, 3) := by decide +kernel
theorem dX8_spread_14 : decode cX8_spread 14 = .ok (.iload_n 2, 1) := by decide +kernel
theorem dX8_spread_15 : decode cX8_spread 15 = .ok (.aload_n 0, 1) := by decide +kernel
theorem dX8_spread_16 : decode cX8_spread 16 = .ok (.getfield 20, 3) := by decide +kernel
theorem dX8_spread_19 : decode cX8_spread 19 = .ok (.iload_n 2, 1) := by decide +kernel
theorem dX8_spread_20 : decode cX8_spread 20 = .ok (.iaload, 1) := by decide +kernel
theorem dX8_spread_21 : decode cX8_spread 21 = .ok (.ifCond .ge 9, 3) := by decide +kernel
theorem dX8_spread_24 : decode cX8_spread 24 = .ok (.ldc_w 274, 3) := by decide +kernel
theorem dX8_spread_27 : decode cX8_spread 27 = .ok (.goto 9, 3) := by decide +kernel
theorem dX8_spread_30 : decode cX8_spread 30 = .ok (.aload_n 0, 1) := by decide +kernel
theorem dX8_spread_31 : decode cX8_spread 31 = .ok (.getfield 20, 3) := by decide +kernel
theorem dX8_spread_34 : decode cX8_spread 34 = .ok (.iload_n 2, 1) := by decide +kernel
theorem dX8_spread_35 : decode cX8_spread 35 = .ok (.iaload, 1) := by decide +kernel
theorem dX8_spread_36 : decode cX8_spread 36 = .ok (.iastore, 1) := by decide +kernel
theorem dX8_spread_37 : decode cX8_spread 37 = .ok (.iinc 2 1, 3) := by decide +kernel
theorem dX8_spread_40 : decode cX8_spread 40 = .ok (.goto (-38), 3) := by decide +kernel
theorem dX8_spread_43 : decode cX8_spread 43 = .ok (.iconst 1, 1) := by decide +kernel
theorem dX8_spread_44 : decode cX8_spread 44 = .ok (.istore_n 2, 1) := by decide +kernel
theorem dX8_spread_45 : decode cX8_spread 45 = .ok (.iload_n 2, 1) := by decide +kernel
theorem dX8_spread_46 : decode cX8_spread 46 = .ok (.aload_n 0, 1) := by decide +kernel
theorem dX8_spread_47 : decode cX8_spread 47 = .ok (.getfield 87, 3) := by decide +kernel
theorem dX8_spread_50 : decode cX8_spread 50 = .ok (.if_icmp .gt 154, 3) := by decide +kernel
theorem dX8_spread_53 : decode cX8_spread 53 = .ok (.iconst 0, 1) := by decide +kernel
theorem dX8_spread_54 : decode cX8_spread 54 = .ok (.istore_n 3, 1) := by decide +kernel
theorem dX8_spread_55 : decode cX8_spread 55 = .ok (.iload_n 3, 1) := by decide +kernel
theorem dX8_spread_56 : decode cX8_spread 56 = .ok (.aload_n 0, 1) := by decide +kernel
theorem dX8_spread_57 : decode cX8_spread 57 = .ok (.getfield 7, 3) := by decide +kernel
theorem dX8_spread_60 : decode cX8_spread 60 = .ok (.if_icmp .ge 138, 3) := by decide +kernel
theorem dX8_spread_63 : decode cX8_spread 63 = .ok (.ldc_w 274, 3) := by decide +kernel
theorem dX8_spread_66 : decode cX8_spread 66 = .ok (.istore 4, 2) := by decide +kernel
theorem dX8_spread_68 : decode cX8_spread 68 = .ok (.iconst 0, 1) := by decide +kernel
theorem dX8_spread_69 : decode cX8_spread 69 = .ok (.istore 5, 2) := by decide +kernel
theorem dX8_spread_71 : decode cX8_spread 71 = .ok (.iload 5, 2) := by decide +kernel
theorem dX8_spread_73 : decode cX8_spread 73 = .ok (.aload_n 0, 1) := by decide +kernel
theorem dX8_spread_74 : decode cX8_spread 74 = .ok (.getfield 7, 3) := by decide +kernel
theorem dX8_spread_77 : decode cX8_spread 77 = .ok (.if_icmp .ge 102, 3) := by decide +kernel
theorem dX8_spread_80 : decode cX8_spread 80 = .ok (.aload_n 0, 1) := by decide +kernel
theorem dX8_spread_81 : decode cX8_spread 81 = .ok (.iload_n 1, 1) := by decide +kernel
theorem dX8_spread_82 : decode cX8_spread 82 = .ok (.iload 5, 2) := by decide +kernel
theorem dX8_spread_84 : decode cX8_spread 84 = .ok (.invokevirtual 275, 3) := by decide +kernel
theorem dX8_spread_87 : decode cX8_spread 87 = .ok (.ifCond .ne 86, 3) := by decide +kernel
theorem dX8_spread_90 : decode cX8_spread 90 = .ok (.aload_n 0, 1) := by decide +kernel
theorem dX8_spread_91 : decode cX8_spread 91 = .ok (.getfield 78, 3) := by decide +kernel
theorem dX8_spread_94 : decode cX8_spread 94 = .ok (.bipush 8, 2) := by decide +kernel
theorem dX8_spread_96 : decode cX8_spread 96 = .ok (.iload 5, 2) := by decide +kernel
theorem dX8_spread_98 : decode cX8_spread 98 = .ok (.imul, 1) := by decide +kernel
theorem dX8_spread_99 : decode cX8_spread 99 = .ok (.iload_n 3, 1) := by decide +kernel
theorem dX8_spread_100 : decode cX8_spread 100 = .ok (.iadd, 1) := by decide +kernel
theorem dX8_spread_101 : decode cX8_spread 101 = .ok (.iaload, 1) := by decide +kernel
theorem dX8_spread_102 : decode cX8_spread 102 = .ok (.ifCond .lt 71, 3) := by decide +kernel
theorem dX8_spread_105 : decode cX8_spread 105 = .ok (.aload_n 0, 1) := by decide +kernel
theorem dX8_spread_106 : decode cX8_spread 106 = .ok (.getfield 81, 3) := by decide +kernel
theorem dX8_spread_109 : decode cX8_spread 109 = .ok (.bipush 8, 2) := by decide +kernel
theorem dX8_spread_111 : decode cX8_spread 111 = .ok (.iload_n 2, 1) := by decide +kernel
theorem dX8_spread_112 : decode cX8_spread 112 = .ok (.iconst 1, 1) := by decide +kernel
theorem dX8_spread_113 : decode cX8_spread 113 = .ok (.isub, 1) := by decide +kernel
theorem dX8_spread_114 : decode cX8_spread 114 = .ok (.imul, 1) := by decide +kernel
theorem dX8_spread_115 : decode cX8_spread 115 = .ok (.iload 5, 2) := by decide +kernel
theorem dX8_spread_117 : decode cX8_spread 117 = .ok (.iadd, 1) := by decide +kernel
theorem dX8_spread_118 : decode cX8_spread 118 = .ok (.iaload, 1) := by decide +kernel
theorem dX8_spread_119 : decode cX8_spread 119 = .ok (.ldc_w 274, 3) := by decide +kernel
theorem dX8_spread_122 : decode cX8_spread 122 = .ok (.if_icmp .lt 6, 3) := by decide +kernel
theorem dX8_spread_125 : decode cX8_spread 125 = .ok (.goto 48, 3) := by decide +kernel
theorem dX8_spread_128 : decode cX8_spread 128 = .ok (.aload_n 0, 1) := by decide +kernel
theorem dX8_spread_129 : decode cX8_spread 129 = .ok (.getfield 81, 3) := by decide +kernel
theorem dX8_spread_132 : decode cX8_spread 132 = .ok (.bipush 8, 2) := by decide +kernel
theorem dX8_spread_134 : decode cX8_spread 134 = .ok (.iload_n 2, 1) := by decide +kernel
theorem dX8_spread_135 : decode cX8_spread 135 = .ok (.iconst 1, 1) := by decide +kernel
theorem dX8_spread_136 : decode cX8_spread 136 = .ok (.isub, 1) := by decide +kernel
theorem dX8_spread_137 : decode cX8_spread 137 = .ok (.imul, 1) := by decide +kernel
theorem dX8_spread_138 : decode cX8_spread 138 = .ok (.iload 5, 2) := by decide +kernel
theorem dX8_spread_140 : decode cX8_spread 140 = .ok (.iadd, 1) := by decide +kernel
theorem dX8_spread_141 : decode cX8_spread 141 = .ok (.iaload, 1) := by decide +kernel
theorem dX8_spread_142 : decode cX8_spread 142 = .ok (.aload_n 0, 1) := by decide +kernel
theorem dX8_spread_143 : decode cX8_spread 143 = .ok (.getfield 78, 3) := by decide +kernel
theorem dX8_spread_146 : decode cX8_spread 146 = .ok (.bipush 8, 2) := by decide +kernel
theorem dX8_spread_148 : decode cX8_spread 148 = .ok (.iload 5, 2) := by decide +kernel
theorem dX8_spread_150 : decode cX8_spread 150 = .ok (.imul, 1) := by decide +kernel
theorem dX8_spread_151 : decode cX8_spread 151 = .ok (.iload_n 3, 1) := by decide +kernel
theorem dX8_spread_152 : decode cX8_spread 152 = .ok (.iadd, 1) := by decide +kernel
theorem dX8_spread_153 : decode cX8_spread 153 = .ok (.iaload, 1) := by decide +kernel
theorem dX8_spread_154 : decode cX8_spread 154 = .ok (.iadd, 1) := by decide +kernel
theorem dX8_spread_155 : decode cX8_spread 155 = .ok (.istore 6, 2) := by decide +kernel
theorem dX8_spread_157 : decode cX8_spread 157 = .ok (.iload 6, 2) := by decide +kernel
theorem dX8_spread_159 : decode cX8_spread 159 = .ok (.iload 4, 2) := by decide +kernel
theorem dX8_spread_161 : decode cX8_spread 161 = .ok (.if_icmp .ge 8, 3) := by decide +kernel
theorem dX8_spread_164 : decode cX8_spread 164 = .ok (.iload 6, 2) := by decide +kernel
theorem dX8_spread_166 : decode cX8_spread 166 = .ok (.goto 5, 3) := by decide +kernel
theorem dX8_spread_169 : decode cX8_spread 169 = .ok (.iload 4, 2) := by decide +kernel
theorem dX8_spread_171 : decode cX8_spread 171 = .ok (.istore 4, 2) := by decide +kernel
theorem dX8_spread_173 : decode cX8_spread 173 = .ok (.iinc 5 1, 3) := by decide +kernel
theorem dX8_spread_176 : decode cX8_spread 176 = .ok (.goto (-105), 3) := by decide +kernel
theorem dX8_spread_179 : decode cX8_spread 179 = .ok (.aload_n 0, 1) := by decide +kernel
theorem dX8_spread_180 : decode cX8_spread 180 = .ok (.getfield 81, 3) := by decide +kernel
theorem dX8_spread_183 : decode cX8_spread 183 = .ok (.bipush 8, 2) := by decide +kernel
theorem dX8_spread_185 : decode cX8_spread 185 = .ok (.iload_n 2, 1) := by decide +kernel
theorem dX8_spread_186 : decode cX8_spread 186 = .ok (.imul, 1) := by decide +kernel
theorem dX8_spread_187 : decode cX8_spread 187 = .ok (.iload_n 3, 1) := by decide +kernel
theorem dX8_spread_188 : decode cX8_spread 188 = .ok (.iadd, 1) := by decide +kernel
theorem dX8_spread_189 : decode cX8_spread 189 = .ok (.iload 4, 2) := by decide +kernel
theorem dX8_spread_191 : decode cX8_spread 191 = .ok (.iastore, 1) := by decide +kernel
theorem dX8_spread_192 : decode cX8_spread 192 = .ok (.iinc 3 1, 3) := by decide +kernel
theorem dX8_spread_195 : decode cX8_spread 195 = .ok (.goto (-140), 3) := by decide +kernel
theorem dX8_spread_198 : decode cX8_spread 198 = .ok (.iinc 2 1, 3) := by decide +kernel
theorem dX8_spread_201 : decode cX8_spread 201 = .ok (.goto (-156), 3) := by decide +kernel
theorem dX8_spread_204 : decode cX8_spread 204 = .ok (.return_, 1) := by decide +kernel
theorem dX8_earliest_0 : decode cX8_earliest 0 = .ok (.ldc_w 274, 3) := by decide +kernel
theorem dX8_earliest_3 : decode cX8_earliest 3 = .ok (.istore_n 2, 1) := by decide +kernel
theorem dX8_earliest_4 : decode cX8_earliest 4 = .ok (.iconst 0, 1) := by decide +kernel
theorem dX8_earliest_5 : decode cX8_earliest 5 = .ok (.istore_n 3, 1) := by decide +kernel
theorem dX8_earliest_6 : decode cX8_earliest 6 = .ok (.iload_n 3, 1) := by decide +kernel
theorem dX8_earliest_7 : decode cX8_earliest 7 = .ok (.aload_n 0, 1) := by decide +kernel
theorem dX8_earliest_8 : decode cX8_earliest 8 = .ok (.getfield 87, 3) := by decide +kernel
theorem dX8_earliest_11 : decode cX8_earliest 11 = .ok (.if_icmp .gt 40, 3) := by decide +kernel
theorem dX8_earliest_14 : decode cX8_earliest 14 = .ok (.aload_n 0, 1) := by decide +kernel
theorem dX8_earliest_15 : decode cX8_earliest 15 = .ok (.getfield 81, 3) := by decide +kernel
theorem dX8_earliest_18 : decode cX8_earliest 18 = .ok (.bipush 8, 2) := by decide +kernel
theorem dX8_earliest_20 : decode cX8_earliest 20 = .ok (.iload_n 3, 1) := by decide +kernel
theorem dX8_earliest_21 : decode cX8_earliest 21 = .ok (.imul, 1) := by decide +kernel
theorem dX8_earliest_22 : decode cX8_earliest 22 = .ok (.iload_n 1, 1) := by decide +kernel
theorem dX8_earliest_23 : decode cX8_earliest 23 = .ok (.iadd, 1) := by decide +kernel
theorem dX8_earliest_24 : decode cX8_earliest 24 = .ok (.iaload, 1) := by decide +kernel
theorem dX8_earliest_25 : decode cX8_earliest 25 = .ok (.iload_n 2, 1) := by decide +kernel
theorem dX8_earliest_26 : decode cX8_earliest 26 = .ok (.if_icmp .ge 17, 3) := by decide +kernel
theorem dX8_earliest_29 : decode cX8_earliest 29 = .ok (.aload_n 0, 1) := by decide +kernel
theorem dX8_earliest_30 : decode cX8_earliest 30 = .ok (.getfield 81, 3) := by decide +kernel
theorem dX8_earliest_33 : decode cX8_earliest 33 = .ok (.bipush 8, 2) := by decide +kernel
theorem dX8_earliest_35 : decode cX8_earliest 35 = .ok (.iload_n 3, 1) := by decide +kernel
theorem dX8_earliest_36 : decode cX8_earliest 36 = .ok (.imul, 1) := by decide +kernel
theorem dX8_earliest_37 : decode cX8_earliest 37 = .ok (.iload_n 1, 1) := by decide +kernel
theorem dX8_earliest_38 : decode cX8_earliest 38 = .ok (.iadd, 1) := by decide +kernel
theorem dX8_earliest_39 : decode cX8_earliest 39 = .ok (.iaload, 1) := by decide +kernel
theorem dX8_earliest_40 : decode cX8_earliest 40 = .ok (.goto 4, 3) := by decide +kernel
theorem dX8_earliest_43 : decode cX8_earliest 43 = .ok (.iload_n 2, 1) := by decide +kernel
theorem dX8_earliest_44 : decode cX8_earliest 44 = .ok (.istore_n 2, 1) := by decide +kernel
theorem dX8_earliest_45 : decode cX8_earliest 45 = .ok (.iinc 3 1, 3) := by decide +kernel
theorem dX8_earliest_48 : decode cX8_earliest 48 = .ok (.goto (-42), 3) := by decide +kernel
theorem dX8_earliest_51 : decode cX8_earliest 51 = .ok (.iload_n 2, 1) := by decide +kernel
theorem dX8_earliest_52 : decode cX8_earliest 52 = .ok (.ireturn, 1) := by decide +kernel
theorem dX8_knows_0 : decode cX8_knows 0 = .ok (.aload_n 0, 1) := by decide +kernel
theorem dX8_knows_1 : decode cX8_knows 1 = .ok (.iload_n 1, 1) := by decide +kernel
theorem dX8_knows_2 : decode cX8_knows 2 = .ok (.invokevirtual 193, 3) := by decide +kernel
theorem dX8_knows_5 : decode cX8_knows 5 = .ok (.ifCond .ne 5, 3) := by decide +kernel
theorem dX8_knows_8 : decode cX8_knows 8 = .ok (.iconst (-1), 1) := by decide +kernel
theorem dX8_knows_9 : decode cX8_knows 9 = .ok (.ireturn, 1) := by decide +kernel
theorem dX8_knows_10 : decode cX8_knows 10 = .ok (.aload_n 0, 1) := by decide +kernel
theorem dX8_knows_11 : decode cX8_knows 11 = .ok (.invokevirtual 278, 3) := by decide +kernel
theorem dX8_knows_14 : decode cX8_knows 14 = .ok (.aload_n 0, 1) := by decide +kernel
theorem dX8_knows_15 : decode cX8_knows 15 = .ok (.iconst 0, 1) := by decide +kernel
theorem dX8_knows_16 : decode cX8_knows 16 = .ok (.invokevirtual 281, 3) := by decide +kernel
theorem dX8_knows_19 : decode cX8_knows 19 = .ok (.aload_n 0, 1) := by decide +kernel
theorem dX8_knows_20 : decode cX8_knows 20 = .ok (.iload_n 1, 1) := by decide +kernel
theorem dX8_knows_21 : decode cX8_knows 21 = .ok (.invokevirtual 284, 3) := by decide +kernel
theorem dX8_knows_24 : decode cX8_knows 24 = .ok (.ldc_w 274, 3) := by decide +kernel
theorem dX8_knows_27 : decode cX8_knows 27 = .ok (.if_icmp .ge 11, 3) := by decide +kernel
theorem dX8_knows_30 : decode cX8_knows 30 = .ok (.aload_n 0, 1) := by decide +kernel
theorem dX8_knows_31 : decode cX8_knows 31 = .ok (.iload_n 1, 1) := by decide +kernel
theorem dX8_knows_32 : decode cX8_knows 32 = .ok (.invokevirtual 284, 3) := by decide +kernel
theorem dX8_knows_35 : decode cX8_knows 35 = .ok (.goto 5, 3) := by decide +kernel
theorem dX8_knows_38 : decode cX8_knows 38 = .ok (.bipush (-5), 2) := by decide +kernel
theorem dX8_knows_40 : decode cX8_knows 40 = .ok (.ireturn, 1) := by decide +kernel
theorem dX8_findWay_0 : decode cX8_findWay 0 = .ok (.aload_n 0, 1) := by decide +kernel
theorem dX8_findWay_1 : decode cX8_findWay 1 = .ok (.invokevirtual 278, 3) := by decide +kernel
theorem dX8_findWay_4 : decode cX8_findWay 4 = .ok (.aload_n 0, 1) := by decide +kernel
theorem dX8_findWay_5 : decode cX8_findWay 5 = .ok (.iconst 0, 1) := by decide +kernel
theorem dX8_findWay_6 : decode cX8_findWay 6 = .ok (.invokevirtual 281, 3) := by decide +kernel
theorem dX8_findWay_9 : decode cX8_findWay 9 = .ok (.aload_n 0, 1) := by decide +kernel
theorem dX8_findWay_10 : decode cX8_findWay 10 = .ok (.iload_n 1, 1) := by decide +kernel
theorem dX8_findWay_11 : decode cX8_findWay 11 = .ok (.invokevirtual 284, 3) := by decide +kernel
theorem dX8_findWay_14 : decode cX8_findWay 14 = .ok (.istore_n 2, 1) := by decide +kernel
theorem dX8_findWay_15 : decode cX8_findWay 15 = .ok (.iload_n 2, 1) := by decide +kernel
theorem dX8_findWay_16 : decode cX8_findWay 16 = .ok (.ldc_w 274, 3) := by decide +kernel
theorem dX8_findWay_19 : decode cX8_findWay 19 = .ok (.if_icmp .lt 5, 3) := by decide +kernel
theorem dX8_findWay_22 : decode cX8_findWay 22 = .ok (.iconst 0, 1) := by decide +kernel
theorem dX8_findWay_23 : decode cX8_findWay 23 = .ok (.ireturn, 1) := by decide +kernel
theorem dX8_findWay_24 : decode cX8_findWay 24 = .ok (.iconst 0, 1) := by decide +kernel
theorem dX8_findWay_25 : decode cX8_findWay 25 = .ok (.istore_n 3, 1) := by decide +kernel
theorem dX8_findWay_26 : decode cX8_findWay 26 = .ok (.aload_n 0, 1) := by decide +kernel
theorem dX8_findWay_27 : decode cX8_findWay 27 = .ok (.getfield 81, 3) := by decide +kernel
theorem dX8_findWay_30 : decode cX8_findWay 30 = .ok (.bipush 8, 2) := by decide +kernel
theorem dX8_findWay_32 : decode cX8_findWay 32 = .ok (.iload_n 3, 1) := by decide +kernel
theorem dX8_findWay_33 : decode cX8_findWay 33 = .ok (.imul, 1) := by decide +kernel
theorem dX8_findWay_34 : decode cX8_findWay 34 = .ok (.iload_n 1, 1) := by decide +kernel
theorem dX8_findWay_35 : decode cX8_findWay 35 = .ok (.iadd, 1) := by decide +kernel
theorem dX8_findWay_36 : decode cX8_findWay 36 = .ok (.iaload, 1) := by decide +kernel
theorem dX8_findWay_37 : decode cX8_findWay 37 = .ok (.iload_n 2, 1) := by decide +kernel
theorem dX8_findWay_38 : decode cX8_findWay 38 = .ok (.if_icmp .eq 9, 3) := by decide +kernel
theorem dX8_findWay_41 : decode cX8_findWay 41 = .ok (.iinc 3 1, 3) := by decide +kernel
theorem dX8_findWay_44 : decode cX8_findWay 44 = .ok (.goto (-18), 3) := by decide +kernel
theorem dX8_findWay_47 : decode cX8_findWay 47 = .ok (.iconst 0, 1) := by decide +kernel
theorem dX8_findWay_48 : decode cX8_findWay 48 = .ok (.istore 4, 2) := by decide +kernel
theorem dX8_findWay_50 : decode cX8_findWay 50 = .ok (.iload 4, 2) := by decide +kernel
theorem dX8_findWay_52 : decode cX8_findWay 52 = .ok (.aload_n 0, 1) := by decide +kernel
theorem dX8_findWay_53 : decode cX8_findWay 53 = .ok (.getfield 7, 3) := by decide +kernel
theorem dX8_findWay_56 : decode cX8_findWay 56 = .ok (.if_icmp .ge 29, 3) := by decide +kernel
theorem dX8_findWay_59 : decode cX8_findWay 59 = .ok (.aload_n 0, 1) := by decide +kernel
theorem dX8_findWay_60 : decode cX8_findWay 60 = .ok (.getfield 84, 3) := by decide +kernel
theorem dX8_findWay_63 : decode cX8_findWay 63 = .ok (.iload 4, 2) := by decide +kernel
theorem dX8_findWay_65 : decode cX8_findWay 65 = .ok (.iload 4, 2) := by decide +kernel
theorem dX8_findWay_67 : decode cX8_findWay 67 = .ok (.iload_n 1, 1) := by decide +kernel
theorem dX8_findWay_68 : decode cX8_findWay 68 = .ok (.if_icmp .ne 7, 3) := by decide +kernel
theorem dX8_findWay_71 : decode cX8_findWay 71 = .ok (.iconst 0, 1) := by decide +kernel
theorem dX8_findWay_72 : decode cX8_findWay 72 = .ok (.goto 6, 3) := by decide +kernel
theorem dX8_findWay_75 : decode cX8_findWay 75 = .ok (.ldc_w 274, 3) := by decide +kernel
theorem dX8_findWay_78 : decode cX8_findWay 78 = .ok (.iastore, 1) := by decide +kernel
theorem dX8_findWay_79 : decode cX8_findWay 79 = .ok (.iinc 4 1, 3) := by decide +kernel
theorem dX8_findWay_82 : decode cX8_findWay 82 = .ok (.goto (-32), 3) := by decide +kernel
theorem dX8_findWay_85 : decode cX8_findWay 85 = .ok (.iconst 1, 1) := by decide +kernel
theorem dX8_findWay_86 : decode cX8_findWay 86 = .ok (.istore 4, 2) := by decide +kernel
theorem dX8_findWay_88 : decode cX8_findWay 88 = .ok (.iload 4, 2) := by decide +kernel
theorem dX8_findWay_90 : decode cX8_findWay 90 = .ok (.iload_n 3, 1) := by decide +kernel
theorem dX8_findWay_91 : decode cX8_findWay 91 = .ok (.if_icmp .gt 152, 3) := by decide +kernel
theorem dX8_findWay_94 : decode cX8_findWay 94 = .ok (.iconst 0, 1) := by decide +kernel
theorem dX8_findWay_95 : decode cX8_findWay 95 = .ok (.istore 5, 2) := by decide +kernel
theorem dX8_findWay_97 : decode cX8_findWay 97 = .ok (.iload 5, 2) := by decide +kernel
theorem dX8_findWay_99 : decode cX8_findWay 99 = .ok (.aload_n 0, 1) := by decide +kernel
theorem dX8_findWay_100 : decode cX8_findWay 100 = .ok (.getfield 7, 3) := by decide +kernel
theorem dX8_findWay_103 : decode cX8_findWay 103 = .ok (.if_icmp .ge 134, 3) := by decide +kernel
theorem dX8_findWay_106 : decode cX8_findWay 106 = .ok (.ldc_w 274, 3) := by decide +kernel
theorem dX8_findWay_109 : decode cX8_findWay 109 = .ok (.istore 6, 2) := by decide +kernel
theorem dX8_findWay_111 : decode cX8_findWay 111 = .ok (.iconst 0, 1) := by decide +kernel
theorem dX8_findWay_112 : decode cX8_findWay 112 = .ok (.istore 7, 2) := by decide +kernel
theorem dX8_findWay_114 : decode cX8_findWay 114 = .ok (.iload 7, 2) := by decide +kernel
theorem dX8_findWay_116 : decode cX8_findWay 116 = .ok (.aload_n 0, 1) := by decide +kernel
theorem dX8_findWay_117 : decode cX8_findWay 117 = .ok (.getfield 7, 3) := by decide +kernel
theorem dX8_findWay_120 : decode cX8_findWay 120 = .ok (.if_icmp .ge 96, 3) := by decide +kernel
theorem dX8_findWay_123 : decode cX8_findWay 123 = .ok (.aload_n 0, 1) := by decide +kernel
theorem dX8_findWay_124 : decode cX8_findWay 124 = .ok (.getfield 78, 3) := by decide +kernel
theorem dX8_findWay_127 : decode cX8_findWay 127 = .ok (.bipush 8, 2) := by decide +kernel
theorem dX8_findWay_129 : decode cX8_findWay 129 = .ok (.iload 5, 2) := by decide +kernel
theorem dX8_findWay_131 : decode cX8_findWay 131 = .ok (.imul, 1) := by decide +kernel
theorem dX8_findWay_132 : decode cX8_findWay 132 = .ok (.iload 7, 2) := by decide +kernel
theorem dX8_findWay_134 : decode cX8_findWay 134 = .ok (.iadd, 1) := by decide +kernel
theorem dX8_findWay_135 : decode cX8_findWay 135 = .ok (.iaload, 1) := by decide +kernel
theorem dX8_findWay_136 : decode cX8_findWay 136 = .ok (.ifCond .lt 74, 3) := by decide +kernel
theorem dX8_findWay_139 : decode cX8_findWay 139 = .ok (.aload_n 0, 1) := by decide +kernel
theorem dX8_findWay_140 : decode cX8_findWay 140 = .ok (.getfield 84, 3) := by decide +kernel
theorem dX8_findWay_143 : decode cX8_findWay 143 = .ok (.bipush 8, 2) := by decide +kernel
theorem dX8_findWay_145 : decode cX8_findWay 145 = .ok (.iload 4, 2) := by decide +kernel
theorem dX8_findWay_147 : decode cX8_findWay 147 = .ok (.iconst 1, 1) := by decide +kernel
theorem dX8_findWay_148 : decode cX8_findWay 148 = .ok (.isub, 1) := by decide +kernel
theorem dX8_findWay_149 : decode cX8_findWay 149 = .ok (.imul, 1) := by decide +kernel
theorem dX8_findWay_150 : decode cX8_findWay 150 = .ok (.iload 7, 2) := by decide +kernel
theorem dX8_findWay_152 : decode cX8_findWay 152 = .ok (.iadd, 1) := by decide +kernel
theorem dX8_findWay_153 : decode cX8_findWay 153 = .ok (.iaload, 1) := by decide +kernel
theorem dX8_findWay_154 : decode cX8_findWay 154 = .ok (.ldc_w 274, 3) := by decide +kernel
theorem dX8_findWay_157 : decode cX8_findWay 157 = .ok (.if_icmp .lt 6, 3) := by decide +kernel
theorem dX8_findWay_160 : decode cX8_findWay 160 = .ok (.goto 50, 3) := by decide +kernel
theorem dX8_findWay_163 : decode cX8_findWay 163 = .ok (.aload_n 0, 1) := by decide +kernel
theorem dX8_findWay_164 : decode cX8_findWay 164 = .ok (.getfield 78, 3) := by decide +kernel
theorem dX8_findWay_167 : decode cX8_findWay 167 = .ok (.bipush 8, 2) := by decide +kernel
theorem dX8_findWay_169 : decode cX8_findWay 169 = .ok (.iload 5, 2) := by decide +kernel
theorem dX8_findWay_171 : decode cX8_findWay 171 = .ok (.imul, 1) := by decide +kernel
theorem dX8_findWay_172 : decode cX8_findWay 172 = .ok (.iload 7, 2) := by decide +kernel
theorem dX8_findWay_174 : decode cX8_findWay 174 = .ok (.iadd, 1) := by decide +kernel
theorem dX8_findWay_175 : decode cX8_findWay 175 = .ok (.iaload, 1) := by decide +kernel
theorem dX8_findWay_176 : decode cX8_findWay 176 = .ok (.aload_n 0, 1) := by decide +kernel
theorem dX8_findWay_177 : decode cX8_findWay 177 = .ok (.getfield 84, 3) := by decide +kernel
theorem dX8_findWay_180 : decode cX8_findWay 180 = .ok (.bipush 8, 2) := by decide +kernel
theorem dX8_findWay_182 : decode cX8_findWay 182 = .ok (.iload 4, 2) := by decide +kernel
theorem dX8_findWay_184 : decode cX8_findWay 184 = .ok (.iconst 1, 1) := by decide +kernel
theorem dX8_findWay_185 : decode cX8_findWay 185 = .ok (.isub, 1) := by decide +kernel
theorem dX8_findWay_186 : decode cX8_findWay 186 = .ok (.imul, 1) := by decide +kernel
theorem dX8_findWay_187 : decode cX8_findWay 187 = .ok (.iload 7, 2) := by decide +kernel
theorem dX8_findWay_189 : decode cX8_findWay 189 = .ok (.iadd, 1) := by decide +kernel
theorem dX8_findWay_190 : decode cX8_findWay 190 = .ok (.iaload, 1) := by decide +kernel
theorem dX8_findWay_191 : decode cX8_findWay 191 = .ok (.iadd, 1) := by decide +kernel
theorem dX8_findWay_192 : decode cX8_findWay 192 = .ok (.istore 8, 2) := by decide +kernel
theorem dX8_findWay_194 : decode cX8_findWay 194 = .ok (.iload 8, 2) := by decide +kernel
theorem dX8_findWay_196 : decode cX8_findWay 196 = .ok (.iload 6, 2) := by decide +kernel
theorem dX8_findWay_198 : decode cX8_findWay 198 = .ok (.if_icmp .ge 8, 3) := by decide +kernel
theorem dX8_findWay_201 : decode cX8_findWay 201 = .ok (.iload 8, 2) := by decide +kernel
theorem dX8_findWay_203 : decode cX8_findWay 203 = .ok (.goto 5, 3) := by decide +kernel
theorem dX8_findWay_206 : decode cX8_findWay 206 = .ok (.iload 6, 2) := by decide +kernel
theorem dX8_findWay_208 : decode cX8_findWay 208 = .ok (.istore 6, 2) := by decide +kernel
theorem dX8_findWay_210 : decode cX8_findWay 210 = .ok (.iinc 7 1, 3) := by decide +kernel
theorem dX8_findWay_213 : decode cX8_findWay 213 = .ok (.goto (-99), 3) := by decide +kernel
theorem dX8_findWay_216 : decode cX8_findWay 216 = .ok (.aload_n 0, 1) := by decide +kernel
theorem dX8_findWay_217 : decode cX8_findWay 217 = .ok (.getfield 84, 3) := by decide +kernel
theorem dX8_findWay_220 : decode cX8_findWay 220 = .ok (.bipush 8, 2) := by decide +kernel
theorem dX8_findWay_222 : decode cX8_findWay 222 = .ok (.iload 4, 2) := by decide +kernel
theorem dX8_findWay_224 : decode cX8_findWay 224 = .ok (.imul, 1) := by decide +kernel
theorem dX8_findWay_225 : decode cX8_findWay 225 = .ok (.iload 5, 2) := by decide +kernel
theorem dX8_findWay_227 : decode cX8_findWay 227 = .ok (.iadd, 1) := by decide +kernel
theorem dX8_findWay_228 : decode cX8_findWay 228 = .ok (.iload 6, 2) := by decide +kernel
theorem dX8_findWay_230 : decode cX8_findWay 230 = .ok (.iastore, 1) := by decide +kernel
theorem dX8_findWay_231 : decode cX8_findWay 231 = .ok (.iinc 5 1, 3) := by decide +kernel
theorem dX8_findWay_234 : decode cX8_findWay 234 = .ok (.goto (-137), 3) := by decide +kernel
theorem dX8_findWay_237 : decode cX8_findWay 237 = .ok (.iinc 4 1, 3) := by decide +kernel
theorem dX8_findWay_240 : decode cX8_findWay 240 = .ok (.goto (-152), 3) := by decide +kernel
theorem dX8_findWay_243 : decode cX8_findWay 243 = .ok (.iload_n 2, 1) := by decide +kernel
theorem dX8_findWay_244 : decode cX8_findWay 244 = .ok (.istore 4, 2) := by decide +kernel
theorem dX8_findWay_246 : decode cX8_findWay 246 = .ok (.iconst 0, 1) := by decide +kernel
theorem dX8_findWay_247 : decode cX8_findWay 247 = .ok (.istore 5, 2) := by decide +kernel
theorem dX8_findWay_249 : decode cX8_findWay 249 = .ok (.iload 5, 2) := by decide +kernel
theorem dX8_findWay_251 : decode cX8_findWay 251 = .ok (.iload_n 3, 1) := by decide +kernel
theorem dX8_findWay_252 : decode cX8_findWay 252 = .ok (.if_icmp .gt 149, 3) := by decide +kernel
theorem dX8_findWay_255 : decode cX8_findWay 255 = .ok (.iconst (-1), 1) := by decide +kernel
theorem dX8_findWay_256 : decode cX8_findWay 256 = .ok (.istore 6, 2) := by decide +kernel
theorem dX8_findWay_258 : decode cX8_findWay 258 = .ok (.aload_n 0, 1) := by decide +kernel
theorem dX8_findWay_259 : decode cX8_findWay 259 = .ok (.getfield 7, 3) := by decide +kernel
theorem dX8_findWay_262 : decode cX8_findWay 262 = .ok (.iconst 1, 1) := by decide +kernel
theorem dX8_findWay_263 : decode cX8_findWay 263 = .ok (.isub, 1) := by decide +kernel
theorem dX8_findWay_264 : decode cX8_findWay 264 = .ok (.istore 7, 2) := by decide +kernel
theorem dX8_findWay_266 : decode cX8_findWay 266 = .ok (.iload 7, 2) := by decide +kernel
theorem dX8_findWay_268 : decode cX8_findWay 268 = .ok (.ifCond .lt 78, 3) := by decide +kernel
theorem dX8_findWay_271 : decode cX8_findWay 271 = .ok (.iload 5, 2) := by decide +kernel
theorem dX8_findWay_273 : decode cX8_findWay 273 = .ok (.ifCond .ne 13, 3) := by decide +kernel
theorem dX8_findWay_276 : decode cX8_findWay 276 = .ok (.aload_n 0, 1) := by decide +kernel
theorem dX8_findWay_277 : decode cX8_findWay 277 = .ok (.getfield 20, 3) := by decide +kernel
theorem dX8_findWay_280 : decode cX8_findWay 280 = .ok (.iload 7, 2) := by decide +kernel
theorem dX8_findWay_282 : decode cX8_findWay 282 = .ok (.iaload, 1) := by decide +kernel
theorem dX8_findWay_283 : decode cX8_findWay 283 = .ok (.goto 23, 3) := by decide +kernel
theorem dX8_findWay_286 : decode cX8_findWay 286 = .ok (.aload_n 0, 1) := by decide +kernel
theorem dX8_findWay_287 : decode cX8_findWay 287 = .ok (.getfield 78, 3) := by decide +kernel
theorem dX8_findWay_290 : decode cX8_findWay 290 = .ok (.bipush 8, 2) := by decide +kernel
theorem dX8_findWay_292 : decode cX8_findWay 292 = .ok (.aload_n 0, 1) := by decide +kernel
theorem dX8_findWay_293 : decode cX8_findWay 293 = .ok (.getfield 90, 3) := by decide +kernel
theorem dX8_findWay_296 : decode cX8_findWay 296 = .ok (.iload 5, 2) := by decide +kernel
theorem dX8_findWay_298 : decode cX8_findWay 298 = .ok (.iconst 1, 1) := by decide +kernel
theorem dX8_findWay_299 : decode cX8_findWay 299 = .ok (.isub, 1) := by decide +kernel
theorem dX8_findWay_300 : decode cX8_findWay 300 = .ok (.iaload, 1) := by decide +kernel
theorem dX8_findWay_301 : decode cX8_findWay 301 = .ok (.imul, 1) := by decide +kernel
theorem dX8_findWay_302 : decode cX8_findWay 302 = .ok (.iload 7, 2) := by decide +kernel
theorem dX8_findWay_304 : decode cX8_findWay 304 = .ok (.iadd, 1) := by decide +kernel
theorem dX8_findWay_305 : decode cX8_findWay 305 = .ok (.iaload, 1) := by decide +kernel
theorem dX8_findWay_306 : decode cX8_findWay 306 = .ok (.istore 8, 2) := by decide +kernel
theorem dX8_findWay_308 : decode cX8_findWay 308 = .ok (.iload 8, 2) := by decide +kernel
theorem dX8_findWay_310 : decode cX8_findWay 310 = .ok (.ifCond .lt 30, 3) := by decide +kernel
theorem dX8_findWay_313 : decode cX8_findWay 313 = .ok (.iload 8, 2) := by decide +kernel
theorem dX8_findWay_315 : decode cX8_findWay 315 = .ok (.aload_n 0, 1) := by decide +kernel
theorem dX8_findWay_316 : decode cX8_findWay 316 = .ok (.getfield 84, 3) := by decide +kernel
theorem dX8_findWay_319 : decode cX8_findWay 319 = .ok (.bipush 8, 2) := by decide +kernel
theorem dX8_findWay_321 : decode cX8_findWay 321 = .ok (.iload_n 3, 1) := by decide +kernel
theorem dX8_findWay_322 : decode cX8_findWay 322 = .ok (.iload 5, 2) := by decide +kernel
theorem dX8_findWay_324 : decode cX8_findWay 324 = .ok (.isub, 1) := by decide +kernel
theorem dX8_findWay_325 : decode cX8_findWay 325 = .ok (.imul, 1) := by decide +kernel
theorem dX8_findWay_326 : decode cX8_findWay 326 = .ok (.iload 7, 2) := by decide +kernel
theorem dX8_findWay_328 : decode cX8_findWay 328 = .ok (.iadd, 1) := by decide +kernel
theorem dX8_findWay_329 : decode cX8_findWay 329 = .ok (.iaload, 1) := by decide +kernel
theorem dX8_findWay_330 : decode cX8_findWay 330 = .ok (.iadd, 1) := by decide +kernel
theorem dX8_findWay_331 : decode cX8_findWay 331 = .ok (.iload 4, 2) := by decide +kernel
theorem dX8_findWay_333 : decode cX8_findWay 333 = .ok (.if_icmp .ne 7, 3) := by decide +kernel
theorem dX8_findWay_336 : decode cX8_findWay 336 = .ok (.iload 7, 2) := by decide +kernel
theorem dX8_findWay_338 : decode cX8_findWay 338 = .ok (.istore 6, 2) := by decide +kernel
theorem dX8_findWay_340 : decode cX8_findWay 340 = .ok (.iinc 7 (-1), 3) := by decide +kernel
theorem dX8_findWay_343 : decode cX8_findWay 343 = .ok (.goto (-77), 3) := by decide +kernel
theorem dX8_findWay_346 : decode cX8_findWay 346 = .ok (.aload_n 0, 1) := by decide +kernel
theorem dX8_findWay_347 : decode cX8_findWay 347 = .ok (.getfield 90, 3) := by decide +kernel
theorem dX8_findWay_350 : decode cX8_findWay 350 = .ok (.iload 5, 2) := by decide +kernel
theorem dX8_findWay_352 : decode cX8_findWay 352 = .ok (.iload 6, 2) := by decide +kernel
theorem dX8_findWay_354 : decode cX8_findWay 354 = .ok (.iastore, 1) := by decide +kernel
theorem dX8_findWay_355 : decode cX8_findWay 355 = .ok (.iload 4, 2) := by decide +kernel
theorem dX8_findWay_357 : decode cX8_findWay 357 = .ok (.iload 5, 2) := by decide +kernel
theorem dX8_findWay_359 : decode cX8_findWay 359 = .ok (.ifCond .ne 13, 3) := by decide +kernel
theorem dX8_findWay_362 : decode cX8_findWay 362 = .ok (.aload_n 0, 1) := by decide +kernel
theorem dX8_findWay_363 : decode cX8_findWay 363 = .ok (.getfield 20, 3) := by decide +kernel
theorem dX8_findWay_366 : decode cX8_findWay 366 = .ok (.iload 6, 2) := by decide +kernel
theorem dX8_findWay_368 : decode cX8_findWay 368 = .ok (.iaload, 1) := by decide +kernel
theorem dX8_findWay_369 : decode cX8_findWay 369 = .ok (.goto 23, 3) := by decide +kernel
theorem dX8_findWay_372 : decode cX8_findWay 372 = .ok (.aload_n 0, 1) := by decide +kernel
theorem dX8_findWay_373 : decode cX8_findWay 373 = .ok (.getfield 78, 3) := by decide +kernel
theorem dX8_findWay_376 : decode cX8_findWay 376 = .ok (.bipush 8, 2) := by decide +kernel
theorem dX8_findWay_378 : decode cX8_findWay 378 = .ok (.aload_n 0, 1) := by decide +kernel
theorem dX8_findWay_379 : decode cX8_findWay 379 = .ok (.getfield 90, 3) := by decide +kernel
theorem dX8_findWay_382 : decode cX8_findWay 382 = .ok (.iload 5, 2) := by decide +kernel
theorem dX8_findWay_384 : decode cX8_findWay 384 = .ok (.iconst 1, 1) := by decide +kernel
theorem dX8_findWay_385 : decode cX8_findWay 385 = .ok (.isub, 1) := by decide +kernel
theorem dX8_findWay_386 : decode cX8_findWay 386 = .ok (.iaload, 1) := by decide +kernel
theorem dX8_findWay_387 : decode cX8_findWay 387 = .ok (.imul, 1) := by decide +kernel
theorem dX8_findWay_388 : decode cX8_findWay 388 = .ok (.iload 6, 2) := by decide +kernel
theorem dX8_findWay_390 : decode cX8_findWay 390 = .ok (.iadd, 1) := by decide +kernel
theorem dX8_findWay_391 : decode cX8_findWay 391 = .ok (.iaload, 1) := by decide +kernel
theorem dX8_findWay_392 : decode cX8_findWay 392 = .ok (.isub, 1) := by decide +kernel
theorem dX8_findWay_393 : decode cX8_findWay 393 = .ok (.istore 4, 2) := by decide +kernel
theorem dX8_findWay_395 : decode cX8_findWay 395 = .ok (.iinc 5 1, 3) := by decide +kernel
theorem dX8_findWay_398 : decode cX8_findWay 398 = .ok (.goto (-149), 3) := by decide +kernel
theorem dX8_findWay_401 : decode cX8_findWay 401 = .ok (.iload_n 3, 1) := by decide +kernel
theorem dX8_findWay_402 : decode cX8_findWay 402 = .ok (.iconst 1, 1) := by decide +kernel
theorem dX8_findWay_403 : decode cX8_findWay 403 = .ok (.iadd, 1) := by decide +kernel
theorem dX8_findWay_404 : decode cX8_findWay 404 = .ok (.ireturn, 1) := by decide +kernel
theorem dX8_way_0 : decode cX8_way 0 = .ok (.aload_n 0, 1) := by decide +kernel
theorem dX8_way_1 : decode cX8_way 1 = .ok (.iload_n 1, 1) := by decide +kernel
theorem dX8_way_2 : decode cX8_way 2 = .ok (.invokevirtual 193, 3) := by decide +kernel
theorem dX8_way_5 : decode cX8_way 5 = .ok (.ifCond .ne 5, 3) := by decide +kernel
theorem dX8_way_8 : decode cX8_way 8 = .ok (.iconst (-1), 1) := by decide +kernel
theorem dX8_way_9 : decode cX8_way 9 = .ok (.ireturn, 1) := by decide +kernel
theorem dX8_way_10 : decode cX8_way 10 = .ok (.aload_n 0, 1) := by decide +kernel
theorem dX8_way_11 : decode cX8_way 11 = .ok (.iload_n 1, 1) := by decide +kernel
theorem dX8_way_12 : decode cX8_way 12 = .ok (.invokevirtual 287, 3) := by decide +kernel
theorem dX8_way_15 : decode cX8_way 15 = .ok (.istore_n 3, 1) := by decide +kernel
theorem dX8_way_16 : decode cX8_way 16 = .ok (.iload_n 2, 1) := by decide +kernel
theorem dX8_way_17 : decode cX8_way 17 = .ok (.iconst (-1), 1) := by decide +kernel
theorem dX8_way_18 : decode cX8_way 18 = .ok (.if_icmp .ne 5, 3) := by decide +kernel
theorem dX8_way_21 : decode cX8_way 21 = .ok (.iload_n 3, 1) := by decide +kernel
theorem dX8_way_22 : decode cX8_way 22 = .ok (.ireturn, 1) := by decide +kernel
theorem dX8_way_23 : decode cX8_way 23 = .ok (.aload_n 0, 1) := by decide +kernel
theorem dX8_way_24 : decode cX8_way 24 = .ok (.iload_n 2, 1) := by decide +kernel
theorem dX8_way_25 : decode cX8_way 25 = .ok (.iconst 0, 1) := by decide +kernel
theorem dX8_way_26 : decode cX8_way 26 = .ok (.iload_n 3, 1) := by decide +kernel
theorem dX8_way_27 : decode cX8_way 27 = .ok (.iconst 1, 1) := by decide +kernel
theorem dX8_way_28 : decode cX8_way 28 = .ok (.isub, 1) := by decide +kernel
theorem dX8_way_29 : decode cX8_way 29 = .ok (.invokevirtual 189, 3) := by decide +kernel
theorem dX8_way_32 : decode cX8_way 32 = .ok (.ifCond .eq 12, 3) := by decide +kernel
theorem dX8_way_35 : decode cX8_way 35 = .ok (.aload_n 0, 1) := by decide +kernel
theorem dX8_way_36 : decode cX8_way 36 = .ok (.getfield 90, 3) := by decide +kernel
theorem dX8_way_39 : decode cX8_way 39 = .ok (.iload_n 2, 1) := by decide +kernel
theorem dX8_way_40 : decode cX8_way 40 = .ok (.iaload, 1) := by decide +kernel
theorem dX8_way_41 : decode cX8_way 41 = .ok (.goto 4, 3) := by decide +kernel
theorem dX8_way_44 : decode cX8_way 44 = .ok (.iconst (-1), 1) := by decide +kernel
theorem dX8_way_45 : decode cX8_way 45 = .ok (.ireturn, 1) := by decide +kernel
theorem dX8_silent_0 : decode cX8_silent 0 = .ok (.aload_n 0, 1) := by decide +kernel
theorem dX8_silent_1 : decode cX8_silent 1 = .ok (.iload_n 1, 1) := by decide +kernel
theorem dX8_silent_2 : decode cX8_silent 2 = .ok (.invokevirtual 193, 3) := by decide +kernel
theorem dX8_silent_5 : decode cX8_silent 5 = .ok (.ifCond .ne 5, 3) := by decide +kernel
theorem dX8_silent_8 : decode cX8_silent 8 = .ok (.iconst (-1), 1) := by decide +kernel
theorem dX8_silent_9 : decode cX8_silent 9 = .ok (.ireturn, 1) := by decide +kernel
theorem dX8_silent_10 : decode cX8_silent 10 = .ok (.aload_n 0, 1) := by decide +kernel
theorem dX8_silent_11 : decode cX8_silent 11 = .ok (.iload_n 2, 1) := by decide +kernel
theorem dX8_silent_12 : decode cX8_silent 12 = .ok (.invokevirtual 290, 3) := by decide +kernel
theorem dX8_silent_15 : decode cX8_silent 15 = .ok (.ifCond .ne 6, 3) := by decide +kernel
theorem dX8_silent_18 : decode cX8_silent 18 = .ok (.bipush (-2), 2) := by decide +kernel
theorem dX8_silent_20 : decode cX8_silent 20 = .ok (.ireturn, 1) := by decide +kernel
theorem dX8_silent_21 : decode cX8_silent 21 = .ok (.aload_n 0, 1) := by decide +kernel
theorem dX8_silent_22 : decode cX8_silent 22 = .ok (.getfield 20, 3) := by decide +kernel
theorem dX8_silent_25 : decode cX8_silent 25 = .ok (.iload_n 1, 1) := by decide +kernel
theorem dX8_silent_26 : decode cX8_silent 26 = .ok (.iaload, 1) := by decide +kernel
theorem dX8_silent_27 : decode cX8_silent 27 = .ok (.ifCond .lt 16, 3) := by decide +kernel
theorem dX8_silent_30 : decode cX8_silent 30 = .ok (.aload_n 0, 1) := by decide +kernel
theorem dX8_silent_31 : decode cX8_silent 31 = .ok (.getfield 20, 3) := by decide +kernel
theorem dX8_silent_34 : decode cX8_silent 34 = .ok (.iload_n 1, 1) := by decide +kernel
theorem dX8_silent_35 : decode cX8_silent 35 = .ok (.iaload, 1) := by decide +kernel
theorem dX8_silent_36 : decode cX8_silent 36 = .ok (.iload_n 2, 1) := by decide +kernel
theorem dX8_silent_37 : decode cX8_silent 37 = .ok (.if_icmp .gt 6, 3) := by decide +kernel
theorem dX8_silent_40 : decode cX8_silent 40 = .ok (.bipush (-5), 2) := by decide +kernel
theorem dX8_silent_42 : decode cX8_silent 42 = .ok (.ireturn, 1) := by decide +kernel
theorem dX8_silent_43 : decode cX8_silent 43 = .ok (.aload_n 0, 1) := by decide +kernel
theorem dX8_silent_44 : decode cX8_silent 44 = .ok (.invokevirtual 278, 3) := by decide +kernel
theorem dX8_silent_47 : decode cX8_silent 47 = .ok (.bipush (-5), 2) := by decide +kernel
theorem dX8_silent_49 : decode cX8_silent 49 = .ok (.istore_n 3, 1) := by decide +kernel
theorem dX8_silent_50 : decode cX8_silent 50 = .ok (.iconst 0, 1) := by decide +kernel
theorem dX8_silent_51 : decode cX8_silent 51 = .ok (.istore 4, 2) := by decide +kernel
theorem dX8_silent_53 : decode cX8_silent 53 = .ok (.iload 4, 2) := by decide +kernel
theorem dX8_silent_55 : decode cX8_silent 55 = .ok (.iconst 1, 1) := by decide +kernel
theorem dX8_silent_56 : decode cX8_silent 56 = .ok (.aload_n 0, 1) := by decide +kernel
theorem dX8_silent_57 : decode cX8_silent 57 = .ok (.getfield 7, 3) := by decide +kernel
theorem dX8_silent_60 : decode cX8_silent 60 = .ok (.ishl, 1) := by decide +kernel
theorem dX8_silent_61 : decode cX8_silent 61 = .ok (.if_icmp .ge 58, 3) := by decide +kernel
theorem dX8_silent_64 : decode cX8_silent 64 = .ok (.aload_n 0, 1) := by decide +kernel
theorem dX8_silent_65 : decode cX8_silent 65 = .ok (.iload 4, 2) := by decide +kernel
theorem dX8_silent_67 : decode cX8_silent 67 = .ok (.iload_n 1, 1) := by decide +kernel
theorem dX8_silent_68 : decode cX8_silent 68 = .ok (.invokevirtual 275, 3) := by decide +kernel
theorem dX8_silent_71 : decode cX8_silent 71 = .ok (.ifCond .ne 42, 3) := by decide +kernel
theorem dX8_silent_74 : decode cX8_silent 74 = .ok (.iload_n 3, 1) := by decide +kernel
theorem dX8_silent_75 : decode cX8_silent 75 = .ok (.ifCond .lt 20, 3) := by decide +kernel
theorem dX8_silent_78 : decode cX8_silent 78 = .ok (.aload_n 0, 1) := by decide +kernel
theorem dX8_silent_79 : decode cX8_silent 79 = .ok (.iload 4, 2) := by decide +kernel
theorem dX8_silent_81 : decode cX8_silent 81 = .ok (.invokevirtual 293, 3) := by decide +kernel
theorem dX8_silent_84 : decode cX8_silent 84 = .ok (.aload_n 0, 1) := by decide +kernel
theorem dX8_silent_85 : decode cX8_silent 85 = .ok (.iload_n 3, 1) := by decide +kernel
theorem dX8_silent_86 : decode cX8_silent 86 = .ok (.invokevirtual 293, 3) := by decide +kernel
theorem dX8_silent_89 : decode cX8_silent 89 = .ok (.if_icmp .lt 6, 3) := by decide +kernel
theorem dX8_silent_92 : decode cX8_silent 92 = .ok (.goto 21, 3) := by decide +kernel
theorem dX8_silent_95 : decode cX8_silent 95 = .ok (.aload_n 0, 1) := by decide +kernel
theorem dX8_silent_96 : decode cX8_silent 96 = .ok (.iload 4, 2) := by decide +kernel
theorem dX8_silent_98 : decode cX8_silent 98 = .ok (.invokevirtual 281, 3) := by decide +kernel
theorem dX8_silent_101 : decode cX8_silent 101 = .ok (.aload_n 0, 1) := by decide +kernel
theorem dX8_silent_102 : decode cX8_silent 102 = .ok (.iload_n 1, 1) := by decide +kernel
theorem dX8_silent_103 : decode cX8_silent 103 = .ok (.invokevirtual 284, 3) := by decide +kernel
theorem dX8_silent_106 : decode cX8_silent 106 = .ok (.iload_n 2, 1) := by decide +kernel
theorem dX8_silent_107 : decode cX8_silent 107 = .ok (.if_icmp .le 6, 3) := by decide +kernel
theorem dX8_silent_110 : decode cX8_silent 110 = .ok (.iload 4, 2) := by decide +kernel
theorem dX8_silent_112 : decode cX8_silent 112 = .ok (.istore_n 3, 1) := by decide +kernel
theorem dX8_silent_113 : decode cX8_silent 113 = .ok (.iinc 4 1, 3) := by decide +kernel
theorem dX8_silent_116 : decode cX8_silent 116 = .ok (.goto (-63), 3) := by decide +kernel
theorem dX8_silent_119 : decode cX8_silent 119 = .ok (.iload_n 3, 1) := by decide +kernel
theorem dX8_silent_120 : decode cX8_silent 120 = .ok (.ireturn, 1) := by decide +kernel
theorem dX8_isTrade_0 : decode cX8_isTrade 0 = .ok (.aload_n 0, 1) := by decide +kernel
theorem dX8_isTrade_1 : decode cX8_isTrade 1 = .ok (.iload_n 1, 1) := by decide +kernel
theorem dX8_isTrade_2 : decode cX8_isTrade 2 = .ok (.iconst 0, 1) := by decide +kernel
theorem dX8_isTrade_3 : decode cX8_isTrade 3 = .ok (.aload_n 0, 1) := by decide +kernel
theorem dX8_isTrade_4 : decode cX8_isTrade 4 = .ok (.getfield 93, 3) := by decide +kernel
theorem dX8_isTrade_7 : decode cX8_isTrade 7 = .ok (.iconst 1, 1) := by decide +kernel
theorem dX8_isTrade_8 : decode cX8_isTrade 8 = .ok (.isub, 1) := by decide +kernel
theorem dX8_isTrade_9 : decode cX8_isTrade 9 = .ok (.invokevirtual 189, 3) := by decide +kernel
theorem dX8_isTrade_12 : decode cX8_isTrade 12 = .ok (.ireturn, 1) := by decide +kernel
theorem dX8_trade_0 : decode cX8_trade 0 = .ok (.aload_n 0, 1) := by decide +kernel
theorem dX8_trade_1 : decode cX8_trade 1 = .ok (.iload_n 1, 1) := by decide +kernel
theorem dX8_trade_2 : decode cX8_trade 2 = .ok (.iconst 0, 1) := by decide +kernel
theorem dX8_trade_3 : decode cX8_trade 3 = .ok (.bipush 6, 2) := by decide +kernel
theorem dX8_trade_5 : decode cX8_trade 5 = .ok (.invokevirtual 189, 3) := by decide +kernel
theorem dX8_trade_8 : decode cX8_trade 8 = .ok (.ifCond .eq 22, 3) := by decide +kernel
theorem dX8_trade_11 : decode cX8_trade 11 = .ok (.aload_n 0, 1) := by decide +kernel
theorem dX8_trade_12 : decode cX8_trade 12 = .ok (.iload_n 2, 1) := by decide +kernel
theorem dX8_trade_13 : decode cX8_trade 13 = .ok (.invokevirtual 193, 3) := by decide +kernel
theorem dX8_trade_16 : decode cX8_trade 16 = .ok (.ifCond .eq 14, 3) := by decide +kernel
theorem dX8_trade_19 : decode cX8_trade 19 = .ok (.aload_n 0, 1) := by decide +kernel
theorem dX8_trade_20 : decode cX8_trade 20 = .ok (.iload_n 3, 1) := by decide +kernel
theorem dX8_trade_21 : decode cX8_trade 21 = .ok (.iconst 0, 1) := by decide +kernel
theorem dX8_trade_22 : decode cX8_trade 22 = .ok (.bipush 8, 2) := by decide +kernel
theorem dX8_trade_24 : decode cX8_trade 24 = .ok (.invokevirtual 189, 3) := by decide +kernel
theorem dX8_trade_27 : decode cX8_trade 27 = .ok (.ifCond .ne 5, 3) := by decide +kernel
theorem dX8_trade_30 : decode cX8_trade 30 = .ok (.iconst (-1), 1) := by decide +kernel
theorem dX8_trade_31 : decode cX8_trade 31 = .ok (.ireturn, 1) := by decide +kernel
theorem dX8_trade_32 : decode cX8_trade 32 = .ok (.aload_n 0, 1) := by decide +kernel
theorem dX8_trade_33 : decode cX8_trade 33 = .ok (.iload 4, 2) := by decide +kernel
theorem dX8_trade_35 : decode cX8_trade 35 = .ok (.invokevirtual 290, 3) := by decide +kernel
theorem dX8_trade_38 : decode cX8_trade 38 = .ok (.ifCond .eq 15, 3) := by decide +kernel
theorem dX8_trade_41 : decode cX8_trade 41 = .ok (.aload_n 0, 1) := by decide +kernel
theorem dX8_trade_42 : decode cX8_trade 42 = .ok (.iload 5, 2) := by decide +kernel
theorem dX8_trade_44 : decode cX8_trade 44 = .ok (.iconst 1, 1) := by decide +kernel
theorem dX8_trade_45 : decode cX8_trade 45 = .ok (.bipush 99, 2) := by decide +kernel
theorem dX8_trade_47 : decode cX8_trade 47 = .ok (.invokevirtual 189, 3) := by decide +kernel
theorem dX8_trade_50 : decode cX8_trade 50 = .ok (.ifCond .ne 6, 3) := by decide +kernel
theorem dX8_trade_53 : decode cX8_trade 53 = .ok (.bipush (-2), 2) := by decide +kernel
theorem dX8_trade_55 : decode cX8_trade 55 = .ok (.ireturn, 1) := by decide +kernel
theorem dX8_trade_56 : decode cX8_trade 56 = .ok (.aload_n 0, 1) := by decide +kernel
theorem dX8_trade_57 : decode cX8_trade 57 = .ok (.getfield 93, 3) := by decide +kernel
theorem dX8_trade_60 : decode cX8_trade 60 = .ok (.bipush 16, 2) := by decide +kernel
theorem dX8_trade_62 : decode cX8_trade 62 = .ok (.if_icmp .ne 6, 3) := by decide +kernel
theorem dX8_trade_65 : decode cX8_trade 65 = .ok (.bipush (-4), 2) := by decide +kernel
theorem dX8_trade_67 : decode cX8_trade 67 = .ok (.ireturn, 1) := by decide +kernel
theorem dX8_trade_68 : decode cX8_trade 68 = .ok (.aload_n 0, 1) := by decide +kernel
theorem dX8_trade_69 : decode cX8_trade 69 = .ok (.getfield 96, 3) := by decide +kernel
theorem dX8_trade_72 : decode cX8_trade 72 = .ok (.aload_n 0, 1) := by decide +kernel
theorem dX8_trade_73 : decode cX8_trade 73 = .ok (.getfield 93, 3) := by decide +kernel
theorem dX8_trade_76 : decode cX8_trade 76 = .ok (.iload_n 1, 1) := by decide +kernel
theorem dX8_trade_77 : decode cX8_trade 77 = .ok (.iastore, 1) := by decide +kernel
theorem dX8_trade_78 : decode cX8_trade 78 = .ok (.aload_n 0, 1) := by decide +kernel
theorem dX8_trade_79 : decode cX8_trade 79 = .ok (.getfield 99, 3) := by decide +kernel
theorem dX8_trade_82 : decode cX8_trade 82 = .ok (.aload_n 0, 1) := by decide +kernel
theorem dX8_trade_83 : decode cX8_trade 83 = .ok (.getfield 93, 3) := by decide +kernel
theorem dX8_trade_86 : decode cX8_trade 86 = .ok (.iload_n 2, 1) := by decide +kernel
theorem dX8_trade_87 : decode cX8_trade 87 = .ok (.iastore, 1) := by decide +kernel
theorem dX8_trade_88 : decode cX8_trade 88 = .ok (.aload_n 0, 1) := by decide +kernel
theorem dX8_trade_89 : decode cX8_trade 89 = .ok (.getfield 102, 3) := by decide +kernel
theorem dX8_trade_92 : decode cX8_trade 92 = .ok (.aload_n 0, 1) := by decide +kernel
theorem dX8_trade_93 : decode cX8_trade 93 = .ok (.getfield 93, 3) := by decide +kernel
theorem dX8_trade_96 : decode cX8_trade 96 = .ok (.iload_n 3, 1) := by decide +kernel
theorem dX8_trade_97 : decode cX8_trade 97 = .ok (.iastore, 1) := by decide +kernel
theorem dX8_trade_98 : decode cX8_trade 98 = .ok (.aload_n 0, 1) := by decide +kernel
theorem dX8_trade_99 : decode cX8_trade 99 = .ok (.getfield 105, 3) := by decide +kernel
theorem dX8_trade_102 : decode cX8_trade 102 = .ok (.aload_n 0, 1) := by decide +kernel
theorem dX8_trade_103 : decode cX8_trade 103 = .ok (.getfield 93, 3) := by decide +kernel
theorem dX8_trade_106 : decode cX8_trade 106 = .ok (.iload 4, 2) := by decide +kernel
theorem dX8_trade_108 : decode cX8_trade 108 = .ok (.iastore, 1) := by decide +kernel
theorem dX8_trade_109 : decode cX8_trade 109 = .ok (.aload_n 0, 1) := by decide +kernel
theorem dX8_trade_110 : decode cX8_trade 110 = .ok (.getfield 108, 3) := by decide +kernel
theorem dX8_trade_113 : decode cX8_trade 113 = .ok (.aload_n 0, 1) := by decide +kernel
theorem dX8_trade_114 : decode cX8_trade 114 = .ok (.getfield 93, 3) := by decide +kernel
theorem dX8_trade_117 : decode cX8_trade 117 = .ok (.iload 5, 2) := by decide +kernel
theorem dX8_trade_119 : decode cX8_trade 119 = .ok (.iastore, 1) := by decide +kernel
theorem dX8_trade_120 : decode cX8_trade 120 = .ok (.aload_n 0, 1) := by decide +kernel
theorem dX8_trade_121 : decode cX8_trade 121 = .ok (.dup, 1) := by decide +kernel
theorem dX8_trade_122 : decode cX8_trade 122 = .ok (.getfield 93, 3) := by decide +kernel
theorem dX8_trade_125 : decode cX8_trade 125 = .ok (.iconst 1, 1) := by decide +kernel
theorem dX8_trade_126 : decode cX8_trade 126 = .ok (.iadd, 1) := by decide +kernel
theorem dX8_trade_127 : decode cX8_trade 127 = .ok (.putfield 93, 3) := by decide +kernel
theorem dX8_trade_130 : decode cX8_trade 130 = .ok (.aload_n 0, 1) := by decide +kernel
theorem dX8_trade_131 : decode cX8_trade 131 = .ok (.getfield 93, 3) := by decide +kernel
theorem dX8_trade_134 : decode cX8_trade 134 = .ok (.iconst 1, 1) := by decide +kernel
theorem dX8_trade_135 : decode cX8_trade 135 = .ok (.isub, 1) := by decide +kernel
theorem dX8_trade_136 : decode cX8_trade 136 = .ok (.ireturn, 1) := by decide +kernel
theorem dX8_hasOther_0 : decode cX8_hasOther 0 = .ok (.iconst 0, 1) := by decide +kernel
theorem dX8_hasOther_1 : decode cX8_hasOther 1 = .ok (.istore_n 2, 1) := by decide +kernel
theorem dX8_hasOther_2 : decode cX8_hasOther 2 = .ok (.iload_n 2, 1) := by decide +kernel
theorem dX8_hasOther_3 : decode cX8_hasOther 3 = .ok (.aload_n 0, 1) := by decide +kernel
theorem dX8_hasOther_4 : decode cX8_hasOther 4 = .ok (.getfield 93, 3) := by decide +kernel
theorem dX8_hasOther_7 : decode cX8_hasOther 7 = .ok (.if_icmp .ge 46, 3) := by decide +kernel
theorem dX8_hasOther_10 : decode cX8_hasOther 10 = .ok (.iload_n 2, 1) := by decide +kernel
theorem dX8_hasOther_11 : decode cX8_hasOther 11 = .ok (.iload_n 1, 1) := by decide +kernel
theorem dX8_hasOther_12 : decode cX8_hasOther 12 = .ok (.if_icmp .eq 35, 3) := by decide +kernel
theorem dX8_hasOther_15 : decode cX8_hasOther 15 = .ok (.aload_n 0, 1) := by decide +kernel
theorem dX8_hasOther_16 : decode cX8_hasOther 16 = .ok (.getfield 99, 3) := by decide +kernel
theorem dX8_hasOther_19 : decode cX8_hasOther 19 = .ok (.iload_n 2, 1) := by decide +kernel
theorem dX8_hasOther_20 : decode cX8_hasOther 20 = .ok (.iaload, 1) := by decide +kernel
theorem dX8_hasOther_21 : decode cX8_hasOther 21 = .ok (.aload_n 0, 1) := by decide +kernel
theorem dX8_hasOther_22 : decode cX8_hasOther 22 = .ok (.getfield 99, 3) := by decide +kernel
theorem dX8_hasOther_25 : decode cX8_hasOther 25 = .ok (.iload_n 1, 1) := by decide +kernel
theorem dX8_hasOther_26 : decode cX8_hasOther 26 = .ok (.iaload, 1) := by decide +kernel
theorem dX8_hasOther_27 : decode cX8_hasOther 27 = .ok (.if_icmp .ne 20, 3) := by decide +kernel
theorem dX8_hasOther_30 : decode cX8_hasOther 30 = .ok (.aload_n 0, 1) := by decide +kernel
theorem dX8_hasOther_31 : decode cX8_hasOther 31 = .ok (.getfield 102, 3) := by decide +kernel
theorem dX8_hasOther_34 : decode cX8_hasOther 34 = .ok (.iload_n 2, 1) := by decide +kernel
theorem dX8_hasOther_35 : decode cX8_hasOther 35 = .ok (.iaload, 1) := by decide +kernel
theorem dX8_hasOther_36 : decode cX8_hasOther 36 = .ok (.aload_n 0, 1) := by decide +kernel
theorem dX8_hasOther_37 : decode cX8_hasOther 37 = .ok (.getfield 102, 3) := by decide +kernel
theorem dX8_hasOther_40 : decode cX8_hasOther 40 = .ok (.iload_n 1, 1) := by decide +kernel
theorem dX8_hasOther_41 : decode cX8_hasOther 41 = .ok (.iaload, 1) := by decide +kernel
theorem dX8_hasOther_42 : decode cX8_hasOther 42 = .ok (.if_icmp .ne 5, 3) := by decide +kernel
theorem dX8_hasOther_45 : decode cX8_hasOther 45 = .ok (.iconst 1, 1) := by decide +kernel
theorem dX8_hasOther_46 : decode cX8_hasOther 46 = .ok (.ireturn, 1) := by decide +kernel
theorem dX8_hasOther_47 : decode cX8_hasOther 47 = .ok (.iinc 2 1, 3) := by decide +kernel
theorem dX8_hasOther_50 : decode cX8_hasOther 50 = .ok (.goto (-48), 3) := by decide +kernel
theorem dX8_hasOther_53 : decode cX8_hasOther 53 = .ok (.iconst 0, 1) := by decide +kernel
theorem dX8_hasOther_54 : decode cX8_hasOther 54 = .ok (.ireturn, 1) := by decide +kernel
theorem dX8_explains_0 : decode cX8_explains 0 = .ok (.aload_n 0, 1) := by decide +kernel
theorem dX8_explains_1 : decode cX8_explains 1 = .ok (.aload_n 0, 1) := by decide +kernel
theorem dX8_explains_2 : decode cX8_explains 2 = .ok (.getfield 99, 3) := by decide +kernel
theorem dX8_explains_5 : decode cX8_explains 5 = .ok (.iload_n 2, 1) := by decide +kernel
theorem dX8_explains_6 : decode cX8_explains 6 = .ok (.iaload, 1) := by decide +kernel
theorem dX8_explains_7 : decode cX8_explains 7 = .ok (.invokevirtual 284, 3) := by decide +kernel
theorem dX8_explains_10 : decode cX8_explains 10 = .ok (.aload_n 0, 1) := by decide +kernel
theorem dX8_explains_11 : decode cX8_explains 11 = .ok (.getfield 105, 3) := by decide +kernel
theorem dX8_explains_14 : decode cX8_explains 14 = .ok (.iload_n 2, 1) := by decide +kernel
theorem dX8_explains_15 : decode cX8_explains 15 = .ok (.iaload, 1) := by decide +kernel
theorem dX8_explains_16 : decode cX8_explains 16 = .ok (.if_icmp .gt 7, 3) := by decide +kernel
theorem dX8_explains_19 : decode cX8_explains 19 = .ok (.iconst 1, 1) := by decide +kernel
theorem dX8_explains_20 : decode cX8_explains 20 = .ok (.goto 4, 3) := by decide +kernel
theorem dX8_explains_23 : decode cX8_explains 23 = .ok (.iconst 0, 1) := by decide +kernel
theorem dX8_explains_24 : decode cX8_explains 24 = .ok (.istore_n 3, 1) := by decide +kernel
theorem dX8_explains_25 : decode cX8_explains 25 = .ok (.iload_n 1, 1) := by decide +kernel
theorem dX8_explains_26 : decode cX8_explains 26 = .ok (.tableswitch 141 0 5 #[38, 40, 65, 88, 90, 117], 38) := by decide +kernel
theorem dX8_explains_64 : decode cX8_explains 64 = .ok (.iconst 1, 1) := by decide +kernel
theorem dX8_explains_65 : decode cX8_explains 65 = .ok (.ireturn, 1) := by decide +kernel
theorem dX8_explains_66 : decode cX8_explains 66 = .ok (.aload_n 0, 1) := by decide +kernel
theorem dX8_explains_67 : decode cX8_explains 67 = .ok (.aload_n 0, 1) := by decide +kernel
theorem dX8_explains_68 : decode cX8_explains 68 = .ok (.getfield 99, 3) := by decide +kernel
theorem dX8_explains_71 : decode cX8_explains 71 = .ok (.iload_n 2, 1) := by decide +kernel
theorem dX8_explains_72 : decode cX8_explains 72 = .ok (.iaload, 1) := by decide +kernel
theorem dX8_explains_73 : decode cX8_explains 73 = .ok (.aload_n 0, 1) := by decide +kernel
theorem dX8_explains_74 : decode cX8_explains 74 = .ok (.getfield 102, 3) := by decide +kernel
theorem dX8_explains_77 : decode cX8_explains 77 = .ok (.iload_n 2, 1) := by decide +kernel
theorem dX8_explains_78 : decode cX8_explains 78 = .ok (.iaload, 1) := by decide +kernel
theorem dX8_explains_79 : decode cX8_explains 79 = .ok (.invokevirtual 268, 3) := by decide +kernel
theorem dX8_explains_82 : decode cX8_explains 82 = .ok (.ifCond .le 7, 3) := by decide +kernel
theorem dX8_explains_85 : decode cX8_explains 85 = .ok (.iconst 1, 1) := by decide +kernel
theorem dX8_explains_86 : decode cX8_explains 86 = .ok (.goto 4, 3) := by decide +kernel
theorem dX8_explains_89 : decode cX8_explains 89 = .ok (.iconst 0, 1) := by decide +kernel
theorem dX8_explains_90 : decode cX8_explains 90 = .ok (.ireturn, 1) := by decide +kernel
theorem dX8_explains_91 : decode cX8_explains 91 = .ok (.aload_n 0, 1) := by decide +kernel
theorem dX8_explains_92 : decode cX8_explains 92 = .ok (.getfield 105, 3) := by decide +kernel
theorem dX8_explains_95 : decode cX8_explains 95 = .ok (.iload_n 2, 1) := by decide +kernel
theorem dX8_explains_96 : decode cX8_explains 96 = .ok (.iaload, 1) := by decide +kernel
theorem dX8_explains_97 : decode cX8_explains 97 = .ok (.aload_n 0, 1) := by decide +kernel
theorem dX8_explains_98 : decode cX8_explains 98 = .ok (.iconst 2, 1) := by decide +kernel
theorem dX8_explains_99 : decode cX8_explains 99 = .ok (.sipush 999, 3) := by decide +kernel
theorem dX8_explains_102 : decode cX8_explains 102 = .ok (.invokevirtual 271, 3) := by decide +kernel
theorem dX8_explains_105 : decode cX8_explains 105 = .ok (.if_icmp .lt 7, 3) := by decide +kernel
theorem dX8_explains_108 : decode cX8_explains 108 = .ok (.iconst 1, 1) := by decide +kernel
theorem dX8_explains_109 : decode cX8_explains 109 = .ok (.goto 4, 3) := by decide +kernel
theorem dX8_explains_112 : decode cX8_explains 112 = .ok (.iconst 0, 1) := by decide +kernel
theorem dX8_explains_113 : decode cX8_explains 113 = .ok (.ireturn, 1) := by decide +kernel
theorem dX8_explains_114 : decode cX8_explains 114 = .ok (.iload_n 3, 1) := by decide +kernel
theorem dX8_explains_115 : decode cX8_explains 115 = .ok (.ireturn, 1) := by decide +kernel
theorem dX8_explains_116 : decode cX8_explains 116 = .ok (.aload_n 0, 1) := by decide +kernel
theorem dX8_explains_117 : decode cX8_explains 117 = .ok (.aload_n 0, 1) := by decide +kernel
theorem dX8_explains_118 : decode cX8_explains 118 = .ok (.getfield 99, 3) := by decide +kernel
theorem dX8_explains_121 : decode cX8_explains 121 = .ok (.iload_n 2, 1) := by decide +kernel
theorem dX8_explains_122 : decode cX8_explains 122 = .ok (.iaload, 1) := by decide +kernel
theorem dX8_explains_123 : decode cX8_explains 123 = .ok (.aload_n 0, 1) := by decide +kernel
theorem dX8_explains_124 : decode cX8_explains 124 = .ok (.getfield 102, 3) := by decide +kernel
theorem dX8_explains_127 : decode cX8_explains 127 = .ok (.iload_n 2, 1) := by decide +kernel
theorem dX8_explains_128 : decode cX8_explains 128 = .ok (.iaload, 1) := by decide +kernel
theorem dX8_explains_129 : decode cX8_explains 129 = .ok (.invokevirtual 268, 3) := by decide +kernel
theorem dX8_explains_132 : decode cX8_explains 132 = .ok (.bipush 50, 2) := by decide +kernel
theorem dX8_explains_134 : decode cX8_explains 134 = .ok (.if_icmp .lt 7, 3) := by decide +kernel
theorem dX8_explains_137 : decode cX8_explains 137 = .ok (.iconst 1, 1) := by decide +kernel
theorem dX8_explains_138 : decode cX8_explains 138 = .ok (.goto 4, 3) := by decide +kernel
theorem dX8_explains_141 : decode cX8_explains 141 = .ok (.iconst 0, 1) := by decide +kernel
theorem dX8_explains_142 : decode cX8_explains 142 = .ok (.ireturn, 1) := by decide +kernel
theorem dX8_explains_143 : decode cX8_explains 143 = .ok (.iload_n 3, 1) := by decide +kernel
theorem dX8_explains_144 : decode cX8_explains 144 = .ok (.ifCond .eq 21, 3) := by decide +kernel
theorem dX8_explains_147 : decode cX8_explains 147 = .ok (.aload_n 0, 1) := by decide +kernel
theorem dX8_explains_148 : decode cX8_explains 148 = .ok (.getfield 20, 3) := by decide +kernel
theorem dX8_explains_151 : decode cX8_explains 151 = .ok (.aload_n 0, 1) := by decide +kernel
theorem dX8_explains_152 : decode cX8_explains 152 = .ok (.getfield 99, 3) := by decide +kernel
theorem dX8_explains_155 : decode cX8_explains 155 = .ok (.iload_n 2, 1) := by decide +kernel
theorem dX8_explains_156 : decode cX8_explains 156 = .ok (.iaload, 1) := by decide +kernel
theorem dX8_explains_157 : decode cX8_explains 157 = .ok (.iaload, 1) := by decide +kernel
theorem dX8_explains_158 : decode cX8_explains 158 = .ok (.ifCond .ge 7, 3) := by decide +kernel
theorem dX8_explains_161 : decode cX8_explains 161 = .ok (.iconst 1, 1) := by decide +kernel
theorem dX8_explains_162 : decode cX8_explains 162 = .ok (.goto 4, 3) := by decide +kernel
theorem dX8_explains_165 : decode cX8_explains 165 = .ok (.iconst 0, 1) := by decide +kernel
theorem dX8_explains_166 : decode cX8_explains 166 = .ok (.ireturn, 1) := by decide +kernel
theorem dX8_explains_167 : decode cX8_explains 167 = .ok (.iload_n 3, 1) := by decide +kernel
theorem dX8_explains_168 : decode cX8_explains 168 = .ok (.ifCond .eq 32, 3) := by decide +kernel
theorem dX8_explains_171 : decode cX8_explains 171 = .ok (.aload_n 0, 1) := by decide +kernel
theorem dX8_explains_172 : decode cX8_explains 172 = .ok (.getfield 108, 3) := by decide +kernel
theorem dX8_explains_175 : decode cX8_explains 175 = .ok (.iload_n 2, 1) := by decide +kernel
theorem dX8_explains_176 : decode cX8_explains 176 = .ok (.iaload, 1) := by decide +kernel
theorem dX8_explains_177 : decode cX8_explains 177 = .ok (.aload_n 0, 1) := by decide +kernel
theorem dX8_explains_178 : decode cX8_explains 178 = .ok (.iconst 3, 1) := by decide +kernel
theorem dX8_explains_179 : decode cX8_explains 179 = .ok (.sipush 999, 3) := by decide +kernel
theorem dX8_explains_182 : decode cX8_explains 182 = .ok (.invokevirtual 271, 3) := by decide +kernel
theorem dX8_explains_185 : decode cX8_explains 185 = .ok (.if_icmp .ge 15, 3) := by decide +kernel
theorem dX8_explains_188 : decode cX8_explains 188 = .ok (.aload_n 0, 1) := by decide +kernel
theorem dX8_explains_189 : decode cX8_explains 189 = .ok (.iload_n 2, 1) := by decide +kernel
theorem dX8_explains_190 : decode cX8_explains 190 = .ok (.invokevirtual 296, 3) := by decide +kernel
theorem dX8_explains_193 : decode cX8_explains 193 = .ok (.ifCond .eq 7, 3) := by decide +kernel
theorem dX8_explains_196 : decode cX8_explains 196 = .ok (.iconst 1, 1) := by decide +kernel
theorem dX8_explains_197 : decode cX8_explains 197 = .ok (.goto 4, 3) := by decide +kernel
theorem dX8_explains_200 : decode cX8_explains 200 = .ok (.iconst 0, 1) := by decide +kernel
theorem dX8_explains_201 : decode cX8_explains 201 = .ok (.ireturn, 1) := by decide +kernel
theorem dX8_allOf_0 : decode cX8_allOf 0 = .ok (.iconst 0, 1) := by decide +kernel
theorem dX8_allOf_1 : decode cX8_allOf 1 = .ok (.istore_n 2, 1) := by decide +kernel
theorem dX8_allOf_2 : decode cX8_allOf 2 = .ok (.iconst 0, 1) := by decide +kernel
theorem dX8_allOf_3 : decode cX8_allOf 3 = .ok (.istore_n 3, 1) := by decide +kernel
theorem dX8_allOf_4 : decode cX8_allOf 4 = .ok (.iload_n 3, 1) := by decide +kernel
theorem dX8_allOf_5 : decode cX8_allOf 5 = .ok (.bipush 7, 2) := by decide +kernel
theorem dX8_allOf_7 : decode cX8_allOf 7 = .ok (.if_icmp .ge 28, 3) := by decide +kernel
theorem dX8_allOf_10 : decode cX8_allOf 10 = .ok (.iload_n 2, 1) := by decide +kernel
theorem dX8_allOf_11 : decode cX8_allOf 11 = .ok (.aload_n 0, 1) := by decide +kernel
theorem dX8_allOf_12 : decode cX8_allOf 12 = .ok (.iload_n 3, 1) := by decide +kernel
theorem dX8_allOf_13 : decode cX8_allOf 13 = .ok (.iload_n 1, 1) := by decide +kernel
theorem dX8_allOf_14 : decode cX8_allOf 14 = .ok (.invokevirtual 299, 3) := by decide +kernel
theorem dX8_allOf_17 : decode cX8_allOf 17 = .ok (.ifCond .eq 9, 3) := by decide +kernel
theorem dX8_allOf_20 : decode cX8_allOf 20 = .ok (.iconst 1, 1) := by decide +kernel
theorem dX8_allOf_21 : decode cX8_allOf 21 = .ok (.iload_n 3, 1) := by decide +kernel
theorem dX8_allOf_22 : decode cX8_allOf 22 = .ok (.ishl, 1) := by decide +kernel
theorem dX8_allOf_23 : decode cX8_allOf 23 = .ok (.goto 4, 3) := by decide +kernel
theorem dX8_allOf_26 : decode cX8_allOf 26 = .ok (.iconst 0, 1) := by decide +kernel
theorem dX8_allOf_27 : decode cX8_allOf 27 = .ok (.ior, 1) := by decide +kernel
theorem dX8_allOf_28 : decode cX8_allOf 28 = .ok (.istore_n 2, 1) := by decide +kernel
theorem dX8_allOf_29 : decode cX8_allOf 29 = .ok (.iinc 3 1, 3) := by decide +kernel
theorem dX8_allOf_32 : decode cX8_allOf 32 = .ok (.goto (-28), 3) := by decide +kernel
theorem dX8_allOf_35 : decode cX8_allOf 35 = .ok (.iload_n 2, 1) := by decide +kernel
theorem dX8_allOf_36 : decode cX8_allOf 36 = .ok (.ireturn, 1) := by decide +kernel
theorem dX8_of_0 : decode cX8_of 0 = .ok (.aload_n 0, 1) := by decide +kernel
theorem dX8_of_1 : decode cX8_of 1 = .ok (.iload_n 1, 1) := by decide +kernel
theorem dX8_of_2 : decode cX8_of 2 = .ok (.invokevirtual 302, 3) := by decide +kernel
theorem dX8_of_5 : decode cX8_of 5 = .ok (.ifCond .eq 13, 3) := by decide +kernel
theorem dX8_of_8 : decode cX8_of 8 = .ok (.aload_n 0, 1) := by decide +kernel
theorem dX8_of_9 : decode cX8_of 9 = .ok (.iload_n 2, 1) := by decide +kernel
theorem dX8_of_10 : decode cX8_of 10 = .ok (.iconst 0, 1) := by decide +kernel
theorem dX8_of_11 : decode cX8_of 11 = .ok (.iconst 5, 1) := by decide +kernel
theorem dX8_of_12 : decode cX8_of 12 = .ok (.invokevirtual 189, 3) := by decide +kernel
theorem dX8_of_15 : decode cX8_of 15 = .ok (.ifCond .ne 5, 3) := by decide +kernel
theorem dX8_of_18 : decode cX8_of 18 = .ok (.iconst (-1), 1) := by decide +kernel
theorem dX8_of_19 : decode cX8_of 19 = .ok (.ireturn, 1) := by decide +kernel
theorem dX8_of_20 : decode cX8_of 20 = .ok (.iload_n 2, 1) := by decide +kernel
theorem dX8_of_21 : decode cX8_of 21 = .ok (.tableswitch 70 0 4 #[35, 42, 49, 56, 63], 35) := by decide +kernel
theorem dX8_of_56 : decode cX8_of 56 = .ok (.aload_n 0, 1) := by decide +kernel
theorem dX8_of_57 : decode cX8_of 57 = .ok (.getfield 96, 3) := by decide +kernel
theorem dX8_of_60 : decode cX8_of 60 = .ok (.iload_n 1, 1) := by decide +kernel
theorem dX8_of_61 : decode cX8_of 61 = .ok (.iaload, 1) := by decide +kernel
theorem dX8_of_62 : decode cX8_of 62 = .ok (.ireturn, 1) := by decide +kernel
theorem dX8_of_63 : decode cX8_of 63 = .ok (.aload_n 0, 1) := by decide +kernel
theorem dX8_of_64 : decode cX8_of 64 = .ok (.getfield 99, 3) := by decide +kernel
theorem dX8_of_67 : decode cX8_of 67 = .ok (.iload_n 1, 1) := by decide +kernel
theorem dX8_of_68 : decode cX8_of 68 = .ok (.iaload, 1) := by decide +kernel
theorem dX8_of_69 : decode cX8_of 69 = .ok (.ireturn, 1) := by decide +kernel
theorem dX8_of_70 : decode cX8_of 70 = .ok (.aload_n 0, 1) := by decide +kernel
theorem dX8_of_71 : decode cX8_of 71 = .ok (.getfield 102, 3) := by decide +kernel
theorem dX8_of_74 : decode cX8_of 74 = .ok (.iload_n 1, 1) := by decide +kernel
theorem dX8_of_75 : decode cX8_of 75 = .ok (.iaload, 1) := by decide +kernel
theorem dX8_of_76 : decode cX8_of 76 = .ok (.ireturn, 1) := by decide +kernel
theorem dX8_of_77 : decode cX8_of 77 = .ok (.aload_n 0, 1) := by decide +kernel
theorem dX8_of_78 : decode cX8_of 78 = .ok (.getfield 105, 3) := by decide +kernel
theorem dX8_of_81 : decode cX8_of 81 = .ok (.iload_n 1, 1) := by decide +kernel
theorem dX8_of_82 : decode cX8_of 82 = .ok (.iaload, 1) := by decide +kernel
theorem dX8_of_83 : decode cX8_of 83 = .ok (.ireturn, 1) := by decide +kernel
theorem dX8_of_84 : decode cX8_of 84 = .ok (.aload_n 0, 1) := by decide +kernel
theorem dX8_of_85 : decode cX8_of 85 = .ok (.getfield 108, 3) := by decide +kernel
theorem dX8_of_88 : decode cX8_of 88 = .ok (.iload_n 1, 1) := by decide +kernel
theorem dX8_of_89 : decode cX8_of 89 = .ok (.iaload, 1) := by decide +kernel
theorem dX8_of_90 : decode cX8_of 90 = .ok (.ireturn, 1) := by decide +kernel
theorem dX8_of_91 : decode cX8_of 91 = .ok (.aload_n 0, 1) := by decide +kernel
theorem dX8_of_92 : decode cX8_of 92 = .ok (.invokevirtual 278, 3) := by decide +kernel
theorem dX8_of_95 : decode cX8_of 95 = .ok (.aload_n 0, 1) := by decide +kernel
theorem dX8_of_96 : decode cX8_of 96 = .ok (.iconst 0, 1) := by decide +kernel
theorem dX8_of_97 : decode cX8_of 97 = .ok (.invokevirtual 281, 3) := by decide +kernel
theorem dX8_of_100 : decode cX8_of 100 = .ok (.aload_n 0, 1) := by decide +kernel
theorem dX8_of_101 : decode cX8_of 101 = .ok (.iload_n 1, 1) := by decide +kernel
theorem dX8_of_102 : decode cX8_of 102 = .ok (.invokevirtual 305, 3) := by decide +kernel
theorem dX8_of_105 : decode cX8_of 105 = .ok (.ireturn, 1) := by decide +kernel
theorem dX8_sure_0 : decode cX8_sure 0 = .ok (.aload_n 0, 1) := by decide +kernel
theorem dX8_sure_1 : decode cX8_sure 1 = .ok (.iload_n 1, 1) := by decide +kernel
theorem dX8_sure_2 : decode cX8_sure 2 = .ok (.iconst 0, 1) := by decide +kernel
theorem dX8_sure_3 : decode cX8_sure 3 = .ok (.iconst 1, 1) := by decide +kernel
theorem dX8_sure_4 : decode cX8_sure 4 = .ok (.invokevirtual 189, 3) := by decide +kernel
theorem dX8_sure_7 : decode cX8_sure 7 = .ok (.ifCond .ne 5, 3) := by decide +kernel
theorem dX8_sure_10 : decode cX8_sure 10 = .ok (.iconst (-1), 1) := by decide +kernel
theorem dX8_sure_11 : decode cX8_sure 11 = .ok (.ireturn, 1) := by decide +kernel
theorem dX8_sure_12 : decode cX8_sure 12 = .ok (.aload_n 0, 1) := by decide +kernel
theorem dX8_sure_13 : decode cX8_sure 13 = .ok (.invokevirtual 278, 3) := by decide +kernel
theorem dX8_sure_16 : decode cX8_sure 16 = .ok (.aload_n 0, 1) := by decide +kernel
theorem dX8_sure_17 : decode cX8_sure 17 = .ok (.iconst 0, 1) := by decide +kernel
theorem dX8_sure_18 : decode cX8_sure 18 = .ok (.invokevirtual 281, 3) := by decide +kernel
theorem dX8_sure_21 : decode cX8_sure 21 = .ok (.iconst 0, 1) := by decide +kernel
theorem dX8_sure_22 : decode cX8_sure 22 = .ok (.istore_n 2, 1) := by decide +kernel
theorem dX8_sure_23 : decode cX8_sure 23 = .ok (.iconst 0, 1) := by decide +kernel
theorem dX8_sure_24 : decode cX8_sure 24 = .ok (.istore_n 3, 1) := by decide +kernel
theorem dX8_sure_25 : decode cX8_sure 25 = .ok (.iload_n 3, 1) := by decide +kernel
theorem dX8_sure_26 : decode cX8_sure 26 = .ok (.aload_n 0, 1) := by decide +kernel
theorem dX8_sure_27 : decode cX8_sure 27 = .ok (.getfield 93, 3) := by decide +kernel
theorem dX8_sure_30 : decode cX8_sure 30 = .ok (.if_icmp .ge 95, 3) := by decide +kernel
theorem dX8_sure_33 : decode cX8_sure 33 = .ok (.aload_n 0, 1) := by decide +kernel
theorem dX8_sure_34 : decode cX8_sure 34 = .ok (.iload_n 3, 1) := by decide +kernel
theorem dX8_sure_35 : decode cX8_sure 35 = .ok (.invokevirtual 305, 3) := by decide +kernel
theorem dX8_sure_38 : decode cX8_sure 38 = .ok (.istore 4, 2) := by decide +kernel
theorem dX8_sure_40 : decode cX8_sure 40 = .ok (.iload_n 1, 1) := by decide +kernel
theorem dX8_sure_41 : decode cX8_sure 41 = .ok (.ifCond .ne 41, 3) := by decide +kernel
theorem dX8_sure_44 : decode cX8_sure 44 = .ok (.aload_n 0, 1) := by decide +kernel
theorem dX8_sure_45 : decode cX8_sure 45 = .ok (.iload 4, 2) := by decide +kernel
theorem dX8_sure_47 : decode cX8_sure 47 = .ok (.iconst 3, 1) := by decide +kernel
theorem dX8_sure_48 : decode cX8_sure 48 = .ok (.invokevirtual 275, 3) := by decide +kernel
theorem dX8_sure_51 : decode cX8_sure 51 = .ok (.ifCond .eq 27, 3) := by decide +kernel
theorem dX8_sure_54 : decode cX8_sure 54 = .ok (.aload_n 0, 1) := by decide +kernel
theorem dX8_sure_55 : decode cX8_sure 55 = .ok (.iload 4, 2) := by decide +kernel
theorem dX8_sure_57 : decode cX8_sure 57 = .ok (.iconst 1, 1) := by decide +kernel
theorem dX8_sure_58 : decode cX8_sure 58 = .ok (.invokevirtual 275, 3) := by decide +kernel
theorem dX8_sure_61 : decode cX8_sure 61 = .ok (.ifCond .ne 17, 3) := by decide +kernel
theorem dX8_sure_64 : decode cX8_sure 64 = .ok (.aload_n 0, 1) := by decide +kernel
theorem dX8_sure_65 : decode cX8_sure 65 = .ok (.iload 4, 2) := by decide +kernel
theorem dX8_sure_67 : decode cX8_sure 67 = .ok (.iconst 2, 1) := by decide +kernel
theorem dX8_sure_68 : decode cX8_sure 68 = .ok (.invokevirtual 275, 3) := by decide +kernel
theorem dX8_sure_71 : decode cX8_sure 71 = .ok (.ifCond .ne 7, 3) := by decide +kernel
theorem dX8_sure_74 : decode cX8_sure 74 = .ok (.iconst 1, 1) := by decide +kernel
theorem dX8_sure_75 : decode cX8_sure 75 = .ok (.goto 27, 3) := by decide +kernel
theorem dX8_sure_78 : decode cX8_sure 78 = .ok (.iconst 0, 1) := by decide +kernel
theorem dX8_sure_79 : decode cX8_sure 79 = .ok (.goto 23, 3) := by decide +kernel
theorem dX8_sure_82 : decode cX8_sure 82 = .ok (.aload_n 0, 1) := by decide +kernel
theorem dX8_sure_83 : decode cX8_sure 83 = .ok (.iload 4, 2) := by decide +kernel
theorem dX8_sure_85 : decode cX8_sure 85 = .ok (.aload_n 0, 1) := by decide +kernel
theorem dX8_sure_86 : decode cX8_sure 86 = .ok (.getfield 96, 3) := by decide +kernel
theorem dX8_sure_89 : decode cX8_sure 89 = .ok (.iload_n 3, 1) := by decide +kernel
theorem dX8_sure_90 : decode cX8_sure 90 = .ok (.iaload, 1) := by decide +kernel
theorem dX8_sure_91 : decode cX8_sure 91 = .ok (.invokevirtual 275, 3) := by decide +kernel
theorem dX8_sure_94 : decode cX8_sure 94 = .ok (.ifCond .ne 7, 3) := by decide +kernel
theorem dX8_sure_97 : decode cX8_sure 97 = .ok (.iconst 1, 1) := by decide +kernel
theorem dX8_sure_98 : decode cX8_sure 98 = .ok (.goto 4, 3) := by decide +kernel
theorem dX8_sure_101 : decode cX8_sure 101 = .ok (.iconst 0, 1) := by decide +kernel
theorem dX8_sure_102 : decode cX8_sure 102 = .ok (.istore 5, 2) := by decide +kernel
theorem dX8_sure_104 : decode cX8_sure 104 = .ok (.iload_n 2, 1) := by decide +kernel
theorem dX8_sure_105 : decode cX8_sure 105 = .ok (.iload 5, 2) := by decide +kernel
theorem dX8_sure_107 : decode cX8_sure 107 = .ok (.ifCond .eq 9, 3) := by decide +kernel
theorem dX8_sure_110 : decode cX8_sure 110 = .ok (.iconst 1, 1) := by decide +kernel
theorem dX8_sure_111 : decode cX8_sure 111 = .ok (.iload_n 3, 1) := by decide +kernel
theorem dX8_sure_112 : decode cX8_sure 112 = .ok (.ishl, 1) := by decide +kernel
theorem dX8_sure_113 : decode cX8_sure 113 = .ok (.goto 4, 3) := by decide +kernel
theorem dX8_sure_116 : decode cX8_sure 116 = .ok (.iconst 0, 1) := by decide +kernel
theorem dX8_sure_117 : decode cX8_sure 117 = .ok (.ior, 1) := by decide +kernel
theorem dX8_sure_118 : decode cX8_sure 118 = .ok (.istore_n 2, 1) := by decide +kernel
theorem dX8_sure_119 : decode cX8_sure 119 = .ok (.iinc 3 1, 3) := by decide +kernel
theorem dX8_sure_122 : decode cX8_sure 122 = .ok (.goto (-97), 3) := by decide +kernel
theorem dX8_sure_125 : decode cX8_sure 125 = .ok (.iload_n 2, 1) := by decide +kernel
theorem dX8_sure_126 : decode cX8_sure 126 = .ok (.ireturn, 1) := by decide +kernel
theorem dX8_fridaysOf_0 : decode cX8_fridaysOf 0 = .ok (.iconst 0, 1) := by decide +kernel
theorem dX8_fridaysOf_1 : decode cX8_fridaysOf 1 = .ok (.istore_n 2, 1) := by decide +kernel
theorem dX8_fridaysOf_2 : decode cX8_fridaysOf 2 = .ok (.iconst 0, 1) := by decide +kernel
theorem dX8_fridaysOf_3 : decode cX8_fridaysOf 3 = .ok (.istore_n 3, 1) := by decide +kernel
theorem dX8_fridaysOf_4 : decode cX8_fridaysOf 4 = .ok (.iload_n 3, 1) := by decide +kernel
theorem dX8_fridaysOf_5 : decode cX8_fridaysOf 5 = .ok (.aload_n 0, 1) := by decide +kernel
theorem dX8_fridaysOf_6 : decode cX8_fridaysOf 6 = .ok (.getfield 93, 3) := by decide +kernel
theorem dX8_fridaysOf_9 : decode cX8_fridaysOf 9 = .ok (.if_icmp .ge 34, 3) := by decide +kernel
theorem dX8_fridaysOf_12 : decode cX8_fridaysOf 12 = .ok (.iload_n 2, 1) := by decide +kernel
theorem dX8_fridaysOf_13 : decode cX8_fridaysOf 13 = .ok (.aload_n 0, 1) := by decide +kernel
theorem dX8_fridaysOf_14 : decode cX8_fridaysOf 14 = .ok (.getfield 99, 3) := by decide +kernel
theorem dX8_fridaysOf_17 : decode cX8_fridaysOf 17 = .ok (.iload_n 3, 1) := by decide +kernel
theorem dX8_fridaysOf_18 : decode cX8_fridaysOf 18 = .ok (.iaload, 1) := by decide +kernel
theorem dX8_fridaysOf_19 : decode cX8_fridaysOf 19 = .ok (.iload_n 1, 1) := by decide +kernel
theorem dX8_fridaysOf_20 : decode cX8_fridaysOf 20 = .ok (.if_icmp .ne 14, 3) := by decide +kernel
theorem dX8_fridaysOf_23 : decode cX8_fridaysOf 23 = .ok (.iconst 1, 1) := by decide +kernel
theorem dX8_fridaysOf_24 : decode cX8_fridaysOf 24 = .ok (.aload_n 0, 1) := by decide +kernel
theorem dX8_fridaysOf_25 : decode cX8_fridaysOf 25 = .ok (.getfield 102, 3) := by decide +kernel
theorem dX8_fridaysOf_28 : decode cX8_fridaysOf 28 = .ok (.iload_n 3, 1) := by decide +kernel
theorem dX8_fridaysOf_29 : decode cX8_fridaysOf 29 = .ok (.iaload, 1) := by decide +kernel
theorem dX8_fridaysOf_30 : decode cX8_fridaysOf 30 = .ok (.ishl, 1) := by decide +kernel
theorem dX8_fridaysOf_31 : decode cX8_fridaysOf 31 = .ok (.goto 4, 3) := by decide +kernel
theorem dX8_fridaysOf_34 : decode cX8_fridaysOf 34 = .ok (.iconst 0, 1) := by decide +kernel
theorem dX8_fridaysOf_35 : decode cX8_fridaysOf 35 = .ok (.ior, 1) := by decide +kernel
theorem dX8_fridaysOf_36 : decode cX8_fridaysOf 36 = .ok (.istore_n 2, 1) := by decide +kernel
theorem dX8_fridaysOf_37 : decode cX8_fridaysOf 37 = .ok (.iinc 3 1, 3) := by decide +kernel
theorem dX8_fridaysOf_40 : decode cX8_fridaysOf 40 = .ok (.goto (-36), 3) := by decide +kernel
theorem dX8_fridaysOf_43 : decode cX8_fridaysOf 43 = .ok (.iload_n 2, 1) := by decide +kernel
theorem dX8_fridaysOf_44 : decode cX8_fridaysOf 44 = .ok (.ireturn, 1) := by decide +kernel
theorem dX8_fridays_0 : decode cX8_fridays 0 = .ok (.aload_n 0, 1) := by decide +kernel
theorem dX8_fridays_1 : decode cX8_fridays 1 = .ok (.iload_n 1, 1) := by decide +kernel
theorem dX8_fridays_2 : decode cX8_fridays 2 = .ok (.invokevirtual 193, 3) := by decide +kernel
theorem dX8_fridays_5 : decode cX8_fridays 5 = .ok (.ifCond .eq 11, 3) := by decide +kernel
theorem dX8_fridays_8 : decode cX8_fridays 8 = .ok (.aload_n 0, 1) := by decide +kernel
theorem dX8_fridays_9 : decode cX8_fridays 9 = .ok (.iload_n 1, 1) := by decide +kernel
theorem dX8_fridays_10 : decode cX8_fridays 10 = .ok (.invokevirtual 308, 3) := by decide +kernel
theorem dX8_fridays_13 : decode cX8_fridays 13 = .ok (.goto 4, 3) := by decide +kernel
theorem dX8_fridays_16 : decode cX8_fridays 16 = .ok (.iconst (-1), 1) := by decide +kernel
theorem dX8_fridays_17 : decode cX8_fridays 17 = .ok (.ireturn, 1) := by decide +kernel
theorem dX8_againOf_0 : decode cX8_againOf 0 = .ok (.iconst 0, 1) := by decide +kernel
theorem dX8_againOf_1 : decode cX8_againOf 1 = .ok (.istore_n 3, 1) := by decide +kernel
theorem dX8_againOf_2 : decode cX8_againOf 2 = .ok (.iload_n 3, 1) := by decide +kernel
theorem dX8_againOf_3 : decode cX8_againOf 3 = .ok (.bipush 10, 2) := by decide +kernel
theorem dX8_againOf_5 : decode cX8_againOf 5 = .ok (.if_icmp .ge 24, 3) := by decide +kernel
theorem dX8_againOf_8 : decode cX8_againOf 8 = .ok (.aload_n 0, 1) := by decide +kernel
theorem dX8_againOf_9 : decode cX8_againOf 9 = .ok (.getfield 111, 3) := by decide +kernel
theorem dX8_againOf_12 : decode cX8_againOf 12 = .ok (.iload_n 3, 1) := by decide +kernel
theorem dX8_againOf_13 : decode cX8_againOf 13 = .ok (.iload_n 3, 1) := by decide +kernel
theorem dX8_againOf_14 : decode cX8_againOf 14 = .ok (.ifCond .ne 7, 3) := by decide +kernel
theorem dX8_againOf_17 : decode cX8_againOf 17 = .ok (.lconst 1, 1) := by decide +kernel
theorem dX8_againOf_18 : decode cX8_againOf 18 = .ok (.goto 4, 3) := by decide +kernel
theorem dX8_againOf_21 : decode cX8_againOf 21 = .ok (.lconst 0, 1) := by decide +kernel
theorem dX8_againOf_22 : decode cX8_againOf 22 = .ok (.lastore, 1) := by decide +kernel
theorem dX8_againOf_23 : decode cX8_againOf 23 = .ok (.iinc 3 1, 3) := by decide +kernel
theorem dX8_againOf_26 : decode cX8_againOf 26 = .ok (.goto (-24), 3) := by decide +kernel
theorem dX8_againOf_29 : decode cX8_againOf 29 = .ok (.aload_n 0, 1) := by decide +kernel
theorem dX8_againOf_30 : decode cX8_againOf 30 = .ok (.lconst 1, 1) := by decide +kernel
theorem dX8_againOf_31 : decode cX8_againOf 31 = .ok (.putfield 115, 3) := by decide +kernel
theorem dX8_againOf_34 : decode cX8_againOf 34 = .ok (.iconst 0, 1) := by decide +kernel
theorem dX8_againOf_35 : decode cX8_againOf 35 = .ok (.istore_n 3, 1) := by decide +kernel
theorem dX8_againOf_36 : decode cX8_againOf 36 = .ok (.iload_n 3, 1) := by decide +kernel
theorem dX8_againOf_37 : decode cX8_againOf 37 = .ok (.iload_n 2, 1) := by decide +kernel
theorem dX8_againOf_38 : decode cX8_againOf 38 = .ok (.if_icmp .ge 89, 3) := by decide +kernel
theorem dX8_againOf_41 : decode cX8_againOf 41 = .ok (.aload_n 0, 1) := by decide +kernel
theorem dX8_againOf_42 : decode cX8_againOf 42 = .ok (.iload_n 1, 1) := by decide +kernel
theorem dX8_againOf_43 : decode cX8_againOf 43 = .ok (.iload_n 3, 1) := by decide +kernel
theorem dX8_againOf_44 : decode cX8_againOf 44 = .ok (.invokevirtual 268, 3) := by decide +kernel
theorem dX8_againOf_47 : decode cX8_againOf 47 = .ok (.istore 4, 2) := by decide +kernel
theorem dX8_againOf_49 : decode cX8_againOf 49 = .ok (.iload_n 3, 1) := by decide +kernel
theorem dX8_againOf_50 : decode cX8_againOf 50 = .ok (.iconst 1, 1) := by decide +kernel
theorem dX8_againOf_51 : decode cX8_againOf 51 = .ok (.iadd, 1) := by decide +kernel
theorem dX8_againOf_52 : decode cX8_againOf 52 = .ok (.istore 5, 2) := by decide +kernel
theorem dX8_againOf_54 : decode cX8_againOf 54 = .ok (.iload 5, 2) := by decide +kernel
theorem dX8_againOf_56 : decode cX8_againOf 56 = .ok (.ifCond .lt 53, 3) := by decide +kernel
theorem dX8_againOf_59 : decode cX8_againOf 59 = .ok (.aload_n 0, 1) := by decide +kernel
theorem dX8_againOf_60 : decode cX8_againOf 60 = .ok (.getfield 111, 3) := by decide +kernel
theorem dX8_againOf_63 : decode cX8_againOf 63 = .ok (.iload 5, 2) := by decide +kernel
theorem dX8_againOf_65 : decode cX8_againOf 65 = .ok (.aload_n 0, 1) := by decide +kernel
theorem dX8_againOf_66 : decode cX8_againOf 66 = .ok (.getfield 111, 3) := by decide +kernel
theorem dX8_againOf_69 : decode cX8_againOf 69 = .ok (.iload 5, 2) := by decide +kernel
theorem dX8_againOf_71 : decode cX8_againOf 71 = .ok (.laload, 1) := by decide +kernel
theorem dX8_againOf_72 : decode cX8_againOf 72 = .ok (.bipush 100, 2) := by decide +kernel
theorem dX8_againOf_74 : decode cX8_againOf 74 = .ok (.iload 4, 2) := by decide +kernel
theorem dX8_againOf_76 : decode cX8_againOf 76 = .ok (.isub, 1) := by decide +kernel
theorem dX8_againOf_77 : decode cX8_againOf 77 = .ok (.i2l, 1) := by decide +kernel
theorem dX8_againOf_78 : decode cX8_againOf 78 = .ok (.lmul, 1) := by decide +kernel
theorem dX8_againOf_79 : decode cX8_againOf 79 = .ok (.iload 5, 2) := by decide +kernel
theorem dX8_againOf_81 : decode cX8_againOf 81 = .ok (.ifCond .le 19, 3) := by decide +kernel
theorem dX8_againOf_84 : decode cX8_againOf 84 = .ok (.aload_n 0, 1) := by decide +kernel
theorem dX8_againOf_85 : decode cX8_againOf 85 = .ok (.getfield 111, 3) := by decide +kernel
theorem dX8_againOf_88 : decode cX8_againOf 88 = .ok (.iload 5, 2) := by decide +kernel
theorem dX8_againOf_90 : decode cX8_againOf 90 = .ok (.iconst 1, 1) := by decide +kernel
theorem dX8_againOf_91 : decode cX8_againOf 91 = .ok (.isub, 1) := by decide +kernel
theorem dX8_againOf_92 : decode cX8_againOf 92 = .ok (.laload, 1) := by decide +kernel
theorem dX8_againOf_93 : decode cX8_againOf 93 = .ok (.iload 4, 2) := by decide +kernel
theorem dX8_againOf_95 : decode cX8_againOf 95 = .ok (.i2l, 1) := by decide +kernel
theorem dX8_againOf_96 : decode cX8_againOf 96 = .ok (.lmul, 1) := by decide +kernel
theorem dX8_againOf_97 : decode cX8_againOf 97 = .ok (.goto 4, 3) := by decide +kernel
theorem dX8_againOf_100 : decode cX8_againOf 100 = .ok (.lconst 0, 1) := by decide +kernel
theorem dX8_againOf_101 : decode cX8_againOf 101 = .ok (.ladd, 1) := by decide +kernel
theorem dX8_againOf_102 : decode cX8_againOf 102 = .ok (.lastore, 1) := by decide +kernel
theorem dX8_againOf_103 : decode cX8_againOf 103 = .ok (.iinc 5 (-1), 3) := by decide +kernel
theorem dX8_againOf_106 : decode cX8_againOf 106 = .ok (.goto (-52), 3) := by decide +kernel
theorem dX8_againOf_109 : decode cX8_againOf 109 = .ok (.aload_n 0, 1) := by decide +kernel
theorem dX8_againOf_110 : decode cX8_againOf 110 = .ok (.dup, 1) := by decide +kernel
theorem dX8_againOf_111 : decode cX8_againOf 111 = .ok (.getfield 115, 3) := by decide +kernel
theorem dX8_againOf_114 : decode cX8_againOf 114 = .ok (.ldc2_w 311, 3) := by decide +kernel
theorem dX8_againOf_117 : decode cX8_againOf 117 = .ok (.lmul, 1) := by decide +kernel
theorem dX8_againOf_118 : decode cX8_againOf 118 = .ok (.putfield 115, 3) := by decide +kernel
theorem dX8_againOf_121 : decode cX8_againOf 121 = .ok (.iinc 3 1, 3) := by decide +kernel
theorem dX8_againOf_124 : decode cX8_againOf 124 = .ok (.goto (-88), 3) := by decide +kernel
theorem dX8_againOf_127 : decode cX8_againOf 127 = .ok (.lconst 0, 1) := by decide +kernel
theorem dX8_againOf_128 : decode cX8_againOf 128 = .ok (.lstore_n 3, 1) := by decide +kernel
theorem dX8_againOf_129 : decode cX8_againOf 129 = .ok (.aload_n 0, 1) := by decide +kernel
theorem dX8_againOf_130 : decode cX8_againOf 130 = .ok (.aload_n 0, 1) := by decide +kernel
theorem dX8_againOf_131 : decode cX8_againOf 131 = .ok (.iload_n 1, 1) := by decide +kernel
theorem dX8_againOf_132 : decode cX8_againOf 132 = .ok (.invokevirtual 308, 3) := by decide +kernel
theorem dX8_againOf_135 : decode cX8_againOf 135 = .ok (.iconst 1, 1) := by decide +kernel
theorem dX8_againOf_136 : decode cX8_againOf 136 = .ok (.iload_n 2, 1) := by decide +kernel
theorem dX8_againOf_137 : decode cX8_againOf 137 = .ok (.ishl, 1) := by decide +kernel
theorem dX8_againOf_138 : decode cX8_againOf 138 = .ok (.iconst 1, 1) := by decide +kernel
theorem dX8_againOf_139 : decode cX8_againOf 139 = .ok (.isub, 1) := by decide +kernel
theorem dX8_againOf_140 : decode cX8_againOf 140 = .ok (.iand, 1) := by decide +kernel
theorem dX8_againOf_141 : decode cX8_againOf 141 = .ok (.invokevirtual 293, 3) := by decide +kernel
theorem dX8_againOf_144 : decode cX8_againOf 144 = .ok (.istore 5, 2) := by decide +kernel
theorem dX8_againOf_146 : decode cX8_againOf 146 = .ok (.iload 5, 2) := by decide +kernel
theorem dX8_againOf_148 : decode cX8_againOf 148 = .ok (.iload_n 2, 1) := by decide +kernel
theorem dX8_againOf_149 : decode cX8_againOf 149 = .ok (.if_icmp .gt 19, 3) := by decide +kernel
theorem dX8_againOf_152 : decode cX8_againOf 152 = .ok (.lload_n 3, 1) := by decide +kernel
theorem dX8_againOf_153 : decode cX8_againOf 153 = .ok (.aload_n 0, 1) := by decide +kernel
theorem dX8_againOf_154 : decode cX8_againOf 154 = .ok (.getfield 111, 3) := by decide +kernel
theorem dX8_againOf_157 : decode cX8_againOf 157 = .ok (.iload 5, 2) := by decide +kernel
theorem dX8_againOf_159 : decode cX8_againOf 159 = .ok (.laload, 1) := by decide +kernel
theorem dX8_againOf_160 : decode cX8_againOf 160 = .ok (.ladd, 1) := by decide +kernel
theorem dX8_againOf_161 : decode cX8_againOf 161 = .ok (.lstore_n 3, 1) := by decide +kernel
theorem dX8_againOf_162 : decode cX8_againOf 162 = .ok (.iinc 5 1, 3) := by decide +kernel
theorem dX8_againOf_165 : decode cX8_againOf 165 = .ok (.goto (-19), 3) := by decide +kernel
theorem dX8_againOf_168 : decode cX8_againOf 168 = .ok (.lload_n 3, 1) := by decide +kernel
theorem dX8_againOf_169 : decode cX8_againOf 169 = .ok (.lreturn, 1) := by decide +kernel
theorem dX8_divisor_0 : decode cX8_divisor 0 = .ok (.lload_n 1, 1) := by decide +kernel
theorem dX8_divisor_1 : decode cX8_divisor 1 = .ok (.lstore 5, 2) := by decide +kernel
theorem dX8_divisor_3 : decode cX8_divisor 3 = .ok (.lload_n 3, 1) := by decide +kernel
theorem dX8_divisor_4 : decode cX8_divisor 4 = .ok (.lstore 7, 2) := by decide +kernel
theorem dX8_divisor_6 : decode cX8_divisor 6 = .ok (.lload 7, 2) := by decide +kernel
theorem dX8_divisor_8 : decode cX8_divisor 8 = .ok (.lconst 0, 1) := by decide +kernel
theorem dX8_divisor_9 : decode cX8_divisor 9 = .ok (.lcmp, 1) := by decide +kernel
theorem dX8_divisor_10 : decode cX8_divisor 10 = .ok (.ifCond .eq 21, 3) := by decide +kernel
theorem dX8_divisor_13 : decode cX8_divisor 13 = .ok (.lload 5, 2) := by decide +kernel
theorem dX8_divisor_15 : decode cX8_divisor 15 = .ok (.lload 7, 2) := by decide +kernel
theorem dX8_divisor_17 : decode cX8_divisor 17 = .ok (.lrem, 1) := by decide +kernel
theorem dX8_divisor_18 : decode cX8_divisor 18 = .ok (.lstore 9, 2) := by decide +kernel
theorem dX8_divisor_20 : decode cX8_divisor 20 = .ok (.lload 7, 2) := by decide +kernel
theorem dX8_divisor_22 : decode cX8_divisor 22 = .ok (.lstore 5, 2) := by decide +kernel
theorem dX8_divisor_24 : decode cX8_divisor 24 = .ok (.lload 9, 2) := by decide +kernel
theorem dX8_divisor_26 : decode cX8_divisor 26 = .ok (.lstore 7, 2) := by decide +kernel
theorem dX8_divisor_28 : decode cX8_divisor 28 = .ok (.goto (-22), 3) := by decide +kernel
theorem dX8_divisor_31 : decode cX8_divisor 31 = .ok (.lload 5, 2) := by decide +kernel
theorem dX8_divisor_33 : decode cX8_divisor 33 = .ok (.lreturn, 1) := by decide +kernel
theorem dX8_again_0 : decode cX8_again 0 = .ok (.aload_n 0, 1) := by decide +kernel
theorem dX8_again_1 : decode cX8_again 1 = .ok (.iload_n 1, 1) := by decide +kernel
theorem dX8_again_2 : decode cX8_again 2 = .ok (.invokevirtual 193, 3) := by decide +kernel
theorem dX8_again_5 : decode cX8_again 5 = .ok (.ifCond .eq 35, 3) := by decide +kernel
theorem dX8_again_8 : decode cX8_again 8 = .ok (.aload_n 0, 1) := by decide +kernel
theorem dX8_again_9 : decode cX8_again 9 = .ok (.iload_n 2, 1) := by decide +kernel
theorem dX8_again_10 : decode cX8_again 10 = .ok (.iconst 0, 1) := by decide +kernel
theorem dX8_again_11 : decode cX8_again 11 = .ok (.bipush 9, 2) := by decide +kernel
theorem dX8_again_13 : decode cX8_again 13 = .ok (.invokevirtual 189, 3) := by decide +kernel
theorem dX8_again_16 : decode cX8_again 16 = .ok (.ifCond .eq 24, 3) := by decide +kernel
theorem dX8_again_19 : decode cX8_again 19 = .ok (.aload_n 0, 1) := by decide +kernel
theorem dX8_again_20 : decode cX8_again 20 = .ok (.iload_n 3, 1) := by decide +kernel
theorem dX8_again_21 : decode cX8_again 21 = .ok (.iconst 0, 1) := by decide +kernel
theorem dX8_again_22 : decode cX8_again 22 = .ok (.iconst 1, 1) := by decide +kernel
theorem dX8_again_23 : decode cX8_again 23 = .ok (.invokevirtual 189, 3) := by decide +kernel
theorem dX8_again_26 : decode cX8_again 26 = .ok (.ifCond .eq 14, 3) := by decide +kernel
theorem dX8_again_29 : decode cX8_again 29 = .ok (.aload_n 0, 1) := by decide +kernel
theorem dX8_again_30 : decode cX8_again 30 = .ok (.iload 4, 2) := by decide +kernel
theorem dX8_again_32 : decode cX8_again 32 = .ok (.iconst 0, 1) := by decide +kernel
theorem dX8_again_33 : decode cX8_again 33 = .ok (.iconst 1, 1) := by decide +kernel
theorem dX8_again_34 : decode cX8_again 34 = .ok (.invokevirtual 189, 3) := by decide +kernel
theorem dX8_again_37 : decode cX8_again 37 = .ok (.ifCond .ne 7, 3) := by decide +kernel
theorem dX8_again_40 : decode cX8_again 40 = .ok (.ldc2_w 313, 3) := by decide +kernel
theorem dX8_again_43 : decode cX8_again 43 = .ok (.lreturn, 1) := by decide +kernel
theorem dX8_again_44 : decode cX8_again 44 = .ok (.aload_n 0, 1) := by decide +kernel
theorem dX8_again_45 : decode cX8_again 45 = .ok (.iload_n 1, 1) := by decide +kernel
theorem dX8_again_46 : decode cX8_again 46 = .ok (.iload_n 2, 1) := by decide +kernel
theorem dX8_again_47 : decode cX8_again 47 = .ok (.invokevirtual 315, 3) := by decide +kernel
theorem dX8_again_50 : decode cX8_again 50 = .ok (.iload_n 3, 1) := by decide +kernel
theorem dX8_again_51 : decode cX8_again 51 = .ok (.iconst 1, 1) := by decide +kernel
theorem dX8_again_52 : decode cX8_again 52 = .ok (.if_icmp .ne 10, 3) := by decide +kernel
theorem dX8_again_55 : decode cX8_again 55 = .ok (.aload_n 0, 1) := by decide +kernel
theorem dX8_again_56 : decode cX8_again 56 = .ok (.getfield 7, 3) := by decide +kernel
theorem dX8_again_59 : decode cX8_again 59 = .ok (.goto 4, 3) := by decide +kernel
theorem dX8_again_62 : decode cX8_again 62 = .ok (.iconst 1, 1) := by decide +kernel
theorem dX8_again_63 : decode cX8_again 63 = .ok (.i2l, 1) := by decide +kernel
theorem dX8_again_64 : decode cX8_again 64 = .ok (.lmul, 1) := by decide +kernel
theorem dX8_again_65 : decode cX8_again 65 = .ok (.lstore 5, 2) := by decide +kernel
theorem dX8_again_67 : decode cX8_again 67 = .ok (.lload 5, 2) := by decide +kernel
theorem dX8_again_69 : decode cX8_again 69 = .ok (.aload_n 0, 1) := by decide +kernel
theorem dX8_again_70 : decode cX8_again 70 = .ok (.getfield 115, 3) := by decide +kernel
theorem dX8_again_73 : decode cX8_again 73 = .ok (.lcmp, 1) := by decide +kernel
theorem dX8_again_74 : decode cX8_again 74 = .ok (.ifCond .le 10, 3) := by decide +kernel
theorem dX8_again_77 : decode cX8_again 77 = .ok (.aload_n 0, 1) := by decide +kernel
theorem dX8_again_78 : decode cX8_again 78 = .ok (.getfield 115, 3) := by decide +kernel
theorem dX8_again_81 : decode cX8_again 81 = .ok (.goto 5, 3) := by decide +kernel
theorem dX8_again_84 : decode cX8_again 84 = .ok (.lload 5, 2) := by decide +kernel
theorem dX8_again_86 : decode cX8_again 86 = .ok (.lstore 5, 2) := by decide +kernel
theorem dX8_again_88 : decode cX8_again 88 = .ok (.aload_n 0, 1) := by decide +kernel
theorem dX8_again_89 : decode cX8_again 89 = .ok (.lload 5, 2) := by decide +kernel
theorem dX8_again_91 : decode cX8_again 91 = .ok (.aload_n 0, 1) := by decide +kernel
theorem dX8_again_92 : decode cX8_again 92 = .ok (.getfield 115, 3) := by decide +kernel
theorem dX8_again_95 : decode cX8_again 95 = .ok (.invokevirtual 319, 3) := by decide +kernel
theorem dX8_again_98 : decode cX8_again 98 = .ok (.lstore 7, 2) := by decide +kernel
theorem dX8_again_100 : decode cX8_again 100 = .ok (.iload 4, 2) := by decide +kernel
theorem dX8_again_102 : decode cX8_again 102 = .ok (.ifCond .ne 11, 3) := by decide +kernel
theorem dX8_again_105 : decode cX8_again 105 = .ok (.lload 5, 2) := by decide +kernel
theorem dX8_again_107 : decode cX8_again 107 = .ok (.lload 7, 2) := by decide +kernel
theorem dX8_again_109 : decode cX8_again 109 = .ok (.ldiv, 1) := by decide +kernel
theorem dX8_again_110 : decode cX8_again 110 = .ok (.goto 10, 3) := by decide +kernel
theorem dX8_again_113 : decode cX8_again 113 = .ok (.aload_n 0, 1) := by decide +kernel
theorem dX8_again_114 : decode cX8_again 114 = .ok (.getfield 115, 3) := by decide +kernel
theorem dX8_again_117 : decode cX8_again 117 = .ok (.lload 7, 2) := by decide +kernel
theorem dX8_again_119 : decode cX8_again 119 = .ok (.ldiv, 1) := by decide +kernel
theorem dX8_again_120 : decode cX8_again 120 = .ok (.lreturn, 1) := by decide +kernel
theorem dX8_oddest_0 : decode cX8_oddest 0 = .ok (.aload_n 0, 1) := by decide +kernel
theorem dX8_oddest_1 : decode cX8_oddest 1 = .ok (.getfield 7, 3) := by decide +kernel
theorem dX8_oddest_4 : decode cX8_oddest 4 = .ok (.ifCond .ne 5, 3) := by decide +kernel
theorem dX8_oddest_7 : decode cX8_oddest 7 = .ok (.iconst (-1), 1) := by decide +kernel
theorem dX8_oddest_8 : decode cX8_oddest 8 = .ok (.ireturn, 1) := by decide +kernel
theorem dX8_oddest_9 : decode cX8_oddest 9 = .ok (.aload_n 0, 1) := by decide +kernel
theorem dX8_oddest_10 : decode cX8_oddest 10 = .ok (.iload_n 1, 1) := by decide +kernel
theorem dX8_oddest_11 : decode cX8_oddest 11 = .ok (.iconst 0, 1) := by decide +kernel
theorem dX8_oddest_12 : decode cX8_oddest 12 = .ok (.bipush 9, 2) := by decide +kernel
theorem dX8_oddest_14 : decode cX8_oddest 14 = .ok (.invokevirtual 189, 3) := by decide +kernel
theorem dX8_oddest_17 : decode cX8_oddest 17 = .ok (.ifCond .ne 6, 3) := by decide +kernel
theorem dX8_oddest_20 : decode cX8_oddest 20 = .ok (.bipush (-2), 2) := by decide +kernel
theorem dX8_oddest_22 : decode cX8_oddest 22 = .ok (.ireturn, 1) := by decide +kernel
theorem dX8_oddest_23 : decode cX8_oddest 23 = .ok (.iconst (-1), 1) := by decide +kernel
theorem dX8_oddest_24 : decode cX8_oddest 24 = .ok (.istore_n 2, 1) := by decide +kernel
theorem dX8_oddest_25 : decode cX8_oddest 25 = .ok (.lconst 0, 1) := by decide +kernel
theorem dX8_oddest_26 : decode cX8_oddest 26 = .ok (.lstore_n 3, 1) := by decide +kernel
theorem dX8_oddest_27 : decode cX8_oddest 27 = .ok (.iconst 0, 1) := by decide +kernel
theorem dX8_oddest_28 : decode cX8_oddest 28 = .ok (.istore 5, 2) := by decide +kernel
theorem dX8_oddest_30 : decode cX8_oddest 30 = .ok (.iload 5, 2) := by decide +kernel
theorem dX8_oddest_32 : decode cX8_oddest 32 = .ok (.aload_n 0, 1) := by decide +kernel
theorem dX8_oddest_33 : decode cX8_oddest 33 = .ok (.getfield 7, 3) := by decide +kernel
theorem dX8_oddest_36 : decode cX8_oddest 36 = .ok (.if_icmp .ge 38, 3) := by decide +kernel
theorem dX8_oddest_39 : decode cX8_oddest 39 = .ok (.aload_n 0, 1) := by decide +kernel
theorem dX8_oddest_40 : decode cX8_oddest 40 = .ok (.iload 5, 2) := by decide +kernel
theorem dX8_oddest_42 : decode cX8_oddest 42 = .ok (.iload_n 1, 1) := by decide +kernel
theorem dX8_oddest_43 : decode cX8_oddest 43 = .ok (.invokevirtual 315, 3) := by decide +kernel
theorem dX8_oddest_46 : decode cX8_oddest 46 = .ok (.lstore 6, 2) := by decide +kernel
theorem dX8_oddest_48 : decode cX8_oddest 48 = .ok (.iload_n 2, 1) := by decide +kernel
theorem dX8_oddest_49 : decode cX8_oddest 49 = .ok (.ifCond .lt 13, 3) := by decide +kernel
theorem dX8_oddest_52 : decode cX8_oddest 52 = .ok (.lload 6, 2) := by decide +kernel
theorem dX8_oddest_54 : decode cX8_oddest 54 = .ok (.lload_n 3, 1) := by decide +kernel
theorem dX8_oddest_55 : decode cX8_oddest 55 = .ok (.lcmp, 1) := by decide +kernel
theorem dX8_oddest_56 : decode cX8_oddest 56 = .ok (.ifCond .lt 6, 3) := by decide +kernel
theorem dX8_oddest_59 : decode cX8_oddest 59 = .ok (.goto 9, 3) := by decide +kernel
theorem dX8_oddest_62 : decode cX8_oddest 62 = .ok (.iload 5, 2) := by decide +kernel
theorem dX8_oddest_64 : decode cX8_oddest 64 = .ok (.istore_n 2, 1) := by decide +kernel
theorem dX8_oddest_65 : decode cX8_oddest 65 = .ok (.lload 6, 2) := by decide +kernel
theorem dX8_oddest_67 : decode cX8_oddest 67 = .ok (.lstore_n 3, 1) := by decide +kernel
theorem dX8_oddest_68 : decode cX8_oddest 68 = .ok (.iinc 5 1, 3) := by decide +kernel
theorem dX8_oddest_71 : decode cX8_oddest 71 = .ok (.goto (-41), 3) := by decide +kernel
theorem dX8_oddest_74 : decode cX8_oddest 74 = .ok (.iload_n 2, 1) := by decide +kernel
theorem dX8_oddest_75 : decode cX8_oddest 75 = .ok (.ireturn, 1) := by decide +kernel
theorem dX8_ring_0 : decode cX8_ring 0 = .ok (.aload_n 0, 1) := by decide +kernel
theorem dX8_ring_1 : decode cX8_ring 1 = .ok (.iload_n 1, 1) := by decide +kernel
theorem dX8_ring_2 : decode cX8_ring 2 = .ok (.iconst 0, 1) := by decide +kernel
theorem dX8_ring_3 : decode cX8_ring 3 = .ok (.iconst 1, 1) := by decide +kernel
theorem dX8_ring_4 : decode cX8_ring 4 = .ok (.invokevirtual 189, 3) := by decide +kernel
theorem dX8_ring_7 : decode cX8_ring 7 = .ok (.ifCond .ne 5, 3) := by decide +kernel
theorem dX8_ring_10 : decode cX8_ring 10 = .ok (.iconst (-1), 1) := by decide +kernel
theorem dX8_ring_11 : decode cX8_ring 11 = .ok (.ireturn, 1) := by decide +kernel
theorem dX8_ring_12 : decode cX8_ring 12 = .ok (.iconst 0, 1) := by decide +kernel
theorem dX8_ring_13 : decode cX8_ring 13 = .ok (.istore_n 2, 1) := by decide +kernel
theorem dX8_ring_14 : decode cX8_ring 14 = .ok (.iconst 0, 1) := by decide +kernel
theorem dX8_ring_15 : decode cX8_ring 15 = .ok (.istore_n 3, 1) := by decide +kernel
theorem dX8_ring_16 : decode cX8_ring 16 = .ok (.iconst 0, 1) := by decide +kernel
theorem dX8_ring_17 : decode cX8_ring 17 = .ok (.istore 4, 2) := by decide +kernel
theorem dX8_ring_19 : decode cX8_ring 19 = .ok (.iload 4, 2) := by decide +kernel
theorem dX8_ring_21 : decode cX8_ring 21 = .ok (.aload_n 0, 1) := by decide +kernel
theorem dX8_ring_22 : decode cX8_ring 22 = .ok (.getfield 7, 3) := by decide +kernel
theorem dX8_ring_25 : decode cX8_ring 25 = .ok (.if_icmp .ge 127, 3) := by decide +kernel
theorem dX8_ring_28 : decode cX8_ring 28 = .ok (.iconst 0, 1) := by decide +kernel
theorem dX8_ring_29 : decode cX8_ring 29 = .ok (.istore 5, 2) := by decide +kernel
theorem dX8_ring_31 : decode cX8_ring 31 = .ok (.iconst 0, 1) := by decide +kernel
theorem dX8_ring_32 : decode cX8_ring 32 = .ok (.istore 6, 2) := by decide +kernel
theorem dX8_ring_34 : decode cX8_ring 34 = .ok (.iload 6, 2) := by decide +kernel
theorem dX8_ring_36 : decode cX8_ring 36 = .ok (.aload_n 0, 1) := by decide +kernel
theorem dX8_ring_37 : decode cX8_ring 37 = .ok (.getfield 7, 3) := by decide +kernel
theorem dX8_ring_40 : decode cX8_ring 40 = .ok (.if_icmp .ge 60, 3) := by decide +kernel
theorem dX8_ring_43 : decode cX8_ring 43 = .ok (.aload_n 0, 1) := by decide +kernel
theorem dX8_ring_44 : decode cX8_ring 44 = .ok (.iload 4, 2) := by decide +kernel
theorem dX8_ring_46 : decode cX8_ring 46 = .ok (.invokevirtual 308, 3) := by decide +kernel
theorem dX8_ring_49 : decode cX8_ring 49 = .ok (.ifCond .eq 45, 3) := by decide +kernel
theorem dX8_ring_52 : decode cX8_ring 52 = .ok (.aload_n 0, 1) := by decide +kernel
theorem dX8_ring_53 : decode cX8_ring 53 = .ok (.iload 4, 2) := by decide +kernel
theorem dX8_ring_55 : decode cX8_ring 55 = .ok (.invokevirtual 308, 3) := by decide +kernel
theorem dX8_ring_58 : decode cX8_ring 58 = .ok (.aload_n 0, 1) := by decide +kernel
theorem dX8_ring_59 : decode cX8_ring 59 = .ok (.iload 6, 2) := by decide +kernel
theorem dX8_ring_61 : decode cX8_ring 61 = .ok (.invokevirtual 308, 3) := by decide +kernel
theorem dX8_ring_64 : decode cX8_ring 64 = .ok (.if_icmp .eq 6, 3) := by decide +kernel
theorem dX8_ring_67 : decode cX8_ring 67 = .ok (.goto 27, 3) := by decide +kernel
theorem dX8_ring_70 : decode cX8_ring 70 = .ok (.iload 5, 2) := by decide +kernel
theorem dX8_ring_72 : decode cX8_ring 72 = .ok (.iconst 1, 1) := by decide +kernel
theorem dX8_ring_73 : decode cX8_ring 73 = .ok (.iload 6, 2) := by decide +kernel
theorem dX8_ring_75 : decode cX8_ring 75 = .ok (.ishl, 1) := by decide +kernel
theorem dX8_ring_76 : decode cX8_ring 76 = .ok (.ior, 1) := by decide +kernel
theorem dX8_ring_77 : decode cX8_ring 77 = .ok (.istore 5, 2) := by decide +kernel
theorem dX8_ring_79 : decode cX8_ring 79 = .ok (.iload_n 2, 1) := by decide +kernel
theorem dX8_ring_80 : decode cX8_ring 80 = .ok (.iload 6, 2) := by decide +kernel
theorem dX8_ring_82 : decode cX8_ring 82 = .ok (.iload 4, 2) := by decide +kernel
theorem dX8_ring_84 : decode cX8_ring 84 = .ok (.if_icmp .ge 7, 3) := by decide +kernel
theorem dX8_ring_87 : decode cX8_ring 87 = .ok (.iconst 1, 1) := by decide +kernel
theorem dX8_ring_88 : decode cX8_ring 88 = .ok (.goto 4, 3) := by decide +kernel
theorem dX8_ring_91 : decode cX8_ring 91 = .ok (.iconst 0, 1) := by decide +kernel
theorem dX8_ring_92 : decode cX8_ring 92 = .ok (.iadd, 1) := by decide +kernel
theorem dX8_ring_93 : decode cX8_ring 93 = .ok (.istore_n 2, 1) := by decide +kernel
theorem dX8_ring_94 : decode cX8_ring 94 = .ok (.iinc 6 1, 3) := by decide +kernel
theorem dX8_ring_97 : decode cX8_ring 97 = .ok (.goto (-63), 3) := by decide +kernel
theorem dX8_ring_100 : decode cX8_ring 100 = .ok (.aload_n 0, 1) := by decide +kernel
theorem dX8_ring_101 : decode cX8_ring 101 = .ok (.iload 5, 2) := by decide +kernel
theorem dX8_ring_103 : decode cX8_ring 103 = .ok (.invokevirtual 293, 3) := by decide +kernel
theorem dX8_ring_106 : decode cX8_ring 106 = .ok (.iconst 2, 1) := by decide +kernel
theorem dX8_ring_107 : decode cX8_ring 107 = .ok (.if_icmp .ge 6, 3) := by decide +kernel
theorem dX8_ring_110 : decode cX8_ring 110 = .ok (.goto 36, 3) := by decide +kernel
theorem dX8_ring_113 : decode cX8_ring 113 = .ok (.aload_n 0, 1) := by decide +kernel
theorem dX8_ring_114 : decode cX8_ring 114 = .ok (.iload 5, 2) := by decide +kernel
theorem dX8_ring_116 : decode cX8_ring 116 = .ok (.invokevirtual 293, 3) := by decide +kernel
theorem dX8_ring_119 : decode cX8_ring 119 = .ok (.aload_n 0, 1) := by decide +kernel
theorem dX8_ring_120 : decode cX8_ring 120 = .ok (.iload_n 3, 1) := by decide +kernel
theorem dX8_ring_121 : decode cX8_ring 121 = .ok (.invokevirtual 293, 3) := by decide +kernel
theorem dX8_ring_124 : decode cX8_ring 124 = .ok (.isub, 1) := by decide +kernel
theorem dX8_ring_125 : decode cX8_ring 125 = .ok (.istore 6, 2) := by decide +kernel
theorem dX8_ring_127 : decode cX8_ring 127 = .ok (.iload 6, 2) := by decide +kernel
theorem dX8_ring_129 : decode cX8_ring 129 = .ok (.ifCond .gt 14, 3) := by decide +kernel
theorem dX8_ring_132 : decode cX8_ring 132 = .ok (.iload 6, 2) := by decide +kernel
theorem dX8_ring_134 : decode cX8_ring 134 = .ok (.ifCond .ne 12, 3) := by decide +kernel
theorem dX8_ring_137 : decode cX8_ring 137 = .ok (.iload 5, 2) := by decide +kernel
theorem dX8_ring_139 : decode cX8_ring 139 = .ok (.iload_n 3, 1) := by decide +kernel
theorem dX8_ring_140 : decode cX8_ring 140 = .ok (.if_icmp .ge 6, 3) := by decide +kernel
theorem dX8_ring_143 : decode cX8_ring 143 = .ok (.iload 5, 2) := by decide +kernel
theorem dX8_ring_145 : decode cX8_ring 145 = .ok (.istore_n 3, 1) := by decide +kernel
theorem dX8_ring_146 : decode cX8_ring 146 = .ok (.iinc 4 1, 3) := by decide +kernel
theorem dX8_ring_149 : decode cX8_ring 149 = .ok (.goto (-130), 3) := by decide +kernel
theorem dX8_ring_152 : decode cX8_ring 152 = .ok (.iload_n 1, 1) := by decide +kernel
theorem dX8_ring_153 : decode cX8_ring 153 = .ok (.ifCond .ne 7, 3) := by decide +kernel
theorem dX8_ring_156 : decode cX8_ring 156 = .ok (.iload_n 2, 1) := by decide +kernel
theorem dX8_ring_157 : decode cX8_ring 157 = .ok (.goto 4, 3) := by decide +kernel
theorem dX8_ring_160 : decode cX8_ring 160 = .ok (.iload_n 3, 1) := by decide +kernel
theorem dX8_ring_161 : decode cX8_ring 161 = .ok (.ireturn, 1) := by decide +kernel
theorem dX8_knowers_0 : decode cX8_knowers 0 = .ok (.iconst 0, 1) := by decide +kernel
theorem dX8_knowers_1 : decode cX8_knowers 1 = .ok (.istore_n 2, 1) := by decide +kernel
theorem dX8_knowers_2 : decode cX8_knowers 2 = .ok (.iconst 0, 1) := by decide +kernel
theorem dX8_knowers_3 : decode cX8_knowers 3 = .ok (.istore_n 3, 1) := by decide +kernel
theorem dX8_knowers_4 : decode cX8_knowers 4 = .ok (.iload_n 3, 1) := by decide +kernel
theorem dX8_knowers_5 : decode cX8_knowers 5 = .ok (.aload_n 0, 1) := by decide +kernel
theorem dX8_knowers_6 : decode cX8_knowers 6 = .ok (.getfield 7, 3) := by decide +kernel
theorem dX8_knowers_9 : decode cX8_knowers 9 = .ok (.if_icmp .ge 28, 3) := by decide +kernel
theorem dX8_knowers_12 : decode cX8_knowers 12 = .ok (.iload_n 2, 1) := by decide +kernel
theorem dX8_knowers_13 : decode cX8_knowers 13 = .ok (.aload_n 0, 1) := by decide +kernel
theorem dX8_knowers_14 : decode cX8_knowers 14 = .ok (.iload_n 3, 1) := by decide +kernel
theorem dX8_knowers_15 : decode cX8_knowers 15 = .ok (.invokevirtual 284, 3) := by decide +kernel
theorem dX8_knowers_18 : decode cX8_knowers 18 = .ok (.iload_n 1, 1) := by decide +kernel
theorem dX8_knowers_19 : decode cX8_knowers 19 = .ok (.if_icmp .gt 9, 3) := by decide +kernel
theorem dX8_knowers_22 : decode cX8_knowers 22 = .ok (.iconst 1, 1) := by decide +kernel
theorem dX8_knowers_23 : decode cX8_knowers 23 = .ok (.iload_n 3, 1) := by decide +kernel
theorem dX8_knowers_24 : decode cX8_knowers 24 = .ok (.ishl, 1) := by decide +kernel
theorem dX8_knowers_25 : decode cX8_knowers 25 = .ok (.goto 4, 3) := by decide +kernel
theorem dX8_knowers_28 : decode cX8_knowers 28 = .ok (.iconst 0, 1) := by decide +kernel
theorem dX8_knowers_29 : decode cX8_knowers 29 = .ok (.ior, 1) := by decide +kernel
theorem dX8_knowers_30 : decode cX8_knowers 30 = .ok (.istore_n 2, 1) := by decide +kernel
theorem dX8_knowers_31 : decode cX8_knowers 31 = .ok (.iinc 3 1, 3) := by decide +kernel
theorem dX8_knowers_34 : decode cX8_knowers 34 = .ok (.goto (-30), 3) := by decide +kernel
theorem dX8_knowers_37 : decode cX8_knowers 37 = .ok (.iload_n 2, 1) := by decide +kernel
theorem dX8_knowers_38 : decode cX8_knowers 38 = .ok (.ireturn, 1) := by decide +kernel
theorem dX8_fewest_0 : decode cX8_fewest 0 = .ok (.iconst 0, 1) := by decide +kernel
theorem dX8_fewest_1 : decode cX8_fewest 1 = .ok (.istore 4, 2) := by decide +kernel
theorem dX8_fewest_3 : decode cX8_fewest 3 = .ok (.iload 4, 2) := by decide +kernel
theorem dX8_fewest_5 : decode cX8_fewest 5 = .ok (.iload_n 2, 1) := by decide +kernel
theorem dX8_fewest_6 : decode cX8_fewest 6 = .ok (.if_icmp .gt 31, 3) := by decide +kernel
theorem dX8_fewest_9 : decode cX8_fewest 9 = .ok (.iload 4, 2) := by decide +kernel
theorem dX8_fewest_11 : decode cX8_fewest 11 = .ok (.iload_n 3, 1) := by decide +kernel
theorem dX8_fewest_12 : decode cX8_fewest 12 = .ok (.iconst 1, 1) := by decide +kernel
theorem dX8_fewest_13 : decode cX8_fewest 13 = .ok (.if_icmp .ge 7, 3) := by decide +kernel
theorem dX8_fewest_16 : decode cX8_fewest 16 = .ok (.iconst 0, 1) := by decide +kernel
theorem dX8_fewest_17 : decode cX8_fewest 17 = .ok (.goto 6, 3) := by decide +kernel
theorem dX8_fewest_20 : decode cX8_fewest 20 = .ok (.iload_n 3, 1) := by decide +kernel
theorem dX8_fewest_21 : decode cX8_fewest 21 = .ok (.iconst 1, 1) := by decide +kernel
theorem dX8_fewest_22 : decode cX8_fewest 22 = .ok (.isub, 1) := by decide +kernel
theorem dX8_fewest_23 : decode cX8_fewest 23 = .ok (.imul, 1) := by decide +kernel
theorem dX8_fewest_24 : decode cX8_fewest 24 = .ok (.iload_n 1, 1) := by decide +kernel
theorem dX8_fewest_25 : decode cX8_fewest 25 = .ok (.if_icmp .lt 6, 3) := by decide +kernel
theorem dX8_fewest_28 : decode cX8_fewest 28 = .ok (.iload 4, 2) := by decide +kernel
theorem dX8_fewest_30 : decode cX8_fewest 30 = .ok (.ireturn, 1) := by decide +kernel
theorem dX8_fewest_31 : decode cX8_fewest 31 = .ok (.iinc 4 1, 3) := by decide +kernel
theorem dX8_fewest_34 : decode cX8_fewest 34 = .ok (.goto (-31), 3) := by decide +kernel
theorem dX8_fewest_37 : decode cX8_fewest 37 = .ok (.bipush (-5), 2) := by decide +kernel
theorem dX8_fewest_39 : decode cX8_fewest 39 = .ok (.ireturn, 1) := by decide +kernel
theorem dX8_parted_0 : decode cX8_parted 0 = .ok (.aload_n 0, 1) := by decide +kernel
theorem dX8_parted_1 : decode cX8_parted 1 = .ok (.iload_n 1, 1) := by decide +kernel
theorem dX8_parted_2 : decode cX8_parted 2 = .ok (.iconst 0, 1) := by decide +kernel
theorem dX8_parted_3 : decode cX8_parted 3 = .ok (.sipush 999, 3) := by decide +kernel
theorem dX8_parted_6 : decode cX8_parted 6 = .ok (.invokevirtual 189, 3) := by decide +kernel
theorem dX8_parted_9 : decode cX8_parted 9 = .ok (.ifCond .eq 11, 3) := by decide +kernel
theorem dX8_parted_12 : decode cX8_parted 12 = .ok (.aload_n 0, 1) := by decide +kernel
theorem dX8_parted_13 : decode cX8_parted 13 = .ok (.iload_n 2, 1) := by decide +kernel
theorem dX8_parted_14 : decode cX8_parted 14 = .ok (.invokevirtual 290, 3) := by decide +kernel
theorem dX8_parted_17 : decode cX8_parted 17 = .ok (.ifCond .ne 6, 3) := by decide +kernel
theorem dX8_parted_20 : decode cX8_parted 20 = .ok (.bipush (-2), 2) := by decide +kernel
theorem dX8_parted_22 : decode cX8_parted 22 = .ok (.ireturn, 1) := by decide +kernel
theorem dX8_parted_23 : decode cX8_parted 23 = .ok (.aload_n 0, 1) := by decide +kernel
theorem dX8_parted_24 : decode cX8_parted 24 = .ok (.invokevirtual 278, 3) := by decide +kernel
theorem dX8_parted_27 : decode cX8_parted 27 = .ok (.aload_n 0, 1) := by decide +kernel
theorem dX8_parted_28 : decode cX8_parted 28 = .ok (.iconst 0, 1) := by decide +kernel
theorem dX8_parted_29 : decode cX8_parted 29 = .ok (.invokevirtual 281, 3) := by decide +kernel
theorem dX8_parted_32 : decode cX8_parted 32 = .ok (.aload_n 0, 1) := by decide +kernel
theorem dX8_parted_33 : decode cX8_parted 33 = .ok (.iload_n 1, 1) := by decide +kernel
theorem dX8_parted_34 : decode cX8_parted 34 = .ok (.aload_n 0, 1) := by decide +kernel
theorem dX8_parted_35 : decode cX8_parted 35 = .ok (.aload_n 0, 1) := by decide +kernel
theorem dX8_parted_36 : decode cX8_parted 36 = .ok (.iload_n 2, 1) := by decide +kernel
theorem dX8_parted_37 : decode cX8_parted 37 = .ok (.invokevirtual 323, 3) := by decide +kernel
theorem dX8_parted_40 : decode cX8_parted 40 = .ok (.invokevirtual 293, 3) := by decide +kernel
theorem dX8_parted_43 : decode cX8_parted 43 = .ok (.aload_n 0, 1) := by decide +kernel
theorem dX8_parted_44 : decode cX8_parted 44 = .ok (.iconst 3, 1) := by decide +kernel
theorem dX8_parted_45 : decode cX8_parted 45 = .ok (.sipush 999, 3) := by decide +kernel
theorem dX8_parted_48 : decode cX8_parted 48 = .ok (.invokevirtual 271, 3) := by decide +kernel
theorem dX8_parted_51 : decode cX8_parted 51 = .ok (.invokevirtual 326, 3) := by decide +kernel
theorem dX8_parted_54 : decode cX8_parted 54 = .ok (.ireturn, 1) := by decide +kernel
theorem dX8_watch_0 : decode cX8_watch 0 = .ok (.aload_n 0, 1) := by decide +kernel
theorem dX8_watch_1 : decode cX8_watch 1 = .ok (.iload_n 1, 1) := by decide +kernel
theorem dX8_watch_2 : decode cX8_watch 2 = .ok (.iconst 0, 1) := by decide +kernel
theorem dX8_watch_3 : decode cX8_watch 3 = .ok (.sipush 999, 3) := by decide +kernel
theorem dX8_watch_6 : decode cX8_watch 6 = .ok (.invokevirtual 189, 3) := by decide +kernel
theorem dX8_watch_9 : decode cX8_watch 9 = .ok (.ifCond .eq 22, 3) := by decide +kernel
theorem dX8_watch_12 : decode cX8_watch 12 = .ok (.aload_n 0, 1) := by decide +kernel
theorem dX8_watch_13 : decode cX8_watch 13 = .ok (.iload_n 2, 1) := by decide +kernel
theorem dX8_watch_14 : decode cX8_watch 14 = .ok (.invokevirtual 290, 3) := by decide +kernel
theorem dX8_watch_17 : decode cX8_watch 17 = .ok (.ifCond .eq 14, 3) := by decide +kernel
theorem dX8_watch_20 : decode cX8_watch 20 = .ok (.aload_n 0, 1) := by decide +kernel
theorem dX8_watch_21 : decode cX8_watch 21 = .ok (.iload_n 3, 1) := by decide +kernel
theorem dX8_watch_22 : decode cX8_watch 22 = .ok (.iconst 0, 1) := by decide +kernel
theorem dX8_watch_23 : decode cX8_watch 23 = .ok (.bipush 8, 2) := by decide +kernel
theorem dX8_watch_25 : decode cX8_watch 25 = .ok (.invokevirtual 189, 3) := by decide +kernel
theorem dX8_watch_28 : decode cX8_watch 28 = .ok (.ifCond .ne 6, 3) := by decide +kernel
theorem dX8_watch_31 : decode cX8_watch 31 = .ok (.bipush (-2), 2) := by decide +kernel
theorem dX8_watch_33 : decode cX8_watch 33 = .ok (.ireturn, 1) := by decide +kernel
theorem dX8_watch_34 : decode cX8_watch 34 = .ok (.aload_n 0, 1) := by decide +kernel
theorem dX8_watch_35 : decode cX8_watch 35 = .ok (.invokevirtual 278, 3) := by decide +kernel
theorem dX8_watch_38 : decode cX8_watch 38 = .ok (.aload_n 0, 1) := by decide +kernel
theorem dX8_watch_39 : decode cX8_watch 39 = .ok (.iconst 0, 1) := by decide +kernel
theorem dX8_watch_40 : decode cX8_watch 40 = .ok (.invokevirtual 281, 3) := by decide +kernel
theorem dX8_watch_43 : decode cX8_watch 43 = .ok (.aload_n 0, 1) := by decide +kernel
theorem dX8_watch_44 : decode cX8_watch 44 = .ok (.aload_n 0, 1) := by decide +kernel
theorem dX8_watch_45 : decode cX8_watch 45 = .ok (.iload_n 2, 1) := by decide +kernel
theorem dX8_watch_46 : decode cX8_watch 46 = .ok (.invokevirtual 323, 3) := by decide +kernel
theorem dX8_watch_49 : decode cX8_watch 49 = .ok (.invokevirtual 293, 3) := by decide +kernel
theorem dX8_watch_52 : decode cX8_watch 52 = .ok (.istore 4, 2) := by decide +kernel
theorem dX8_watch_54 : decode cX8_watch 54 = .ok (.iconst 1, 1) := by decide +kernel
theorem dX8_watch_55 : decode cX8_watch 55 = .ok (.istore 5, 2) := by decide +kernel
theorem dX8_watch_57 : decode cX8_watch 57 = .ok (.iload 5, 2) := by decide +kernel
theorem dX8_watch_59 : decode cX8_watch 59 = .ok (.sipush 1000, 3) := by decide +kernel
theorem dX8_watch_62 : decode cX8_watch 62 = .ok (.if_icmp .ge 34, 3) := by decide +kernel
theorem dX8_watch_65 : decode cX8_watch 65 = .ok (.aload_n 0, 1) := by decide +kernel
theorem dX8_watch_66 : decode cX8_watch 66 = .ok (.iload_n 1, 1) := by decide +kernel
theorem dX8_watch_67 : decode cX8_watch 67 = .ok (.iload 4, 2) := by decide +kernel
theorem dX8_watch_69 : decode cX8_watch 69 = .ok (.iload 5, 2) := by decide +kernel
theorem dX8_watch_71 : decode cX8_watch 71 = .ok (.invokevirtual 326, 3) := by decide +kernel
theorem dX8_watch_74 : decode cX8_watch 74 = .ok (.istore 6, 2) := by decide +kernel
theorem dX8_watch_76 : decode cX8_watch 76 = .ok (.iload 6, 2) := by decide +kernel
theorem dX8_watch_78 : decode cX8_watch 78 = .ok (.ifCond .lt 12, 3) := by decide +kernel
theorem dX8_watch_81 : decode cX8_watch 81 = .ok (.iload 6, 2) := by decide +kernel
theorem dX8_watch_83 : decode cX8_watch 83 = .ok (.iload_n 3, 1) := by decide +kernel
theorem dX8_watch_84 : decode cX8_watch 84 = .ok (.if_icmp .gt 6, 3) := by decide +kernel
theorem dX8_watch_87 : decode cX8_watch 87 = .ok (.iload 5, 2) := by decide +kernel
theorem dX8_watch_89 : decode cX8_watch 89 = .ok (.ireturn, 1) := by decide +kernel
theorem dX8_watch_90 : decode cX8_watch 90 = .ok (.iinc 5 1, 3) := by decide +kernel
theorem dX8_watch_93 : decode cX8_watch 93 = .ok (.goto (-36), 3) := by decide +kernel
theorem dX8_watch_96 : decode cX8_watch 96 = .ok (.bipush (-5), 2) := by decide +kernel
theorem dX8_watch_98 : decode cX8_watch 98 = .ok (.ireturn, 1) := by decide +kernel
theorem dX8_ask__0 : decode cX8_ask_ 0 = .ok (.aload_n 0, 1) := by decide +kernel
theorem dX8_ask__1 : decode cX8_ask_ 1 = .ok (.getfield 7, 3) := by decide +kernel
theorem dX8_ask__4 : decode cX8_ask_ 4 = .ok (.ifCond .ne 5, 3) := by decide +kernel
theorem dX8_ask__7 : decode cX8_ask_ 7 = .ok (.iconst (-1), 1) := by decide +kernel
theorem dX8_ask__8 : decode cX8_ask_ 8 = .ok (.ireturn, 1) := by decide +kernel
theorem dX8_ask__9 : decode cX8_ask_ 9 = .ok (.aload_n 0, 1) := by decide +kernel
theorem dX8_ask__10 : decode cX8_ask_ 10 = .ok (.iload_n 1, 1) := by decide +kernel
theorem dX8_ask__11 : decode cX8_ask_ 11 = .ok (.invokevirtual 290, 3) := by decide +kernel
theorem dX8_ask__14 : decode cX8_ask_ 14 = .ok (.ifCond .ne 6, 3) := by decide +kernel
theorem dX8_ask__17 : decode cX8_ask_ 17 = .ok (.bipush (-2), 2) := by decide +kernel
theorem dX8_ask__19 : decode cX8_ask_ 19 = .ok (.ireturn, 1) := by decide +kernel
theorem dX8_ask__20 : decode cX8_ask_ 20 = .ok (.aload_n 0, 1) := by decide +kernel
theorem dX8_ask__21 : decode cX8_ask_ 21 = .ok (.invokevirtual 278, 3) := by decide +kernel
theorem dX8_ask__24 : decode cX8_ask_ 24 = .ok (.aload_n 0, 1) := by decide +kernel
theorem dX8_ask__25 : decode cX8_ask_ 25 = .ok (.iconst 0, 1) := by decide +kernel
theorem dX8_ask__26 : decode cX8_ask_ 26 = .ok (.invokevirtual 281, 3) := by decide +kernel
theorem dX8_ask__29 : decode cX8_ask_ 29 = .ok (.aload_n 0, 1) := by decide +kernel
theorem dX8_ask__30 : decode cX8_ask_ 30 = .ok (.iload_n 1, 1) := by decide +kernel
theorem dX8_ask__31 : decode cX8_ask_ 31 = .ok (.invokevirtual 323, 3) := by decide +kernel
theorem dX8_ask__34 : decode cX8_ask_ 34 = .ok (.istore_n 2, 1) := by decide +kernel
theorem dX8_ask__35 : decode cX8_ask_ 35 = .ok (.iconst (-1), 1) := by decide +kernel
theorem dX8_ask__36 : decode cX8_ask_ 36 = .ok (.istore_n 3, 1) := by decide +kernel
theorem dX8_ask__37 : decode cX8_ask_ 37 = .ok (.iconst 0, 1) := by decide +kernel
theorem dX8_ask__38 : decode cX8_ask_ 38 = .ok (.istore 4, 2) := by decide +kernel
theorem dX8_ask__40 : decode cX8_ask_ 40 = .ok (.iconst 0, 1) := by decide +kernel
theorem dX8_ask__41 : decode cX8_ask_ 41 = .ok (.istore 5, 2) := by decide +kernel
theorem dX8_ask__43 : decode cX8_ask_ 43 = .ok (.iload 5, 2) := by decide +kernel
theorem dX8_ask__45 : decode cX8_ask_ 45 = .ok (.aload_n 0, 1) := by decide +kernel
theorem dX8_ask__46 : decode cX8_ask_ 46 = .ok (.getfield 7, 3) := by decide +kernel
theorem dX8_ask__49 : decode cX8_ask_ 49 = .ok (.if_icmp .ge 60, 3) := by decide +kernel
theorem dX8_ask__52 : decode cX8_ask_ 52 = .ok (.aload_n 0, 1) := by decide +kernel
theorem dX8_ask__53 : decode cX8_ask_ 53 = .ok (.iconst 1, 1) := by decide +kernel
theorem dX8_ask__54 : decode cX8_ask_ 54 = .ok (.iload 5, 2) := by decide +kernel
theorem dX8_ask__56 : decode cX8_ask_ 56 = .ok (.ishl, 1) := by decide +kernel
theorem dX8_ask__57 : decode cX8_ask_ 57 = .ok (.invokevirtual 281, 3) := by decide +kernel
theorem dX8_ask__60 : decode cX8_ask_ 60 = .ok (.aload_n 0, 1) := by decide +kernel
theorem dX8_ask__61 : decode cX8_ask_ 61 = .ok (.iload_n 2, 1) := by decide +kernel
theorem dX8_ask__62 : decode cX8_ask_ 62 = .ok (.aload_n 0, 1) := by decide +kernel
theorem dX8_ask__63 : decode cX8_ask_ 63 = .ok (.iload_n 1, 1) := by decide +kernel
theorem dX8_ask__64 : decode cX8_ask_ 64 = .ok (.invokevirtual 323, 3) := by decide +kernel
theorem dX8_ask__67 : decode cX8_ask_ 67 = .ok (.iconst (-1), 1) := by decide +kernel
theorem dX8_ask__68 : decode cX8_ask_ 68 = .ok (.ixor, 1) := by decide +kernel
theorem dX8_ask__69 : decode cX8_ask_ 69 = .ok (.iand, 1) := by decide +kernel
theorem dX8_ask__70 : decode cX8_ask_ 70 = .ok (.iconst 1, 1) := by decide +kernel
theorem dX8_ask__71 : decode cX8_ask_ 71 = .ok (.iload 5, 2) := by decide +kernel
theorem dX8_ask__73 : decode cX8_ask_ 73 = .ok (.ishl, 1) := by decide +kernel
theorem dX8_ask__74 : decode cX8_ask_ 74 = .ok (.iconst (-1), 1) := by decide +kernel
theorem dX8_ask__75 : decode cX8_ask_ 75 = .ok (.ixor, 1) := by decide +kernel
theorem dX8_ask__76 : decode cX8_ask_ 76 = .ok (.iand, 1) := by decide +kernel
theorem dX8_ask__77 : decode cX8_ask_ 77 = .ok (.invokevirtual 293, 3) := by decide +kernel
theorem dX8_ask__80 : decode cX8_ask_ 80 = .ok (.istore 6, 2) := by decide +kernel
theorem dX8_ask__82 : decode cX8_ask_ 82 = .ok (.iload_n 3, 1) := by decide +kernel
theorem dX8_ask__83 : decode cX8_ask_ 83 = .ok (.ifCond .lt 13, 3) := by decide +kernel
theorem dX8_ask__86 : decode cX8_ask_ 86 = .ok (.iload 6, 2) := by decide +kernel
theorem dX8_ask__88 : decode cX8_ask_ 88 = .ok (.iload 4, 2) := by decide +kernel
theorem dX8_ask__90 : decode cX8_ask_ 90 = .ok (.if_icmp .gt 6, 3) := by decide +kernel
theorem dX8_ask__93 : decode cX8_ask_ 93 = .ok (.goto 10, 3) := by decide +kernel
theorem dX8_ask__96 : decode cX8_ask_ 96 = .ok (.iload 5, 2) := by decide +kernel
theorem dX8_ask__98 : decode cX8_ask_ 98 = .ok (.istore_n 3, 1) := by decide +kernel
theorem dX8_ask__99 : decode cX8_ask_ 99 = .ok (.iload 6, 2) := by decide +kernel
theorem dX8_ask__101 : decode cX8_ask_ 101 = .ok (.istore 4, 2) := by decide +kernel
theorem dX8_ask__103 : decode cX8_ask_ 103 = .ok (.iinc 5 1, 3) := by decide +kernel
theorem dX8_ask__106 : decode cX8_ask_ 106 = .ok (.goto (-63), 3) := by decide +kernel
theorem dX8_ask__109 : decode cX8_ask_ 109 = .ok (.iload_n 3, 1) := by decide +kernel
theorem dX8_ask__110 : decode cX8_ask_ 110 = .ok (.ireturn, 1) := by decide +kernel
theorem dX8_blank_0 : decode cX8_blank 0 = .ok (.iload_n 1, 1) := by decide +kernel
theorem dX8_blank_1 : decode cX8_blank 1 = .ok (.iconst (-1), 1) := by decide +kernel
theorem dX8_blank_2 : decode cX8_blank 2 = .ok (.if_icmp .ne 10, 3) := by decide +kernel
theorem dX8_blank_5 : decode cX8_blank 5 = .ok (.aload_n 0, 1) := by decide +kernel
theorem dX8_blank_6 : decode cX8_blank 6 = .ok (.iconst 0, 1) := by decide +kernel
theorem dX8_blank_7 : decode cX8_blank 7 = .ok (.putfield 119, 3) := by decide +kernel
theorem dX8_blank_10 : decode cX8_blank 10 = .ok (.iconst 0, 1) := by decide +kernel
theorem dX8_blank_11 : decode cX8_blank 11 = .ok (.ireturn, 1) := by decide +kernel
theorem dX8_blank_12 : decode cX8_blank 12 = .ok (.aload_n 0, 1) := by decide +kernel
theorem dX8_blank_13 : decode cX8_blank 13 = .ok (.iload_n 1, 1) := by decide +kernel
theorem dX8_blank_14 : decode cX8_blank 14 = .ok (.iconst 1, 1) := by decide +kernel
theorem dX8_blank_15 : decode cX8_blank 15 = .ok (.bipush 12, 2) := by decide +kernel
theorem dX8_blank_17 : decode cX8_blank 17 = .ok (.invokevirtual 189, 3) := by decide +kernel
theorem dX8_blank_20 : decode cX8_blank 20 = .ok (.ifCond .ne 6, 3) := by decide +kernel
theorem dX8_blank_23 : decode cX8_blank 23 = .ok (.bipush (-2), 2) := by decide +kernel
theorem dX8_blank_25 : decode cX8_blank 25 = .ok (.ireturn, 1) := by decide +kernel
theorem dX8_blank_26 : decode cX8_blank 26 = .ok (.aload_n 0, 1) := by decide +kernel
theorem dX8_blank_27 : decode cX8_blank 27 = .ok (.getfield 119, 3) := by decide +kernel
theorem dX8_blank_30 : decode cX8_blank 30 = .ok (.bipush 6, 2) := by decide +kernel
theorem dX8_blank_32 : decode cX8_blank 32 = .ok (.if_icmp .ne 6, 3) := by decide +kernel
theorem dX8_blank_35 : decode cX8_blank 35 = .ok (.bipush (-4), 2) := by decide +kernel
theorem dX8_blank_37 : decode cX8_blank 37 = .ok (.ireturn, 1) := by decide +kernel
theorem dX8_blank_38 : decode cX8_blank 38 = .ok (.aload_n 0, 1) := by decide +kernel
theorem dX8_blank_39 : decode cX8_blank 39 = .ok (.getfield 122, 3) := by decide +kernel
theorem dX8_blank_42 : decode cX8_blank 42 = .ok (.aload_n 0, 1) := by decide +kernel
theorem dX8_blank_43 : decode cX8_blank 43 = .ok (.getfield 119, 3) := by decide +kernel
theorem dX8_blank_46 : decode cX8_blank 46 = .ok (.iload_n 1, 1) := by decide +kernel
theorem dX8_blank_47 : decode cX8_blank 47 = .ok (.iastore, 1) := by decide +kernel
theorem dX8_blank_48 : decode cX8_blank 48 = .ok (.aload_n 0, 1) := by decide +kernel
theorem dX8_blank_49 : decode cX8_blank 49 = .ok (.dup, 1) := by decide +kernel
theorem dX8_blank_50 : decode cX8_blank 50 = .ok (.getfield 119, 3) := by decide +kernel
theorem dX8_blank_53 : decode cX8_blank 53 = .ok (.iconst 1, 1) := by decide +kernel
theorem dX8_blank_54 : decode cX8_blank 54 = .ok (.iadd, 1) := by decide +kernel
theorem dX8_blank_55 : decode cX8_blank 55 = .ok (.putfield 119, 3) := by decide +kernel
theorem dX8_blank_58 : decode cX8_blank 58 = .ok (.aload_n 0, 1) := by decide +kernel
theorem dX8_blank_59 : decode cX8_blank 59 = .ok (.getfield 119, 3) := by decide +kernel
theorem dX8_blank_62 : decode cX8_blank 62 = .ok (.ireturn, 1) := by decide +kernel
theorem dX8_fillAll_0 : decode cX8_fillAll 0 = .ok (.iconst 0, 1) := by decide +kernel
theorem dX8_fillAll_1 : decode cX8_fillAll 1 = .ok (.istore_n 1, 1) := by decide +kernel
theorem dX8_fillAll_2 : decode cX8_fillAll 2 = .ok (.iload_n 1, 1) := by decide +kernel
theorem dX8_fillAll_3 : decode cX8_fillAll 3 = .ok (.bipush 6, 2) := by decide +kernel
theorem dX8_fillAll_5 : decode cX8_fillAll 5 = .ok (.if_icmp .ge 18, 3) := by decide +kernel
theorem dX8_fillAll_8 : decode cX8_fillAll 8 = .ok (.aload_n 0, 1) := by decide +kernel
theorem dX8_fillAll_9 : decode cX8_fillAll 9 = .ok (.getfield 131, 3) := by decide +kernel
theorem dX8_fillAll_12 : decode cX8_fillAll 12 = .ok (.iload_n 1, 1) := by decide +kernel
theorem dX8_fillAll_13 : decode cX8_fillAll 13 = .ok (.sipush 255, 3) := by decide +kernel
theorem dX8_fillAll_16 : decode cX8_fillAll 16 = .ok (.iastore, 1) := by decide +kernel
theorem dX8_fillAll_17 : decode cX8_fillAll 17 = .ok (.iinc 1 1, 3) := by decide +kernel
theorem dX8_fillAll_20 : decode cX8_fillAll 20 = .ok (.goto (-18), 3) := by decide +kernel
theorem dX8_fillAll_23 : decode cX8_fillAll 23 = .ok (.iconst 0, 1) := by decide +kernel
theorem dX8_fillAll_24 : decode cX8_fillAll 24 = .ok (.istore_n 1, 1) := by decide +kernel
theorem dX8_fillAll_25 : decode cX8_fillAll 25 = .ok (.iconst 0, 1) := by decide +kernel
theorem dX8_fillAll_26 : decode cX8_fillAll 26 = .ok (.istore_n 2, 1) := by decide +kernel
theorem dX8_fillAll_27 : decode cX8_fillAll 27 = .ok (.aload_n 0, 1) := by decide +kernel
theorem dX8_fillAll_28 : decode cX8_fillAll 28 = .ok (.getfield 125, 3) := by decide +kernel
theorem dX8_fillAll_31 : decode cX8_fillAll 31 = .ok (.iconst 0, 1) := by decide +kernel
theorem dX8_fillAll_32 : decode cX8_fillAll 32 = .ok (.iconst 0, 1) := by decide +kernel
theorem dX8_fillAll_33 : decode cX8_fillAll 33 = .ok (.iastore, 1) := by decide +kernel
theorem dX8_fillAll_34 : decode cX8_fillAll 34 = .ok (.aload_n 0, 1) := by decide +kernel
theorem dX8_fillAll_35 : decode cX8_fillAll 35 = .ok (.getfield 128, 3) := by decide +kernel
theorem dX8_fillAll_38 : decode cX8_fillAll 38 = .ok (.iconst 0, 1) := by decide +kernel
theorem dX8_fillAll_39 : decode cX8_fillAll 39 = .ok (.iconst 0, 1) := by decide +kernel
theorem dX8_fillAll_40 : decode cX8_fillAll 40 = .ok (.iastore, 1) := by decide +kernel
theorem dX8_fillAll_41 : decode cX8_fillAll 41 = .ok (.iload_n 2, 1) := by decide +kernel
theorem dX8_fillAll_42 : decode cX8_fillAll 42 = .ok (.ifCond .lt 155, 3) := by decide +kernel
theorem dX8_fillAll_45 : decode cX8_fillAll 45 = .ok (.iload_n 2, 1) := by decide +kernel
theorem dX8_fillAll_46 : decode cX8_fillAll 46 = .ok (.aload_n 0, 1) := by decide +kernel
theorem dX8_fillAll_47 : decode cX8_fillAll 47 = .ok (.getfield 119, 3) := by decide +kernel
theorem dX8_fillAll_50 : decode cX8_fillAll 50 = .ok (.if_icmp .ne 54, 3) := by decide +kernel
theorem dX8_fillAll_53 : decode cX8_fillAll 53 = .ok (.iinc 1 1, 3) := by decide +kernel
theorem dX8_fillAll_56 : decode cX8_fillAll 56 = .ok (.iconst 0, 1) := by decide +kernel
theorem dX8_fillAll_57 : decode cX8_fillAll 57 = .ok (.istore_n 3, 1) := by decide +kernel
theorem dX8_fillAll_58 : decode cX8_fillAll 58 = .ok (.iload_n 3, 1) := by decide +kernel
theorem dX8_fillAll_59 : decode cX8_fillAll 59 = .ok (.aload_n 0, 1) := by decide +kernel
theorem dX8_fillAll_60 : decode cX8_fillAll 60 = .ok (.getfield 119, 3) := by decide +kernel
theorem dX8_fillAll_63 : decode cX8_fillAll 63 = .ok (.if_icmp .ge 35, 3) := by decide +kernel
theorem dX8_fillAll_66 : decode cX8_fillAll 66 = .ok (.aload_n 0, 1) := by decide +kernel
theorem dX8_fillAll_67 : decode cX8_fillAll 67 = .ok (.getfield 131, 3) := by decide +kernel
theorem dX8_fillAll_70 : decode cX8_fillAll 70 = .ok (.iload_n 3, 1) := by decide +kernel
theorem dX8_fillAll_71 : decode cX8_fillAll 71 = .ok (.dup2, 1) := by decide +kernel
theorem dX8_fillAll_72 : decode cX8_fillAll 72 = .ok (.iaload, 1) := by decide +kernel
theorem dX8_fillAll_73 : decode cX8_fillAll 73 = .ok (.aload_n 0, 1) := by decide +kernel
theorem dX8_fillAll_74 : decode cX8_fillAll 74 = .ok (.getfield 128, 3) := by decide +kernel
theorem dX8_fillAll_77 : decode cX8_fillAll 77 = .ok (.iload_n 3, 1) := by decide +kernel
theorem dX8_fillAll_78 : decode cX8_fillAll 78 = .ok (.iconst 1, 1) := by decide +kernel
theorem dX8_fillAll_79 : decode cX8_fillAll 79 = .ok (.iadd, 1) := by decide +kernel
theorem dX8_fillAll_80 : decode cX8_fillAll 80 = .ok (.iaload, 1) := by decide +kernel
theorem dX8_fillAll_81 : decode cX8_fillAll 81 = .ok (.aload_n 0, 1) := by decide +kernel
theorem dX8_fillAll_82 : decode cX8_fillAll 82 = .ok (.getfield 128, 3) := by decide +kernel
theorem dX8_fillAll_85 : decode cX8_fillAll 85 = .ok (.iload_n 3, 1) := by decide +kernel
theorem dX8_fillAll_86 : decode cX8_fillAll 86 = .ok (.iaload, 1) := by decide +kernel
theorem dX8_fillAll_87 : decode cX8_fillAll 87 = .ok (.iconst (-1), 1) := by decide +kernel
theorem dX8_fillAll_88 : decode cX8_fillAll 88 = .ok (.ixor, 1) := by decide +kernel
theorem dX8_fillAll_89 : decode cX8_fillAll 89 = .ok (.iand, 1) := by decide +kernel
theorem dX8_fillAll_90 : decode cX8_fillAll 90 = .ok (.iand, 1) := by decide +kernel
theorem dX8_fillAll_91 : decode cX8_fillAll 91 = .ok (.iastore, 1) := by decide +kernel
theorem dX8_fillAll_92 : decode cX8_fillAll 92 = .ok (.iinc 3 1, 3) := by decide +kernel
theorem dX8_fillAll_95 : decode cX8_fillAll 95 = .ok (.goto (-37), 3) := by decide +kernel
theorem dX8_fillAll_98 : decode cX8_fillAll 98 = .ok (.iinc 2 (-1), 3) := by decide +kernel
theorem dX8_fillAll_101 : decode cX8_fillAll 101 = .ok (.goto (-60), 3) := by decide +kernel
theorem dX8_fillAll_104 : decode cX8_fillAll 104 = .ok (.aload_n 0, 1) := by decide +kernel
theorem dX8_fillAll_105 : decode cX8_fillAll 105 = .ok (.getfield 125, 3) := by decide +kernel
theorem dX8_fillAll_108 : decode cX8_fillAll 108 = .ok (.iload_n 2, 1) := by decide +kernel
theorem dX8_fillAll_109 : decode cX8_fillAll 109 = .ok (.iaload, 1) := by decide +kernel
theorem dX8_fillAll_110 : decode cX8_fillAll 110 = .ok (.istore_n 3, 1) := by decide +kernel
theorem dX8_fillAll_111 : decode cX8_fillAll 111 = .ok (.iload_n 3, 1) := by decide +kernel
theorem dX8_fillAll_112 : decode cX8_fillAll 112 = .ok (.aload_n 0, 1) := by decide +kernel
theorem dX8_fillAll_113 : decode cX8_fillAll 113 = .ok (.getfield 7, 3) := by decide +kernel
theorem dX8_fillAll_116 : decode cX8_fillAll 116 = .ok (.if_icmp .ne 9, 3) := by decide +kernel
theorem dX8_fillAll_119 : decode cX8_fillAll 119 = .ok (.iinc 2 (-1), 3) := by decide +kernel
theorem dX8_fillAll_122 : decode cX8_fillAll 122 = .ok (.goto (-81), 3) := by decide +kernel
theorem dX8_fillAll_125 : decode cX8_fillAll 125 = .ok (.aload_n 0, 1) := by decide +kernel
theorem dX8_fillAll_126 : decode cX8_fillAll 126 = .ok (.getfield 125, 3) := by decide +kernel
theorem dX8_fillAll_129 : decode cX8_fillAll 129 = .ok (.iload_n 2, 1) := by decide +kernel
theorem dX8_fillAll_130 : decode cX8_fillAll 130 = .ok (.iload_n 3, 1) := by decide +kernel
theorem dX8_fillAll_131 : decode cX8_fillAll 131 = .ok (.iconst 1, 1) := by decide +kernel
