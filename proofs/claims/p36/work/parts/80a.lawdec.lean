/-! the law's instructions -/
theorem dL_law_0 : decode cL_law 0 = .ok (.new 10, 3) := by decide +kernel
theorem dL_law_3 : decode cL_law 3 = .ok (.dup, 1) := by decide +kernel
theorem dL_law_4 : decode cL_law 4 = .ok (.invokespecial 58, 3) := by decide +kernel
theorem dL_law_7 : decode cL_law 7 = .ok (.astore_n 1, 1) := by decide +kernel
theorem dL_law_8 : decode cL_law 8 = .ok (.aload_n 1, 1) := by decide +kernel
theorem dL_law_9 : decode cL_law 9 = .ok (.aload_n 0, 1) := by decide +kernel
theorem dL_law_10 : decode cL_law 10 = .ok (.invokestatic 59, 3) := by decide +kernel
theorem dL_law_13 : decode cL_law 13 = .ok (.astore_n 2, 1) := by decide +kernel
theorem dL_law_14 : decode cL_law 14 = .ok (.aload_n 2, 1) := by decide +kernel
theorem dL_law_15 : decode cL_law 15 = .ok (.ifnonnull 5, 3) := by decide +kernel
theorem dL_law_18 : decode cL_law 18 = .ok (.iconst 0, 1) := by decide +kernel
theorem dL_law_19 : decode cL_law 19 = .ok (.ireturn, 1) := by decide +kernel
theorem dL_law_20 : decode cL_law 20 = .ok (.iconst 0, 1) := by decide +kernel
theorem dL_law_21 : decode cL_law 21 = .ok (.istore_n 3, 1) := by decide +kernel
theorem dL_law_22 : decode cL_law 22 = .ok (.iload_n 3, 1) := by decide +kernel
theorem dL_law_23 : decode cL_law 23 = .ok (.bipush 8, 2) := by decide +kernel
theorem dL_law_25 : decode cL_law 25 = .ok (.if_icmp .ge 947, 3) := by decide +kernel
theorem dL_law_28 : decode cL_law 28 = .ok (.aload_n 0, 1) := by decide +kernel
theorem dL_law_29 : decode cL_law 29 = .ok (.iload_n 3, 1) := by decide +kernel
theorem dL_law_30 : decode cL_law 30 = .ok (.invokestatic 54, 3) := by decide +kernel
theorem dL_law_33 : decode cL_law 33 = .ok (.iconst 2, 1) := by decide +kernel
theorem dL_law_34 : decode cL_law 34 = .ok (.ishr, 1) := by decide +kernel
theorem dL_law_35 : decode cL_law 35 = .ok (.bipush 53, 2) := by decide +kernel
theorem dL_law_37 : decode cL_law 37 = .ok (.iload_n 3, 1) := by decide +kernel
theorem dL_law_38 : decode cL_law 38 = .ok (.imul, 1) := by decide +kernel
theorem dL_law_39 : decode cL_law 39 = .ok (.iadd, 1) := by decide +kernel
theorem dL_law_40 : decode cL_law 40 = .ok (.istore 4, 2) := by decide +kernel
theorem dL_law_42 : decode cL_law 42 = .ok (.iconst 0, 1) := by decide +kernel
theorem dL_law_43 : decode cL_law 43 = .ok (.istore 5, 2) := by decide +kernel
theorem dL_law_45 : decode cL_law 45 = .ok (.iload 5, 2) := by decide +kernel
theorem dL_law_47 : decode cL_law 47 = .ok (.iconst 2, 1) := by decide +kernel
theorem dL_law_48 : decode cL_law 48 = .ok (.if_icmp .ge 32, 3) := by decide +kernel
theorem dL_law_51 : decode cL_law 51 = .ok (.aload_n 1, 1) := by decide +kernel
theorem dL_law_52 : decode cL_law 52 = .ok (.aload_n 2, 1) := by decide +kernel
theorem dL_law_53 : decode cL_law 53 = .ok (.iload 4, 2) := by decide +kernel
theorem dL_law_55 : decode cL_law 55 = .ok (.iconst 3, 1) := by decide +kernel
theorem dL_law_56 : decode cL_law 56 = .ok (.iload 5, 2) := by decide +kernel
theorem dL_law_58 : decode cL_law 58 = .ok (.imul, 1) := by decide +kernel
theorem dL_law_59 : decode cL_law 59 = .ok (.ishr, 1) := by decide +kernel
theorem dL_law_60 : decode cL_law 60 = .ok (.bipush 29, 2) := by decide +kernel
theorem dL_law_62 : decode cL_law 62 = .ok (.iload 5, 2) := by decide +kernel
theorem dL_law_64 : decode cL_law 64 = .ok (.imul, 1) := by decide +kernel
theorem dL_law_65 : decode cL_law 65 = .ok (.iadd, 1) := by decide +kernel
theorem dL_law_66 : decode cL_law 66 = .ok (.invokestatic 63, 3) := by decide +kernel
theorem dL_law_69 : decode cL_law 69 = .ok (.ifCond .ne 5, 3) := by decide +kernel
theorem dL_law_72 : decode cL_law 72 = .ok (.iconst 0, 1) := by decide +kernel
theorem dL_law_73 : decode cL_law 73 = .ok (.ireturn, 1) := by decide +kernel
theorem dL_law_74 : decode cL_law 74 = .ok (.iinc 5 1, 3) := by decide +kernel
theorem dL_law_77 : decode cL_law 77 = .ok (.goto (-32), 3) := by decide +kernel
theorem dL_law_80 : decode cL_law 80 = .ok (.aload_n 1, 1) := by decide +kernel
theorem dL_law_81 : decode cL_law 81 = .ok (.invokevirtual 67, 3) := by decide +kernel
theorem dL_law_84 : decode cL_law 84 = .ok (.lstore 5, 2) := by decide +kernel
theorem dL_law_86 : decode cL_law 86 = .ok (.aload_n 1, 1) := by decide +kernel
theorem dL_law_87 : decode cL_law 87 = .ok (.invokevirtual 71, 3) := by decide +kernel
theorem dL_law_90 : decode cL_law 90 = .ok (.istore 7, 2) := by decide +kernel
theorem dL_law_92 : decode cL_law 92 = .ok (.iconst 0, 1) := by decide +kernel
theorem dL_law_93 : decode cL_law 93 = .ok (.istore 8, 2) := by decide +kernel
theorem dL_law_95 : decode cL_law 95 = .ok (.iconst 0, 1) := by decide +kernel
theorem dL_law_96 : decode cL_law 96 = .ok (.istore 9, 2) := by decide +kernel
theorem dL_law_98 : decode cL_law 98 = .ok (.iload 9, 2) := by decide +kernel
theorem dL_law_100 : decode cL_law 100 = .ok (.iload 7, 2) := by decide +kernel
theorem dL_law_102 : decode cL_law 102 = .ok (.if_icmp .ge 179, 3) := by decide +kernel
theorem dL_law_105 : decode cL_law 105 = .ok (.aload_n 1, 1) := by decide +kernel
theorem dL_law_106 : decode cL_law 106 = .ok (.iload 9, 2) := by decide +kernel
theorem dL_law_108 : decode cL_law 108 = .ok (.invokevirtual 75, 3) := by decide +kernel
theorem dL_law_111 : decode cL_law 111 = .ok (.istore 10, 2) := by decide +kernel
theorem dL_law_113 : decode cL_law 113 = .ok (.aload_n 1, 1) := by decide +kernel
theorem dL_law_114 : decode cL_law 114 = .ok (.iload 9, 2) := by decide +kernel
theorem dL_law_116 : decode cL_law 116 = .ok (.invokevirtual 78, 3) := by decide +kernel
theorem dL_law_119 : decode cL_law 119 = .ok (.istore 11, 2) := by decide +kernel
theorem dL_law_121 : decode cL_law 121 = .ok (.iload 8, 2) := by decide +kernel
theorem dL_law_123 : decode cL_law 123 = .ok (.iload 11, 2) := by decide +kernel
theorem dL_law_125 : decode cL_law 125 = .ok (.iadd, 1) := by decide +kernel
theorem dL_law_126 : decode cL_law 126 = .ok (.istore 8, 2) := by decide +kernel
theorem dL_law_128 : decode cL_law 128 = .ok (.iload 11, 2) := by decide +kernel
theorem dL_law_130 : decode cL_law 130 = .ok (.ifCond .lt 81, 3) := by decide +kernel
theorem dL_law_133 : decode cL_law 133 = .ok (.iload 11, 2) := by decide +kernel
theorem dL_law_135 : decode cL_law 135 = .ok (.iload 10, 2) := by decide +kernel
theorem dL_law_137 : decode cL_law 137 = .ok (.if_icmp .gt 74, 3) := by decide +kernel
theorem dL_law_140 : decode cL_law 140 = .ok (.aload_n 1, 1) := by decide +kernel
theorem dL_law_141 : decode cL_law 141 = .ok (.iload 9, 2) := by decide +kernel
theorem dL_law_143 : decode cL_law 143 = .ok (.invokevirtual 81, 3) := by decide +kernel
theorem dL_law_146 : decode cL_law 146 = .ok (.iload 11, 2) := by decide +kernel
theorem dL_law_148 : decode cL_law 148 = .ok (.ifCond .ne 7, 3) := by decide +kernel
theorem dL_law_151 : decode cL_law 151 = .ok (.iconst 1, 1) := by decide +kernel
theorem dL_law_152 : decode cL_law 152 = .ok (.goto 4, 3) := by decide +kernel
theorem dL_law_155 : decode cL_law 155 = .ok (.iconst 0, 1) := by decide +kernel
theorem dL_law_156 : decode cL_law 156 = .ok (.if_icmp .ne 55, 3) := by decide +kernel
theorem dL_law_159 : decode cL_law 159 = .ok (.aload_n 1, 1) := by decide +kernel
theorem dL_law_160 : decode cL_law 160 = .ok (.iload 9, 2) := by decide +kernel
theorem dL_law_162 : decode cL_law 162 = .ok (.invokevirtual 85, 3) := by decide +kernel
theorem dL_law_165 : decode cL_law 165 = .ok (.iload 11, 2) := by decide +kernel
theorem dL_law_167 : decode cL_law 167 = .ok (.iload 10, 2) := by decide +kernel
theorem dL_law_169 : decode cL_law 169 = .ok (.if_icmp .ne 7, 3) := by decide +kernel
theorem dL_law_172 : decode cL_law 172 = .ok (.iconst 1, 1) := by decide +kernel
theorem dL_law_173 : decode cL_law 173 = .ok (.goto 4, 3) := by decide +kernel
theorem dL_law_176 : decode cL_law 176 = .ok (.iconst 0, 1) := by decide +kernel
theorem dL_law_177 : decode cL_law 177 = .ok (.if_icmp .ne 34, 3) := by decide +kernel
theorem dL_law_180 : decode cL_law 180 = .ok (.aload_n 1, 1) := by decide +kernel
theorem dL_law_181 : decode cL_law 181 = .ok (.iload 9, 2) := by decide +kernel
theorem dL_law_183 : decode cL_law 183 = .ok (.iload 10, 2) := by decide +kernel
theorem dL_law_185 : decode cL_law 185 = .ok (.invokevirtual 88, 3) := by decide +kernel
theorem dL_law_188 : decode cL_law 188 = .ok (.ifCond .eq 23, 3) := by decide +kernel
theorem dL_law_191 : decode cL_law 191 = .ok (.aload_n 1, 1) := by decide +kernel
theorem dL_law_192 : decode cL_law 192 = .ok (.iload 9, 2) := by decide +kernel
theorem dL_law_194 : decode cL_law 194 = .ok (.iload 11, 2) := by decide +kernel
theorem dL_law_196 : decode cL_law 196 = .ok (.invokevirtual 91, 3) := by decide +kernel
theorem dL_law_199 : decode cL_law 199 = .ok (.ifCond .ne 12, 3) := by decide +kernel
theorem dL_law_202 : decode cL_law 202 = .ok (.aload_n 1, 1) := by decide +kernel
theorem dL_law_203 : decode cL_law 203 = .ok (.iload 11, 2) := by decide +kernel
