theorem dd_Law_law_23 : decode bb_Law_law 23 = .ok (.iload 4, 2) := by decide +kernel
theorem dd_Law_law_25 : decode bb_Law_law 25 = .ok (.aload_n 0, 1) := by decide +kernel
theorem dd_Law_law_26 : decode bb_Law_law 26 = .ok (.arraylength, 1) := by decide +kernel
theorem dd_Law_law_27 : decode bb_Law_law 27 = .ok (.iconst 5, 1) := by decide +kernel
theorem dd_Law_law_28 : decode bb_Law_law 28 = .ok (.isub, 1) := by decide +kernel
theorem dd_Law_law_29 : decode bb_Law_law 29 = .ok (.if_icmp .gt 1447, 3) := by decide +kernel
theorem dd_Law_law_1476 : decode bb_Law_law 1476 = .ok (.iconst 1, 1) := by decide +kernel
theorem dd_Law_law_1477 : decode bb_Law_law 1477 = .ok (.ireturn, 1) := by decide +kernel
theorem dd_Law_law_32 : decode bb_Law_law 32 = .ok (.aload_n 0, 1) := by decide +kernel
theorem dd_Law_law_33 : decode bb_Law_law 33 = .ok (.iload 4, 2) := by decide +kernel
theorem dd_Law_law_35 : decode bb_Law_law 35 = .ok (.iaload, 1) := by decide +kernel
theorem dd_Law_law_36 : decode bb_Law_law 36 = .ok (.bipush 31, 2) := by decide +kernel
theorem dd_Law_law_38 : decode bb_Law_law 38 = .ok (.iand, 1) := by decide +kernel
theorem dd_Law_law_39 : decode bb_Law_law 39 = .ok (.tableswitch 1431 0 22 #[105, 153, 213, 261, 321, 384, 483, 558, 621, 689, 753, 817, 873, 936, 992, 1005, 1061, 1117, 1172, 1240, 1295, 1308, 1376], 105) := by decide +kernel
theorem dd_Law_law_144 : decode bb_Law_law 144 = .ok (.aload_n 1, 1) := by decide +kernel
theorem dd_Law_law_145 : decode bb_Law_law 145 = .ok (.aload_n 0, 1) := by decide +kernel
theorem dd_Law_law_146 : decode bb_Law_law 146 = .ok (.iload 4, 2) := by decide +kernel
theorem dd_Law_law_148 : decode bb_Law_law 148 = .ok (.iconst 1, 1) := by decide +kernel
theorem dd_Law_law_149 : decode bb_Law_law 149 = .ok (.iadd, 1) := by decide +kernel
theorem dd_Law_law_150 : decode bb_Law_law 150 = .ok (.iaload, 1) := by decide +kernel
theorem dd_Law_law_151 : decode bb_Law_law 151 = .ok (.aload_n 0, 1) := by decide +kernel
theorem dd_Law_law_152 : decode bb_Law_law 152 = .ok (.iload 4, 2) := by decide +kernel
theorem dd_Law_law_154 : decode bb_Law_law 154 = .ok (.iconst 2, 1) := by decide +kernel
theorem dd_Law_law_155 : decode bb_Law_law 155 = .ok (.iadd, 1) := by decide +kernel
theorem dd_Law_law_156 : decode bb_Law_law 156 = .ok (.iaload, 1) := by decide +kernel
theorem dd_Law_law_157 : decode bb_Law_law 157 = .ok (.invokestatic 89, 3) := by decide +kernel
theorem dd_Law_law_160 : decode bb_Law_law 160 = .ok (.istore 5, 2) := by decide +kernel
theorem dd_Law_law_162 : decode bb_Law_law 162 = .ok (.aload_n 2, 1) := by decide +kernel
theorem dd_Law_law_163 : decode bb_Law_law 163 = .ok (.aload_n 0, 1) := by decide +kernel
theorem dd_Law_law_164 : decode bb_Law_law 164 = .ok (.iload 4, 2) := by decide +kernel
theorem dd_Law_law_166 : decode bb_Law_law 166 = .ok (.iconst 1, 1) := by decide +kernel
theorem dd_Law_law_167 : decode bb_Law_law 167 = .ok (.iadd, 1) := by decide +kernel
theorem dd_Law_law_168 : decode bb_Law_law 168 = .ok (.iaload, 1) := by decide +kernel
theorem dd_Law_law_169 : decode bb_Law_law 169 = .ok (.aload_n 0, 1) := by decide +kernel
theorem dd_Law_law_170 : decode bb_Law_law 170 = .ok (.iload 4, 2) := by decide +kernel
theorem dd_Law_law_172 : decode bb_Law_law 172 = .ok (.iconst 2, 1) := by decide +kernel
theorem dd_Law_law_173 : decode bb_Law_law 173 = .ok (.iadd, 1) := by decide +kernel
theorem dd_Law_law_174 : decode bb_Law_law 174 = .ok (.iaload, 1) := by decide +kernel
theorem dd_Law_law_175 : decode bb_Law_law 175 = .ok (.invokevirtual 94, 3) := by decide +kernel
theorem dd_Law_law_178 : decode bb_Law_law 178 = .ok (.aload_n 2, 1) := by decide +kernel
theorem dd_Law_law_179 : decode bb_Law_law 179 = .ok (.invokevirtual 95, 3) := by decide +kernel
theorem dd_Law_law_182 : decode bb_Law_law 182 = .ok (.iload 5, 2) := by decide +kernel
theorem dd_Law_law_184 : decode bb_Law_law 184 = .ok (.if_icmp .eq 5, 3) := by decide +kernel
theorem dd_Law_law_189 : decode bb_Law_law 189 = .ok (.goto 1281, 3) := by decide +kernel
theorem dd_Law_law_187 : decode bb_Law_law 187 = .ok (.iconst 0, 1) := by decide +kernel
theorem dd_Law_law_192 : decode bb_Law_law 192 = .ok (.aload_n 1, 1) := by decide +kernel
theorem dd_Law_law_193 : decode bb_Law_law 193 = .ok (.aload_n 0, 1) := by decide +kernel
theorem dd_Law_law_194 : decode bb_Law_law 194 = .ok (.iload 4, 2) := by decide +kernel
theorem dd_Law_law_196 : decode bb_Law_law 196 = .ok (.iconst 1, 1) := by decide +kernel
theorem dd_Law_law_197 : decode bb_Law_law 197 = .ok (.iadd, 1) := by decide +kernel
theorem dd_Law_law_198 : decode bb_Law_law 198 = .ok (.iaload, 1) := by decide +kernel
theorem dd_Law_law_199 : decode bb_Law_law 199 = .ok (.aload_n 0, 1) := by decide +kernel
theorem dd_Law_law_200 : decode bb_Law_law 200 = .ok (.iload 4, 2) := by decide +kernel
theorem dd_Law_law_202 : decode bb_Law_law 202 = .ok (.iconst 2, 1) := by decide +kernel
theorem dd_Law_law_203 : decode bb_Law_law 203 = .ok (.iadd, 1) := by decide +kernel
theorem dd_Law_law_204 : decode bb_Law_law 204 = .ok (.iaload, 1) := by decide +kernel
theorem dd_Law_law_205 : decode bb_Law_law 205 = .ok (.aload_n 0, 1) := by decide +kernel
theorem dd_Law_law_206 : decode bb_Law_law 206 = .ok (.iload 4, 2) := by decide +kernel
theorem dd_Law_law_208 : decode bb_Law_law 208 = .ok (.iconst 3, 1) := by decide +kernel
theorem dd_Law_law_209 : decode bb_Law_law 209 = .ok (.iadd, 1) := by decide +kernel
