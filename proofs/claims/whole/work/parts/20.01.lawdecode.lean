theorem dL_0 : decode code 0 = .ok (.new 7, 3) := by decide +kernel
theorem dL_3 : decode code 3 = .ok (.dup, 1) := by decide +kernel
theorem dL_4 : decode code 4 = .ok (.invokespecial 9, 3) := by decide +kernel
theorem dL_7 : decode code 7 = .ok (.astore_n 1, 1) := by decide +kernel
theorem dL_8 : decode code 8 = .ok (.new 10, 3) := by decide +kernel
theorem dL_11 : decode code 11 = .ok (.dup, 1) := by decide +kernel
theorem dL_12 : decode code 12 = .ok (.invokespecial 12, 3) := by decide +kernel
theorem dL_15 : decode code 15 = .ok (.astore_n 2, 1) := by decide +kernel
theorem dL_16 : decode code 16 = .ok (.iconst 0, 1) := by decide +kernel
theorem dL_17 : decode code 17 = .ok (.istore_n 3, 1) := by decide +kernel
theorem dL_18 : decode code 18 = .ok (.iload_n 3, 1) := by decide +kernel
theorem dL_19 : decode code 19 = .ok (.aload_n 0, 1) := by decide +kernel
theorem dL_20 : decode code 20 = .ok (.arraylength, 1) := by decide +kernel
theorem dL_21 : decode code 21 = .ok (.iconst 4, 1) := by decide +kernel
theorem dL_22 : decode code 22 = .ok (.isub, 1) := by decide +kernel
theorem dL_23 : decode code 23 = .ok (.if_icmp .gt 632, 3) := by decide +kernel
theorem dL_26 : decode code 26 = .ok (.aload_n 0, 1) := by decide +kernel
theorem dL_27 : decode code 27 = .ok (.iload_n 3, 1) := by decide +kernel
theorem dL_28 : decode code 28 = .ok (.iaload, 1) := by decide +kernel
theorem dL_29 : decode code 29 = .ok (.bipush 31, 2) := by decide +kernel
theorem dL_31 : decode code 31 = .ok (.iand, 1) := by decide +kernel
theorem dL_32 : decode code 32 = .ok (.tableswitch 617 0 19 #[96, 139, 172, 205, 218, 231, 264, 297, 310, 333, 356, 369, 412, 445, 478, 511, 535, 558, 591, 604], 96) := by decide +kernel
theorem dL_128 : decode code 128 = .ok (.aload_n 1, 1) := by decide +kernel
theorem dL_129 : decode code 129 = .ok (.aload_n 0, 1) := by decide +kernel
theorem dL_130 : decode code 130 = .ok (.iload_n 3, 1) := by decide +kernel
theorem dL_131 : decode code 131 = .ok (.iconst 1, 1) := by decide +kernel
theorem dL_132 : decode code 132 = .ok (.iadd, 1) := by decide +kernel
theorem dL_133 : decode code 133 = .ok (.iaload, 1) := by decide +kernel
theorem dL_134 : decode code 134 = .ok (.aload_n 0, 1) := by decide +kernel
theorem dL_135 : decode code 135 = .ok (.iload_n 3, 1) := by decide +kernel
theorem dL_136 : decode code 136 = .ok (.iconst 2, 1) := by decide +kernel
theorem dL_137 : decode code 137 = .ok (.iadd, 1) := by decide +kernel
theorem dL_138 : decode code 138 = .ok (.iaload, 1) := by decide +kernel
theorem dL_139 : decode code 139 = .ok (.aload_n 0, 1) := by decide +kernel
theorem dL_140 : decode code 140 = .ok (.iload_n 3, 1) := by decide +kernel
theorem dL_141 : decode code 141 = .ok (.iconst 3, 1) := by decide +kernel
theorem dL_142 : decode code 142 = .ok (.iadd, 1) := by decide +kernel
theorem dL_143 : decode code 143 = .ok (.iaload, 1) := by decide +kernel
theorem dL_144 : decode code 144 = .ok (.invokevirtual 13, 3) := by decide +kernel
theorem dL_147 : decode code 147 = .ok (.aload_n 2, 1) := by decide +kernel
theorem dL_148 : decode code 148 = .ok (.aload_n 0, 1) := by decide +kernel
theorem dL_149 : decode code 149 = .ok (.iload_n 3, 1) := by decide +kernel
theorem dL_150 : decode code 150 = .ok (.iconst 1, 1) := by decide +kernel
theorem dL_151 : decode code 151 = .ok (.iadd, 1) := by decide +kernel
theorem dL_152 : decode code 152 = .ok (.iaload, 1) := by decide +kernel
theorem dL_153 : decode code 153 = .ok (.aload_n 0, 1) := by decide +kernel
theorem dL_154 : decode code 154 = .ok (.iload_n 3, 1) := by decide +kernel
theorem dL_155 : decode code 155 = .ok (.iconst 2, 1) := by decide +kernel
theorem dL_156 : decode code 156 = .ok (.iadd, 1) := by decide +kernel
theorem dL_157 : decode code 157 = .ok (.iaload, 1) := by decide +kernel
theorem dL_158 : decode code 158 = .ok (.aload_n 0, 1) := by decide +kernel
theorem dL_159 : decode code 159 = .ok (.iload_n 3, 1) := by decide +kernel
theorem dL_160 : decode code 160 = .ok (.iconst 3, 1) := by decide +kernel
theorem dL_161 : decode code 161 = .ok (.iadd, 1) := by decide +kernel
theorem dL_162 : decode code 162 = .ok (.iaload, 1) := by decide +kernel
theorem dL_163 : decode code 163 = .ok (.invokevirtual 17, 3) := by decide +kernel
theorem dL_166 : decode code 166 = .ok (.if_icmp .eq 483, 3) := by decide +kernel
theorem dL_169 : decode code 169 = .ok (.iconst 0, 1) := by decide +kernel
theorem dL_170 : decode code 170 = .ok (.ireturn, 1) := by decide +kernel
theorem dL_171 : decode code 171 = .ok (.aload_n 1, 1) := by decide +kernel
theorem dL_172 : decode code 172 = .ok (.aload_n 0, 1) := by decide +kernel
theorem dL_173 : decode code 173 = .ok (.iload_n 3, 1) := by decide +kernel
theorem dL_174 : decode code 174 = .ok (.iconst 1, 1) := by decide +kernel
theorem dL_175 : decode code 175 = .ok (.iadd, 1) := by decide +kernel
theorem dL_176 : decode code 176 = .ok (.iaload, 1) := by decide +kernel
theorem dL_177 : decode code 177 = .ok (.aload_n 0, 1) := by decide +kernel
theorem dL_178 : decode code 178 = .ok (.iload_n 3, 1) := by decide +kernel
theorem dL_179 : decode code 179 = .ok (.iconst 2, 1) := by decide +kernel
theorem dL_180 : decode code 180 = .ok (.iadd, 1) := by decide +kernel
theorem dL_181 : decode code 181 = .ok (.iaload, 1) := by decide +kernel
theorem dL_182 : decode code 182 = .ok (.invokevirtual 18, 3) := by decide +kernel
theorem dL_185 : decode code 185 = .ok (.aload_n 2, 1) := by decide +kernel
theorem dL_186 : decode code 186 = .ok (.aload_n 0, 1) := by decide +kernel
theorem dL_187 : decode code 187 = .ok (.iload_n 3, 1) := by decide +kernel
theorem dL_188 : decode code 188 = .ok (.iconst 1, 1) := by decide +kernel
theorem dL_189 : decode code 189 = .ok (.iadd, 1) := by decide +kernel
theorem dL_190 : decode code 190 = .ok (.iaload, 1) := by decide +kernel
theorem dL_191 : decode code 191 = .ok (.aload_n 0, 1) := by decide +kernel
theorem dL_192 : decode code 192 = .ok (.iload_n 3, 1) := by decide +kernel
theorem dL_193 : decode code 193 = .ok (.iconst 2, 1) := by decide +kernel
theorem dL_194 : decode code 194 = .ok (.iadd, 1) := by decide +kernel
theorem dL_195 : decode code 195 = .ok (.iaload, 1) := by decide +kernel
theorem dL_196 : decode code 196 = .ok (.invokevirtual 22, 3) := by decide +kernel
theorem dL_199 : decode code 199 = .ok (.if_icmp .eq 450, 3) := by decide +kernel
theorem dL_202 : decode code 202 = .ok (.iconst 0, 1) := by decide +kernel
theorem dL_203 : decode code 203 = .ok (.ireturn, 1) := by decide +kernel
theorem dL_204 : decode code 204 = .ok (.aload_n 1, 1) := by decide +kernel
theorem dL_205 : decode code 205 = .ok (.aload_n 0, 1) := by decide +kernel
theorem dL_206 : decode code 206 = .ok (.iload_n 3, 1) := by decide +kernel
theorem dL_207 : decode code 207 = .ok (.iconst 1, 1) := by decide +kernel
theorem dL_208 : decode code 208 = .ok (.iadd, 1) := by decide +kernel
theorem dL_209 : decode code 209 = .ok (.iaload, 1) := by decide +kernel
theorem dL_210 : decode code 210 = .ok (.aload_n 0, 1) := by decide +kernel
theorem dL_211 : decode code 211 = .ok (.iload_n 3, 1) := by decide +kernel
theorem dL_212 : decode code 212 = .ok (.iconst 2, 1) := by decide +kernel
theorem dL_213 : decode code 213 = .ok (.iadd, 1) := by decide +kernel
theorem dL_214 : decode code 214 = .ok (.iaload, 1) := by decide +kernel
theorem dL_215 : decode code 215 = .ok (.invokevirtual 23, 3) := by decide +kernel
theorem dL_218 : decode code 218 = .ok (.aload_n 2, 1) := by decide +kernel
theorem dL_219 : decode code 219 = .ok (.aload_n 0, 1) := by decide +kernel
theorem dL_220 : decode code 220 = .ok (.iload_n 3, 1) := by decide +kernel
theorem dL_221 : decode code 221 = .ok (.iconst 1, 1) := by decide +kernel
theorem dL_222 : decode code 222 = .ok (.iadd, 1) := by decide +kernel
theorem dL_223 : decode code 223 = .ok (.iaload, 1) := by decide +kernel
theorem dL_224 : decode code 224 = .ok (.aload_n 0, 1) := by decide +kernel
theorem dL_225 : decode code 225 = .ok (.iload_n 3, 1) := by decide +kernel
theorem dL_226 : decode code 226 = .ok (.iconst 2, 1) := by decide +kernel
theorem dL_227 : decode code 227 = .ok (.iadd, 1) := by decide +kernel
theorem dL_228 : decode code 228 = .ok (.iaload, 1) := by decide +kernel
theorem dL_229 : decode code 229 = .ok (.invokevirtual 26, 3) := by decide +kernel
