/-! The law's entry, decoded. -/
theorem d_W_law_156 : decode code 156 = .ok (.iadd, 1) := by decide +kernel
theorem d_W_law_157 : decode code 157 = .ok (.iaload, 1) := by decide +kernel
theorem d_W_law_158 : decode code 158 = .ok (.aload_n 3, 1) := by decide +kernel
theorem d_W_law_159 : decode code 159 = .ok (.invokestatic 65, 3) := by decide +kernel
theorem d_W_law_162 : decode code 162 = .ok (.istore 5, 2) := by decide +kernel
theorem d_W_law_164 : decode code 164 = .ok (.aload_n 2, 1) := by decide +kernel
theorem d_W_law_165 : decode code 165 = .ok (.aload_n 0, 1) := by decide +kernel
theorem d_W_law_166 : decode code 166 = .ok (.iload 4, 2) := by decide +kernel
theorem d_W_law_168 : decode code 168 = .ok (.iconst 1, 1) := by decide +kernel
theorem d_W_law_169 : decode code 169 = .ok (.iadd, 1) := by decide +kernel
theorem d_W_law_170 : decode code 170 = .ok (.iaload, 1) := by decide +kernel
theorem d_W_law_171 : decode code 171 = .ok (.aload_n 0, 1) := by decide +kernel
theorem d_W_law_172 : decode code 172 = .ok (.iload 4, 2) := by decide +kernel
theorem d_W_law_174 : decode code 174 = .ok (.iconst 2, 1) := by decide +kernel
theorem d_W_law_175 : decode code 175 = .ok (.iadd, 1) := by decide +kernel
theorem d_W_law_176 : decode code 176 = .ok (.iaload, 1) := by decide +kernel
theorem d_W_law_177 : decode code 177 = .ok (.aload_n 0, 1) := by decide +kernel
theorem d_W_law_178 : decode code 178 = .ok (.iload 4, 2) := by decide +kernel
theorem d_W_law_180 : decode code 180 = .ok (.iconst 3, 1) := by decide +kernel
theorem d_W_law_181 : decode code 181 = .ok (.iadd, 1) := by decide +kernel
theorem d_W_law_182 : decode code 182 = .ok (.iaload, 1) := by decide +kernel
theorem d_W_law_183 : decode code 183 = .ok (.aload_n 0, 1) := by decide +kernel
theorem d_W_law_184 : decode code 184 = .ok (.iload 4, 2) := by decide +kernel
theorem d_W_law_186 : decode code 186 = .ok (.iconst 4, 1) := by decide +kernel
theorem d_W_law_187 : decode code 187 = .ok (.iadd, 1) := by decide +kernel
theorem d_W_law_188 : decode code 188 = .ok (.iaload, 1) := by decide +kernel
theorem d_W_law_189 : decode code 189 = .ok (.aload_n 0, 1) := by decide +kernel
theorem d_W_law_190 : decode code 190 = .ok (.iload 4, 2) := by decide +kernel
theorem d_W_law_192 : decode code 192 = .ok (.iconst 5, 1) := by decide +kernel
theorem d_W_law_193 : decode code 193 = .ok (.iadd, 1) := by decide +kernel
theorem d_W_law_194 : decode code 194 = .ok (.iaload, 1) := by decide +kernel
theorem d_W_law_195 : decode code 195 = .ok (.aload_n 0, 1) := by decide +kernel
theorem d_W_law_196 : decode code 196 = .ok (.iload 4, 2) := by decide +kernel
theorem d_W_law_198 : decode code 198 = .ok (.bipush 6, 2) := by decide +kernel
theorem d_W_law_200 : decode code 200 = .ok (.iadd, 1) := by decide +kernel
theorem d_W_law_201 : decode code 201 = .ok (.iaload, 1) := by decide +kernel
theorem d_W_law_202 : decode code 202 = .ok (.invokevirtual 68, 3) := by decide +kernel
theorem d_W_law_205 : decode code 205 = .ok (.istore 6, 2) := by decide +kernel
theorem d_W_law_207 : decode code 207 = .ok (.aload_n 2, 1) := by decide +kernel
theorem d_W_law_208 : decode code 208 = .ok (.invokevirtual 69, 3) := by decide +kernel
theorem d_W_law_211 : decode code 211 = .ok (.iload 5, 2) := by decide +kernel
theorem d_W_law_213 : decode code 213 = .ok (.if_icmp .eq 5, 3) := by decide +kernel
theorem d_W_law_216 : decode code 216 = .ok (.iconst 0, 1) := by decide +kernel
theorem d_W_law_217 : decode code 217 = .ok (.ireturn, 1) := by decide +kernel
theorem d_W_law_218 : decode code 218 = .ok (.iload 5, 2) := by decide +kernel
theorem d_W_law_220 : decode code 220 = .ok (.ifCond .ne 15, 3) := by decide +kernel
theorem d_W_law_223 : decode code 223 = .ok (.aload_n 3, 1) := by decide +kernel
theorem d_W_law_224 : decode code 224 = .ok (.iconst 0, 1) := by decide +kernel
theorem d_W_law_225 : decode code 225 = .ok (.laload, 1) := by decide +kernel
theorem d_W_law_226 : decode code 226 = .ok (.iload 6, 2) := by decide +kernel
theorem d_W_law_228 : decode code 228 = .ok (.i2l, 1) := by decide +kernel
theorem d_W_law_229 : decode code 229 = .ok (.lcmp, 1) := by decide +kernel
theorem d_W_law_230 : decode code 230 = .ok (.ifCond .eq 5, 3) := by decide +kernel
theorem d_W_law_233 : decode code 233 = .ok (.iconst 0, 1) := by decide +kernel
theorem d_W_law_234 : decode code 234 = .ok (.ireturn, 1) := by decide +kernel
theorem d_W_law_235 : decode code 235 = .ok (.goto 768, 3) := by decide +kernel
theorem d_W_law_238 : decode code 238 = .ok (.aload_n 1, 1) := by decide +kernel
theorem d_W_law_239 : decode code 239 = .ok (.invokevirtual 73, 3) := by decide +kernel
theorem d_W_law_242 : decode code 242 = .ok (.aload_n 2, 1) := by decide +kernel
theorem d_W_law_243 : decode code 243 = .ok (.invokevirtual 76, 3) := by decide +kernel
