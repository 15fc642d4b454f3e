/-! blocks of the law from its loop on: printed by a program -/
noncomputable def gI (X : mX) (y : Nat) (en : mL) (S : Mem) : Option (Int32 × Mem) := cI (mV oS X y 0 en [] S)
noncomputable def gJ (X : mX) (y : Nat) (en : mL) (S : Mem) : Option (Int64 × Mem) := cJ (mV oS X y 0 en [] S)
noncomputable def k_Law_law_18 (X : mX) (x3 : Int32) (S : Mem) : Option (Int32 × Mem) := cI (mV oS X 177 18 [some (.ref mSid), some (.ref 0), some (.ref 55), some (.int x3)] [] S)
noncomputable def k_Law_law_834 (X : mX) (x3 : Int32) (S : Mem) : Option (Int32 × Mem) := cI (mV oS X 177 834 [some (.ref mSid), some (.ref 0), some (.ref 55), some (.int x3)] [] S)
theorem gI_ok {X : mX} {y : Nat} {en : mL} {S : Mem} {q : Int32 × Mem} (h : gI X0 y en S = some q) : gI X y en S = some q := by
  unfold gI at h ⊢
  cases e : mV oS X0 y 0 en [] S with
  | none => rw [e] at h; cases h
  | some r => rw [mV_X e, ← e]; exact h
theorem gJ_ok {X : mX} {y : Nat} {en : mL} {S : Mem} {q : Int64 × Mem} (h : gJ X0 y en S = some q) : gJ X y en S = some q := by
  unfold gJ at h ⊢
  cases e : mV oS X0 y 0 en [] S with
  | none => rw [e] at h; cases h
  | some r => rw [mV_X e, ← e]; exact h
theorem i177_18 : decode (mCd 177) 18 = .ok (.iload_n 3, 1) ∧ lk (mMsk 177) 18 = some [true, true, true, true] := by decide +kernel
theorem i177_19 : decode (mCd 177) 19 = .ok (.aload_n 0, 1) ∧ lk (mMsk 177) 19 = none := by decide +kernel
theorem i177_20 : decode (mCd 177) 20 = .ok (.arraylength, 1) ∧ lk (mMsk 177) 20 = none := by decide +kernel
theorem i177_21 : decode (mCd 177) 21 = .ok (.iconst 5, 1) ∧ lk (mMsk 177) 21 = none := by decide +kernel
theorem i177_22 : decode (mCd 177) 22 = .ok (.isub, 1) ∧ lk (mMsk 177) 22 = none := by decide +kernel
theorem i177_23 : decode (mCd 177) 23 = .ok (.if_icmp .gt 817, 3) ∧ lk (mMsk 177) 23 = none := by decide +kernel
theorem i177_840 : decode (mCd 177) 840 = .ok (.iconst 1, 1) ∧ lk (mMsk 177) 840 = none := by decide +kernel
theorem i177_841 : decode (mCd 177) 841 = .ok (.ireturn, 1) ∧ lk (mMsk 177) 841 = none := by decide +kernel
theorem i177_26 : decode (mCd 177) 26 = .ok (.aload_n 0, 1) ∧ lk (mMsk 177) 26 = none := by decide +kernel
theorem i177_27 : decode (mCd 177) 27 = .ok (.iload_n 3, 1) ∧ lk (mMsk 177) 27 = none := by decide +kernel
theorem i177_28 : decode (mCd 177) 28 = .ok (.iaload, 1) ∧ lk (mMsk 177) 28 = none := by decide +kernel
theorem i177_29 : decode (mCd 177) 29 = .ok (.bipush 31, 2) ∧ lk (mMsk 177) 29 = none := by decide +kernel
theorem i177_31 : decode (mCd 177) 31 = .ok (.iand, 1) ∧ lk (mMsk 177) 31 = none := by decide +kernel
theorem i177_32 : decode (mCd 177) 32 = .ok (.tableswitch 802 0 24 #[116, 169, 182, 205, 218, 251, 304, 337, 370, 393, 426, 459, 492, 525, 548, 571, 594, 617, 640, 663, 696, 739, 752, 765, 788], 116) ∧ lk (mMsk 177) 32 = none := by decide +kernel
theorem i177_148 : decode (mCd 177) 148 = .ok (.aload_n 1, 1) ∧ lk (mMsk 177) 148 = none := by decide +kernel
theorem i177_149 : decode (mCd 177) 149 = .ok (.aload_n 0, 1) ∧ lk (mMsk 177) 149 = none := by decide +kernel
theorem i177_150 : decode (mCd 177) 150 = .ok (.iload_n 3, 1) ∧ lk (mMsk 177) 150 = none := by decide +kernel
theorem i177_151 : decode (mCd 177) 151 = .ok (.iconst 1, 1) ∧ lk (mMsk 177) 151 = none := by decide +kernel
theorem i177_152 : decode (mCd 177) 152 = .ok (.iadd, 1) ∧ lk (mMsk 177) 152 = none := by decide +kernel
theorem i177_153 : decode (mCd 177) 153 = .ok (.iaload, 1) ∧ lk (mMsk 177) 153 = none := by decide +kernel
theorem i177_154 : decode (mCd 177) 154 = .ok (.i2l, 1) ∧ lk (mMsk 177) 154 = none := by decide +kernel
theorem i177_155 : decode (mCd 177) 155 = .ok (.bipush 32, 2) ∧ lk (mMsk 177) 155 = none := by decide +kernel
theorem i177_157 : decode (mCd 177) 157 = .ok (.lshl, 1) ∧ lk (mMsk 177) 157 = none := by decide +kernel
theorem i177_158 : decode (mCd 177) 158 = .ok (.aload_n 0, 1) ∧ lk (mMsk 177) 158 = none := by decide +kernel
theorem i177_159 : decode (mCd 177) 159 = .ok (.iload_n 3, 1) ∧ lk (mMsk 177) 159 = none := by decide +kernel
theorem i177_160 : decode (mCd 177) 160 = .ok (.iconst 2, 1) ∧ lk (mMsk 177) 160 = none := by decide +kernel
theorem i177_161 : decode (mCd 177) 161 = .ok (.iadd, 1) ∧ lk (mMsk 177) 161 = none := by decide +kernel
theorem i177_162 : decode (mCd 177) 162 = .ok (.iaload, 1) ∧ lk (mMsk 177) 162 = none := by decide +kernel
theorem i177_163 : decode (mCd 177) 163 = .ok (.i2l, 1) ∧ lk (mMsk 177) 163 = none := by decide +kernel
theorem i177_164 : decode (mCd 177) 164 = .ok (.ldc2_w 13, 3) ∧ lk (mMsk 177) 164 = none := by decide +kernel
theorem q177_13 : lk (mKt (mOwn 177)) 13 = some (.inr 4294967295) := by decide +kernel
theorem i177_167 : decode (mCd 177) 167 = .ok (.land, 1) ∧ lk (mMsk 177) 167 = none := by decide +kernel
theorem i177_168 : decode (mCd 177) 168 = .ok (.lor, 1) ∧ lk (mMsk 177) 168 = none := by decide +kernel
theorem i177_169 : decode (mCd 177) 169 = .ok (.invokevirtual 15, 3) ∧ lk (mMsk 177) 169 = none := by decide +kernel
theorem c177_15 : cvOk 177 15 72 1 0 = true := by decide +kernel
theorem i177_172 : decode (mCd 177) 172 = .ok (.aload_n 2, 1) ∧ lk (mMsk 177) 172 = none := by decide +kernel
theorem i177_173 : decode (mCd 177) 173 = .ok (.aload_n 0, 1) ∧ lk (mMsk 177) 173 = none := by decide +kernel
theorem i177_174 : decode (mCd 177) 174 = .ok (.iload_n 3, 1) ∧ lk (mMsk 177) 174 = none := by decide +kernel
theorem i177_175 : decode (mCd 177) 175 = .ok (.iconst 1, 1) ∧ lk (mMsk 177) 175 = none := by decide +kernel
theorem i177_176 : decode (mCd 177) 176 = .ok (.iadd, 1) ∧ lk (mMsk 177) 176 = none := by decide +kernel
theorem i177_177 : decode (mCd 177) 177 = .ok (.iaload, 1) ∧ lk (mMsk 177) 177 = none := by decide +kernel
theorem i177_178 : decode (mCd 177) 178 = .ok (.i2l, 1) ∧ lk (mMsk 177) 178 = none := by decide +kernel
theorem i177_179 : decode (mCd 177) 179 = .ok (.bipush 32, 2) ∧ lk (mMsk 177) 179 = none := by decide +kernel
theorem i177_181 : decode (mCd 177) 181 = .ok (.lshl, 1) ∧ lk (mMsk 177) 181 = none := by decide +kernel
theorem i177_182 : decode (mCd 177) 182 = .ok (.aload_n 0, 1) ∧ lk (mMsk 177) 182 = none := by decide +kernel
theorem i177_183 : decode (mCd 177) 183 = .ok (.iload_n 3, 1) ∧ lk (mMsk 177) 183 = none := by decide +kernel
theorem i177_184 : decode (mCd 177) 184 = .ok (.iconst 2, 1) ∧ lk (mMsk 177) 184 = none := by decide +kernel
theorem i177_185 : decode (mCd 177) 185 = .ok (.iadd, 1) ∧ lk (mMsk 177) 185 = none := by decide +kernel
theorem i177_186 : decode (mCd 177) 186 = .ok (.iaload, 1) ∧ lk (mMsk 177) 186 = none := by decide +kernel
theorem i177_187 : decode (mCd 177) 187 = .ok (.i2l, 1) ∧ lk (mMsk 177) 187 = none := by decide +kernel
theorem i177_188 : decode (mCd 177) 188 = .ok (.ldc2_w 13, 3) ∧ lk (mMsk 177) 188 = none := by decide +kernel
theorem i177_191 : decode (mCd 177) 191 = .ok (.land, 1) ∧ lk (mMsk 177) 191 = none := by decide +kernel
theorem i177_192 : decode (mCd 177) 192 = .ok (.lor, 1) ∧ lk (mMsk 177) 192 = none := by decide +kernel
theorem i177_193 : decode (mCd 177) 193 = .ok (.invokevirtual 19, 3) ∧ lk (mMsk 177) 193 = none := by decide +kernel
theorem c177_19 : cvOk 177 19 109 1 0 = true := by decide +kernel
theorem i177_196 : decode (mCd 177) 196 = .ok (.if_icmp .eq 638, 3) ∧ lk (mMsk 177) 196 = none := by decide +kernel
theorem i177_834 : decode (mCd 177) 834 = .ok (.iinc 3 5, 3) ∧ lk (mMsk 177) 834 = some [true, true, true, true] := by decide +kernel
theorem i177_199 : decode (mCd 177) 199 = .ok (.iconst 0, 1) ∧ lk (mMsk 177) 199 = none := by decide +kernel
theorem i177_200 : decode (mCd 177) 200 = .ok (.ireturn, 1) ∧ lk (mMsk 177) 200 = none := by decide +kernel
theorem i177_201 : decode (mCd 177) 201 = .ok (.aload_n 1, 1) ∧ lk (mMsk 177) 201 = none := by decide +kernel
theorem i177_202 : decode (mCd 177) 202 = .ok (.invokevirtual 20, 3) ∧ lk (mMsk 177) 202 = none := by decide +kernel
theorem c177_20 : cvOk 177 20 73 0 0 = true := by decide +kernel
theorem i177_205 : decode (mCd 177) 205 = .ok (.aload_n 2, 1) ∧ lk (mMsk 177) 205 = none := by decide +kernel
theorem i177_206 : decode (mCd 177) 206 = .ok (.invokevirtual 24, 3) ∧ lk (mMsk 177) 206 = none := by decide +kernel
theorem c177_24 : cvOk 177 24 110 0 0 = true := by decide +kernel
theorem i177_209 : decode (mCd 177) 209 = .ok (.if_icmp .eq 625, 3) ∧ lk (mMsk 177) 209 = none := by decide +kernel
theorem i177_212 : decode (mCd 177) 212 = .ok (.iconst 0, 1) ∧ lk (mMsk 177) 212 = none := by decide +kernel
theorem i177_213 : decode (mCd 177) 213 = .ok (.ireturn, 1) ∧ lk (mMsk 177) 213 = none := by decide +kernel
theorem i177_214 : decode (mCd 177) 214 = .ok (.aload_n 1, 1) ∧ lk (mMsk 177) 214 = none := by decide +kernel
theorem i177_215 : decode (mCd 177) 215 = .ok (.aload_n 0, 1) ∧ lk (mMsk 177) 215 = none := by decide +kernel
theorem i177_216 : decode (mCd 177) 216 = .ok (.iload_n 3, 1) ∧ lk (mMsk 177) 216 = none := by decide +kernel
theorem i177_217 : decode (mCd 177) 217 = .ok (.iconst 1, 1) ∧ lk (mMsk 177) 217 = none := by decide +kernel
theorem i177_218 : decode (mCd 177) 218 = .ok (.iadd, 1) ∧ lk (mMsk 177) 218 = none := by decide +kernel
theorem i177_219 : decode (mCd 177) 219 = .ok (.iaload, 1) ∧ lk (mMsk 177) 219 = none := by decide +kernel
theorem i177_220 : decode (mCd 177) 220 = .ok (.invokevirtual 25, 3) ∧ lk (mMsk 177) 220 = none := by decide +kernel
theorem c177_25 : cvOk 177 25 74 1 0 = true := by decide +kernel
theorem i177_223 : decode (mCd 177) 223 = .ok (.aload_n 2, 1) ∧ lk (mMsk 177) 223 = none := by decide +kernel
theorem i177_224 : decode (mCd 177) 224 = .ok (.aload_n 0, 1) ∧ lk (mMsk 177) 224 = none := by decide +kernel
theorem i177_225 : decode (mCd 177) 225 = .ok (.iload_n 3, 1) ∧ lk (mMsk 177) 225 = none := by decide +kernel
theorem i177_226 : decode (mCd 177) 226 = .ok (.iconst 1, 1) ∧ lk (mMsk 177) 226 = none := by decide +kernel
theorem i177_227 : decode (mCd 177) 227 = .ok (.iadd, 1) ∧ lk (mMsk 177) 227 = none := by decide +kernel
theorem i177_228 : decode (mCd 177) 228 = .ok (.iaload, 1) ∧ lk (mMsk 177) 228 = none := by decide +kernel
theorem i177_229 : decode (mCd 177) 229 = .ok (.invokevirtual 29, 3) ∧ lk (mMsk 177) 229 = none := by decide +kernel
theorem c177_29 : cvOk 177 29 116 1 0 = true := by decide +kernel
theorem i177_232 : decode (mCd 177) 232 = .ok (.if_icmp .eq 602, 3) ∧ lk (mMsk 177) 232 = none := by decide +kernel
theorem i177_235 : decode (mCd 177) 235 = .ok (.iconst 0, 1) ∧ lk (mMsk 177) 235 = none := by decide +kernel
theorem i177_236 : decode (mCd 177) 236 = .ok (.ireturn, 1) ∧ lk (mMsk 177) 236 = none := by decide +kernel
theorem i177_237 : decode (mCd 177) 237 = .ok (.aload_n 1, 1) ∧ lk (mMsk 177) 237 = none := by decide +kernel
theorem i177_238 : decode (mCd 177) 238 = .ok (.invokevirtual 30, 3) ∧ lk (mMsk 177) 238 = none := by decide +kernel
theorem c177_30 : cvOk 177 30 75 0 0 = true := by decide +kernel
theorem i177_241 : decode (mCd 177) 241 = .ok (.aload_n 2, 1) ∧ lk (mMsk 177) 241 = none := by decide +kernel
theorem i177_242 : decode (mCd 177) 242 = .ok (.invokevirtual 33, 3) ∧ lk (mMsk 177) 242 = none := by decide +kernel
theorem c177_33 : cvOk 177 33 117 0 0 = true := by decide +kernel
theorem i177_245 : decode (mCd 177) 245 = .ok (.if_icmp .eq 589, 3) ∧ lk (mMsk 177) 245 = none := by decide +kernel
theorem i177_248 : decode (mCd 177) 248 = .ok (.iconst 0, 1) ∧ lk (mMsk 177) 248 = none := by decide +kernel
theorem i177_249 : decode (mCd 177) 249 = .ok (.ireturn, 1) ∧ lk (mMsk 177) 249 = none := by decide +kernel
theorem i177_250 : decode (mCd 177) 250 = .ok (.aload_n 1, 1) ∧ lk (mMsk 177) 250 = none := by decide +kernel
theorem i177_251 : decode (mCd 177) 251 = .ok (.aload_n 0, 1) ∧ lk (mMsk 177) 251 = none := by decide +kernel
theorem i177_252 : decode (mCd 177) 252 = .ok (.iload_n 3, 1) ∧ lk (mMsk 177) 252 = none := by decide +kernel
theorem i177_253 : decode (mCd 177) 253 = .ok (.iconst 1, 1) ∧ lk (mMsk 177) 253 = none := by decide +kernel
theorem i177_254 : decode (mCd 177) 254 = .ok (.iadd, 1) ∧ lk (mMsk 177) 254 = none := by decide +kernel
theorem i177_255 : decode (mCd 177) 255 = .ok (.iaload, 1) ∧ lk (mMsk 177) 255 = none := by decide +kernel
theorem i177_256 : decode (mCd 177) 256 = .ok (.aload_n 0, 1) ∧ lk (mMsk 177) 256 = none := by decide +kernel
theorem i177_257 : decode (mCd 177) 257 = .ok (.iload_n 3, 1) ∧ lk (mMsk 177) 257 = none := by decide +kernel
theorem i177_258 : decode (mCd 177) 258 = .ok (.iconst 2, 1) ∧ lk (mMsk 177) 258 = none := by decide +kernel
theorem i177_259 : decode (mCd 177) 259 = .ok (.iadd, 1) ∧ lk (mMsk 177) 259 = none := by decide +kernel
theorem i177_260 : decode (mCd 177) 260 = .ok (.iaload, 1) ∧ lk (mMsk 177) 260 = none := by decide +kernel
theorem i177_261 : decode (mCd 177) 261 = .ok (.invokevirtual 34, 3) ∧ lk (mMsk 177) 261 = none := by decide +kernel
theorem c177_34 : cvOk 177 34 76 2 0 = true := by decide +kernel
theorem i177_264 : decode (mCd 177) 264 = .ok (.aload_n 2, 1) ∧ lk (mMsk 177) 264 = none := by decide +kernel
theorem i177_265 : decode (mCd 177) 265 = .ok (.aload_n 0, 1) ∧ lk (mMsk 177) 265 = none := by decide +kernel
theorem i177_266 : decode (mCd 177) 266 = .ok (.iload_n 3, 1) ∧ lk (mMsk 177) 266 = none := by decide +kernel
theorem i177_267 : decode (mCd 177) 267 = .ok (.iconst 1, 1) ∧ lk (mMsk 177) 267 = none := by decide +kernel
theorem i177_268 : decode (mCd 177) 268 = .ok (.iadd, 1) ∧ lk (mMsk 177) 268 = none := by decide +kernel
theorem i177_269 : decode (mCd 177) 269 = .ok (.iaload, 1) ∧ lk (mMsk 177) 269 = none := by decide +kernel
theorem i177_270 : decode (mCd 177) 270 = .ok (.aload_n 0, 1) ∧ lk (mMsk 177) 270 = none := by decide +kernel
theorem i177_271 : decode (mCd 177) 271 = .ok (.iload_n 3, 1) ∧ lk (mMsk 177) 271 = none := by decide +kernel
theorem i177_272 : decode (mCd 177) 272 = .ok (.iconst 2, 1) ∧ lk (mMsk 177) 272 = none := by decide +kernel
theorem i177_273 : decode (mCd 177) 273 = .ok (.iadd, 1) ∧ lk (mMsk 177) 273 = none := by decide +kernel
theorem i177_274 : decode (mCd 177) 274 = .ok (.iaload, 1) ∧ lk (mMsk 177) 274 = none := by decide +kernel
theorem i177_275 : decode (mCd 177) 275 = .ok (.invokevirtual 38, 3) ∧ lk (mMsk 177) 275 = none := by decide +kernel
theorem c177_38 : cvOk 177 38 119 2 0 = true := by decide +kernel
theorem i177_278 : decode (mCd 177) 278 = .ok (.if_icmp .eq 556, 3) ∧ lk (mMsk 177) 278 = none := by decide +kernel
theorem i177_281 : decode (mCd 177) 281 = .ok (.iconst 0, 1) ∧ lk (mMsk 177) 281 = none := by decide +kernel
theorem i177_282 : decode (mCd 177) 282 = .ok (.ireturn, 1) ∧ lk (mMsk 177) 282 = none := by decide +kernel
theorem i177_283 : decode (mCd 177) 283 = .ok (.aload_n 1, 1) ∧ lk (mMsk 177) 283 = none := by decide +kernel
theorem i177_284 : decode (mCd 177) 284 = .ok (.aload_n 0, 1) ∧ lk (mMsk 177) 284 = none := by decide +kernel
theorem i177_285 : decode (mCd 177) 285 = .ok (.iload_n 3, 1) ∧ lk (mMsk 177) 285 = none := by decide +kernel
theorem i177_286 : decode (mCd 177) 286 = .ok (.iconst 1, 1) ∧ lk (mMsk 177) 286 = none := by decide +kernel
theorem i177_287 : decode (mCd 177) 287 = .ok (.iadd, 1) ∧ lk (mMsk 177) 287 = none := by decide +kernel
theorem i177_288 : decode (mCd 177) 288 = .ok (.iaload, 1) ∧ lk (mMsk 177) 288 = none := by decide +kernel
theorem i177_289 : decode (mCd 177) 289 = .ok (.aload_n 0, 1) ∧ lk (mMsk 177) 289 = none := by decide +kernel
theorem i177_290 : decode (mCd 177) 290 = .ok (.iload_n 3, 1) ∧ lk (mMsk 177) 290 = none := by decide +kernel
theorem i177_291 : decode (mCd 177) 291 = .ok (.iconst 2, 1) ∧ lk (mMsk 177) 291 = none := by decide +kernel
theorem i177_292 : decode (mCd 177) 292 = .ok (.iadd, 1) ∧ lk (mMsk 177) 292 = none := by decide +kernel
theorem i177_293 : decode (mCd 177) 293 = .ok (.iaload, 1) ∧ lk (mMsk 177) 293 = none := by decide +kernel
theorem i177_294 : decode (mCd 177) 294 = .ok (.aload_n 0, 1) ∧ lk (mMsk 177) 294 = none := by decide +kernel
theorem i177_295 : decode (mCd 177) 295 = .ok (.iload_n 3, 1) ∧ lk (mMsk 177) 295 = none := by decide +kernel
theorem i177_296 : decode (mCd 177) 296 = .ok (.iconst 3, 1) ∧ lk (mMsk 177) 296 = none := by decide +kernel
theorem i177_297 : decode (mCd 177) 297 = .ok (.iadd, 1) ∧ lk (mMsk 177) 297 = none := by decide +kernel
theorem i177_298 : decode (mCd 177) 298 = .ok (.iaload, 1) ∧ lk (mMsk 177) 298 = none := by decide +kernel
theorem i177_299 : decode (mCd 177) 299 = .ok (.aload_n 0, 1) ∧ lk (mMsk 177) 299 = none := by decide +kernel
theorem i177_300 : decode (mCd 177) 300 = .ok (.iload_n 3, 1) ∧ lk (mMsk 177) 300 = none := by decide +kernel
theorem i177_301 : decode (mCd 177) 301 = .ok (.iconst 4, 1) ∧ lk (mMsk 177) 301 = none := by decide +kernel
theorem i177_302 : decode (mCd 177) 302 = .ok (.iadd, 1) ∧ lk (mMsk 177) 302 = none := by decide +kernel
theorem i177_303 : decode (mCd 177) 303 = .ok (.iaload, 1) ∧ lk (mMsk 177) 303 = none := by decide +kernel
theorem i177_304 : decode (mCd 177) 304 = .ok (.invokevirtual 39, 3) ∧ lk (mMsk 177) 304 = none := by decide +kernel
theorem c177_39 : cvOk 177 39 77 4 0 = true := by decide +kernel
theorem i177_307 : decode (mCd 177) 307 = .ok (.aload_n 2, 1) ∧ lk (mMsk 177) 307 = none := by decide +kernel
theorem i177_308 : decode (mCd 177) 308 = .ok (.aload_n 0, 1) ∧ lk (mMsk 177) 308 = none := by decide +kernel
theorem i177_309 : decode (mCd 177) 309 = .ok (.iload_n 3, 1) ∧ lk (mMsk 177) 309 = none := by decide +kernel
theorem i177_310 : decode (mCd 177) 310 = .ok (.iconst 1, 1) ∧ lk (mMsk 177) 310 = none := by decide +kernel
theorem i177_311 : decode (mCd 177) 311 = .ok (.iadd, 1) ∧ lk (mMsk 177) 311 = none := by decide +kernel
theorem i177_312 : decode (mCd 177) 312 = .ok (.iaload, 1) ∧ lk (mMsk 177) 312 = none := by decide +kernel
theorem i177_313 : decode (mCd 177) 313 = .ok (.aload_n 0, 1) ∧ lk (mMsk 177) 313 = none := by decide +kernel
theorem i177_314 : decode (mCd 177) 314 = .ok (.iload_n 3, 1) ∧ lk (mMsk 177) 314 = none := by decide +kernel
theorem i177_315 : decode (mCd 177) 315 = .ok (.iconst 2, 1) ∧ lk (mMsk 177) 315 = none := by decide +kernel
theorem i177_316 : decode (mCd 177) 316 = .ok (.iadd, 1) ∧ lk (mMsk 177) 316 = none := by decide +kernel
theorem i177_317 : decode (mCd 177) 317 = .ok (.iaload, 1) ∧ lk (mMsk 177) 317 = none := by decide +kernel
theorem i177_318 : decode (mCd 177) 318 = .ok (.aload_n 0, 1) ∧ lk (mMsk 177) 318 = none := by decide +kernel
theorem i177_319 : decode (mCd 177) 319 = .ok (.iload_n 3, 1) ∧ lk (mMsk 177) 319 = none := by decide +kernel
theorem i177_320 : decode (mCd 177) 320 = .ok (.iconst 3, 1) ∧ lk (mMsk 177) 320 = none := by decide +kernel
theorem i177_321 : decode (mCd 177) 321 = .ok (.iadd, 1) ∧ lk (mMsk 177) 321 = none := by decide +kernel
theorem i177_322 : decode (mCd 177) 322 = .ok (.iaload, 1) ∧ lk (mMsk 177) 322 = none := by decide +kernel
theorem i177_323 : decode (mCd 177) 323 = .ok (.aload_n 0, 1) ∧ lk (mMsk 177) 323 = none := by decide +kernel
theorem i177_324 : decode (mCd 177) 324 = .ok (.iload_n 3, 1) ∧ lk (mMsk 177) 324 = none := by decide +kernel
theorem i177_325 : decode (mCd 177) 325 = .ok (.iconst 4, 1) ∧ lk (mMsk 177) 325 = none := by decide +kernel
theorem i177_326 : decode (mCd 177) 326 = .ok (.iadd, 1) ∧ lk (mMsk 177) 326 = none := by decide +kernel
theorem i177_327 : decode (mCd 177) 327 = .ok (.iaload, 1) ∧ lk (mMsk 177) 327 = none := by decide +kernel
theorem i177_328 : decode (mCd 177) 328 = .ok (.invokevirtual 43, 3) ∧ lk (mMsk 177) 328 = none := by decide +kernel
theorem c177_43 : cvOk 177 43 122 4 0 = true := by decide +kernel
theorem i177_331 : decode (mCd 177) 331 = .ok (.if_icmp .eq 503, 3) ∧ lk (mMsk 177) 331 = none := by decide +kernel
theorem i177_334 : decode (mCd 177) 334 = .ok (.iconst 0, 1) ∧ lk (mMsk 177) 334 = none := by decide +kernel
theorem i177_335 : decode (mCd 177) 335 = .ok (.ireturn, 1) ∧ lk (mMsk 177) 335 = none := by decide +kernel
theorem i177_336 : decode (mCd 177) 336 = .ok (.aload_n 1, 1) ∧ lk (mMsk 177) 336 = none := by decide +kernel
theorem i177_337 : decode (mCd 177) 337 = .ok (.aload_n 0, 1) ∧ lk (mMsk 177) 337 = none := by decide +kernel
theorem i177_338 : decode (mCd 177) 338 = .ok (.iload_n 3, 1) ∧ lk (mMsk 177) 338 = none := by decide +kernel
theorem i177_339 : decode (mCd 177) 339 = .ok (.iconst 1, 1) ∧ lk (mMsk 177) 339 = none := by decide +kernel
theorem i177_340 : decode (mCd 177) 340 = .ok (.iadd, 1) ∧ lk (mMsk 177) 340 = none := by decide +kernel
theorem i177_341 : decode (mCd 177) 341 = .ok (.iaload, 1) ∧ lk (mMsk 177) 341 = none := by decide +kernel
theorem i177_342 : decode (mCd 177) 342 = .ok (.aload_n 0, 1) ∧ lk (mMsk 177) 342 = none := by decide +kernel
theorem i177_343 : decode (mCd 177) 343 = .ok (.iload_n 3, 1) ∧ lk (mMsk 177) 343 = none := by decide +kernel
theorem i177_344 : decode (mCd 177) 344 = .ok (.iconst 2, 1) ∧ lk (mMsk 177) 344 = none := by decide +kernel
theorem i177_345 : decode (mCd 177) 345 = .ok (.iadd, 1) ∧ lk (mMsk 177) 345 = none := by decide +kernel
theorem i177_346 : decode (mCd 177) 346 = .ok (.iaload, 1) ∧ lk (mMsk 177) 346 = none := by decide +kernel
theorem i177_347 : decode (mCd 177) 347 = .ok (.invokevirtual 44, 3) ∧ lk (mMsk 177) 347 = none := by decide +kernel
theorem c177_44 : cvOk 177 44 78 2 0 = true := by decide +kernel
theorem i177_350 : decode (mCd 177) 350 = .ok (.aload_n 2, 1) ∧ lk (mMsk 177) 350 = none := by decide +kernel
theorem i177_351 : decode (mCd 177) 351 = .ok (.aload_n 0, 1) ∧ lk (mMsk 177) 351 = none := by decide +kernel
theorem i177_352 : decode (mCd 177) 352 = .ok (.iload_n 3, 1) ∧ lk (mMsk 177) 352 = none := by decide +kernel
theorem i177_353 : decode (mCd 177) 353 = .ok (.iconst 1, 1) ∧ lk (mMsk 177) 353 = none := by decide +kernel
theorem i177_354 : decode (mCd 177) 354 = .ok (.iadd, 1) ∧ lk (mMsk 177) 354 = none := by decide +kernel
theorem i177_355 : decode (mCd 177) 355 = .ok (.iaload, 1) ∧ lk (mMsk 177) 355 = none := by decide +kernel
theorem i177_356 : decode (mCd 177) 356 = .ok (.aload_n 0, 1) ∧ lk (mMsk 177) 356 = none := by decide +kernel
theorem i177_357 : decode (mCd 177) 357 = .ok (.iload_n 3, 1) ∧ lk (mMsk 177) 357 = none := by decide +kernel
theorem i177_358 : decode (mCd 177) 358 = .ok (.iconst 2, 1) ∧ lk (mMsk 177) 358 = none := by decide +kernel
theorem i177_359 : decode (mCd 177) 359 = .ok (.iadd, 1) ∧ lk (mMsk 177) 359 = none := by decide +kernel
theorem i177_360 : decode (mCd 177) 360 = .ok (.iaload, 1) ∧ lk (mMsk 177) 360 = none := by decide +kernel
theorem i177_361 : decode (mCd 177) 361 = .ok (.invokevirtual 47, 3) ∧ lk (mMsk 177) 361 = none := by decide +kernel
theorem c177_47 : cvOk 177 47 126 2 0 = true := by decide +kernel
theorem i177_364 : decode (mCd 177) 364 = .ok (.if_icmp .eq 470, 3) ∧ lk (mMsk 177) 364 = none := by decide +kernel
theorem i177_367 : decode (mCd 177) 367 = .ok (.iconst 0, 1) ∧ lk (mMsk 177) 367 = none := by decide +kernel
theorem i177_368 : decode (mCd 177) 368 = .ok (.ireturn, 1) ∧ lk (mMsk 177) 368 = none := by decide +kernel
theorem i177_369 : decode (mCd 177) 369 = .ok (.aload_n 1, 1) ∧ lk (mMsk 177) 369 = none := by decide +kernel
theorem i177_370 : decode (mCd 177) 370 = .ok (.aload_n 0, 1) ∧ lk (mMsk 177) 370 = none := by decide +kernel
theorem i177_371 : decode (mCd 177) 371 = .ok (.iload_n 3, 1) ∧ lk (mMsk 177) 371 = none := by decide +kernel
theorem i177_372 : decode (mCd 177) 372 = .ok (.iconst 1, 1) ∧ lk (mMsk 177) 372 = none := by decide +kernel
theorem i177_373 : decode (mCd 177) 373 = .ok (.iadd, 1) ∧ lk (mMsk 177) 373 = none := by decide +kernel
theorem i177_374 : decode (mCd 177) 374 = .ok (.iaload, 1) ∧ lk (mMsk 177) 374 = none := by decide +kernel
theorem i177_375 : decode (mCd 177) 375 = .ok (.aload_n 0, 1) ∧ lk (mMsk 177) 375 = none := by decide +kernel
theorem i177_376 : decode (mCd 177) 376 = .ok (.iload_n 3, 1) ∧ lk (mMsk 177) 376 = none := by decide +kernel
theorem i177_377 : decode (mCd 177) 377 = .ok (.iconst 2, 1) ∧ lk (mMsk 177) 377 = none := by decide +kernel
theorem i177_378 : decode (mCd 177) 378 = .ok (.iadd, 1) ∧ lk (mMsk 177) 378 = none := by decide +kernel
theorem i177_379 : decode (mCd 177) 379 = .ok (.iaload, 1) ∧ lk (mMsk 177) 379 = none := by decide +kernel
theorem i177_380 : decode (mCd 177) 380 = .ok (.invokevirtual 48, 3) ∧ lk (mMsk 177) 380 = none := by decide +kernel
theorem c177_48 : cvOk 177 48 79 2 0 = true := by decide +kernel
theorem i177_383 : decode (mCd 177) 383 = .ok (.aload_n 2, 1) ∧ lk (mMsk 177) 383 = none := by decide +kernel
theorem i177_384 : decode (mCd 177) 384 = .ok (.aload_n 0, 1) ∧ lk (mMsk 177) 384 = none := by decide +kernel
theorem i177_385 : decode (mCd 177) 385 = .ok (.iload_n 3, 1) ∧ lk (mMsk 177) 385 = none := by decide +kernel
theorem i177_386 : decode (mCd 177) 386 = .ok (.iconst 1, 1) ∧ lk (mMsk 177) 386 = none := by decide +kernel
theorem i177_387 : decode (mCd 177) 387 = .ok (.iadd, 1) ∧ lk (mMsk 177) 387 = none := by decide +kernel
theorem i177_388 : decode (mCd 177) 388 = .ok (.iaload, 1) ∧ lk (mMsk 177) 388 = none := by decide +kernel
theorem i177_389 : decode (mCd 177) 389 = .ok (.aload_n 0, 1) ∧ lk (mMsk 177) 389 = none := by decide +kernel
theorem i177_390 : decode (mCd 177) 390 = .ok (.iload_n 3, 1) ∧ lk (mMsk 177) 390 = none := by decide +kernel
theorem i177_391 : decode (mCd 177) 391 = .ok (.iconst 2, 1) ∧ lk (mMsk 177) 391 = none := by decide +kernel
theorem i177_392 : decode (mCd 177) 392 = .ok (.iadd, 1) ∧ lk (mMsk 177) 392 = none := by decide +kernel
theorem i177_393 : decode (mCd 177) 393 = .ok (.iaload, 1) ∧ lk (mMsk 177) 393 = none := by decide +kernel
theorem i177_394 : decode (mCd 177) 394 = .ok (.invokevirtual 51, 3) ∧ lk (mMsk 177) 394 = none := by decide +kernel
theorem c177_51 : cvOk 177 51 127 2 0 = true := by decide +kernel
theorem i177_397 : decode (mCd 177) 397 = .ok (.if_icmp .eq 437, 3) ∧ lk (mMsk 177) 397 = none := by decide +kernel
theorem i177_400 : decode (mCd 177) 400 = .ok (.iconst 0, 1) ∧ lk (mMsk 177) 400 = none := by decide +kernel
theorem i177_401 : decode (mCd 177) 401 = .ok (.ireturn, 1) ∧ lk (mMsk 177) 401 = none := by decide +kernel
theorem i177_402 : decode (mCd 177) 402 = .ok (.aload_n 1, 1) ∧ lk (mMsk 177) 402 = none := by decide +kernel
theorem i177_403 : decode (mCd 177) 403 = .ok (.aload_n 0, 1) ∧ lk (mMsk 177) 403 = none := by decide +kernel
theorem i177_404 : decode (mCd 177) 404 = .ok (.iload_n 3, 1) ∧ lk (mMsk 177) 404 = none := by decide +kernel
theorem i177_405 : decode (mCd 177) 405 = .ok (.iconst 1, 1) ∧ lk (mMsk 177) 405 = none := by decide +kernel
theorem i177_406 : decode (mCd 177) 406 = .ok (.iadd, 1) ∧ lk (mMsk 177) 406 = none := by decide +kernel
theorem i177_407 : decode (mCd 177) 407 = .ok (.iaload, 1) ∧ lk (mMsk 177) 407 = none := by decide +kernel
theorem i177_408 : decode (mCd 177) 408 = .ok (.invokevirtual 52, 3) ∧ lk (mMsk 177) 408 = none := by decide +kernel
theorem c177_52 : cvOk 177 52 80 1 0 = true := by decide +kernel
theorem i177_411 : decode (mCd 177) 411 = .ok (.aload_n 2, 1) ∧ lk (mMsk 177) 411 = none := by decide +kernel
theorem i177_412 : decode (mCd 177) 412 = .ok (.aload_n 0, 1) ∧ lk (mMsk 177) 412 = none := by decide +kernel
theorem i177_413 : decode (mCd 177) 413 = .ok (.iload_n 3, 1) ∧ lk (mMsk 177) 413 = none := by decide +kernel
theorem i177_414 : decode (mCd 177) 414 = .ok (.iconst 1, 1) ∧ lk (mMsk 177) 414 = none := by decide +kernel
theorem i177_415 : decode (mCd 177) 415 = .ok (.iadd, 1) ∧ lk (mMsk 177) 415 = none := by decide +kernel
theorem i177_416 : decode (mCd 177) 416 = .ok (.iaload, 1) ∧ lk (mMsk 177) 416 = none := by decide +kernel
theorem i177_417 : decode (mCd 177) 417 = .ok (.invokevirtual 55, 3) ∧ lk (mMsk 177) 417 = none := by decide +kernel
theorem c177_55 : cvOk 177 55 128 1 0 = true := by decide +kernel
theorem i177_420 : decode (mCd 177) 420 = .ok (.if_icmp .eq 414, 3) ∧ lk (mMsk 177) 420 = none := by decide +kernel
theorem i177_423 : decode (mCd 177) 423 = .ok (.iconst 0, 1) ∧ lk (mMsk 177) 423 = none := by decide +kernel
theorem i177_424 : decode (mCd 177) 424 = .ok (.ireturn, 1) ∧ lk (mMsk 177) 424 = none := by decide +kernel
theorem i177_425 : decode (mCd 177) 425 = .ok (.aload_n 1, 1) ∧ lk (mMsk 177) 425 = none := by decide +kernel
theorem i177_426 : decode (mCd 177) 426 = .ok (.aload_n 0, 1) ∧ lk (mMsk 177) 426 = none := by decide +kernel
theorem i177_427 : decode (mCd 177) 427 = .ok (.iload_n 3, 1) ∧ lk (mMsk 177) 427 = none := by decide +kernel
theorem i177_428 : decode (mCd 177) 428 = .ok (.iconst 1, 1) ∧ lk (mMsk 177) 428 = none := by decide +kernel
theorem i177_429 : decode (mCd 177) 429 = .ok (.iadd, 1) ∧ lk (mMsk 177) 429 = none := by decide +kernel
theorem i177_430 : decode (mCd 177) 430 = .ok (.iaload, 1) ∧ lk (mMsk 177) 430 = none := by decide +kernel
theorem i177_431 : decode (mCd 177) 431 = .ok (.aload_n 0, 1) ∧ lk (mMsk 177) 431 = none := by decide +kernel
theorem i177_432 : decode (mCd 177) 432 = .ok (.iload_n 3, 1) ∧ lk (mMsk 177) 432 = none := by decide +kernel
theorem i177_433 : decode (mCd 177) 433 = .ok (.iconst 2, 1) ∧ lk (mMsk 177) 433 = none := by decide +kernel
theorem i177_434 : decode (mCd 177) 434 = .ok (.iadd, 1) ∧ lk (mMsk 177) 434 = none := by decide +kernel
theorem i177_435 : decode (mCd 177) 435 = .ok (.iaload, 1) ∧ lk (mMsk 177) 435 = none := by decide +kernel
theorem i177_436 : decode (mCd 177) 436 = .ok (.invokevirtual 56, 3) ∧ lk (mMsk 177) 436 = none := by decide +kernel
theorem c177_56 : cvOk 177 56 81 2 0 = true := by decide +kernel
theorem i177_439 : decode (mCd 177) 439 = .ok (.aload_n 2, 1) ∧ lk (mMsk 177) 439 = none := by decide +kernel
theorem i177_440 : decode (mCd 177) 440 = .ok (.aload_n 0, 1) ∧ lk (mMsk 177) 440 = none := by decide +kernel
theorem i177_441 : decode (mCd 177) 441 = .ok (.iload_n 3, 1) ∧ lk (mMsk 177) 441 = none := by decide +kernel
theorem i177_442 : decode (mCd 177) 442 = .ok (.iconst 1, 1) ∧ lk (mMsk 177) 442 = none := by decide +kernel
theorem i177_443 : decode (mCd 177) 443 = .ok (.iadd, 1) ∧ lk (mMsk 177) 443 = none := by decide +kernel
theorem i177_444 : decode (mCd 177) 444 = .ok (.iaload, 1) ∧ lk (mMsk 177) 444 = none := by decide +kernel
theorem i177_445 : decode (mCd 177) 445 = .ok (.aload_n 0, 1) ∧ lk (mMsk 177) 445 = none := by decide +kernel
theorem i177_446 : decode (mCd 177) 446 = .ok (.iload_n 3, 1) ∧ lk (mMsk 177) 446 = none := by decide +kernel
theorem i177_447 : decode (mCd 177) 447 = .ok (.iconst 2, 1) ∧ lk (mMsk 177) 447 = none := by decide +kernel
theorem i177_448 : decode (mCd 177) 448 = .ok (.iadd, 1) ∧ lk (mMsk 177) 448 = none := by decide +kernel
theorem i177_449 : decode (mCd 177) 449 = .ok (.iaload, 1) ∧ lk (mMsk 177) 449 = none := by decide +kernel
theorem i177_450 : decode (mCd 177) 450 = .ok (.invokevirtual 59, 3) ∧ lk (mMsk 177) 450 = none := by decide +kernel
theorem c177_59 : cvOk 177 59 129 2 0 = true := by decide +kernel
theorem i177_453 : decode (mCd 177) 453 = .ok (.if_icmp .eq 381, 3) ∧ lk (mMsk 177) 453 = none := by decide +kernel
theorem i177_456 : decode (mCd 177) 456 = .ok (.iconst 0, 1) ∧ lk (mMsk 177) 456 = none := by decide +kernel
theorem i177_457 : decode (mCd 177) 457 = .ok (.ireturn, 1) ∧ lk (mMsk 177) 457 = none := by decide +kernel
theorem i177_458 : decode (mCd 177) 458 = .ok (.aload_n 1, 1) ∧ lk (mMsk 177) 458 = none := by decide +kernel
theorem i177_459 : decode (mCd 177) 459 = .ok (.aload_n 0, 1) ∧ lk (mMsk 177) 459 = none := by decide +kernel
theorem i177_460 : decode (mCd 177) 460 = .ok (.iload_n 3, 1) ∧ lk (mMsk 177) 460 = none := by decide +kernel
theorem i177_461 : decode (mCd 177) 461 = .ok (.iconst 1, 1) ∧ lk (mMsk 177) 461 = none := by decide +kernel
theorem i177_462 : decode (mCd 177) 462 = .ok (.iadd, 1) ∧ lk (mMsk 177) 462 = none := by decide +kernel
theorem i177_463 : decode (mCd 177) 463 = .ok (.iaload, 1) ∧ lk (mMsk 177) 463 = none := by decide +kernel
theorem i177_464 : decode (mCd 177) 464 = .ok (.aload_n 0, 1) ∧ lk (mMsk 177) 464 = none := by decide +kernel
theorem i177_465 : decode (mCd 177) 465 = .ok (.iload_n 3, 1) ∧ lk (mMsk 177) 465 = none := by decide +kernel
theorem i177_466 : decode (mCd 177) 466 = .ok (.iconst 2, 1) ∧ lk (mMsk 177) 466 = none := by decide +kernel
theorem i177_467 : decode (mCd 177) 467 = .ok (.iadd, 1) ∧ lk (mMsk 177) 467 = none := by decide +kernel
theorem i177_468 : decode (mCd 177) 468 = .ok (.iaload, 1) ∧ lk (mMsk 177) 468 = none := by decide +kernel
theorem i177_469 : decode (mCd 177) 469 = .ok (.invokevirtual 60, 3) ∧ lk (mMsk 177) 469 = none := by decide +kernel
theorem c177_60 : cvOk 177 60 82 2 0 = true := by decide +kernel
theorem i177_472 : decode (mCd 177) 472 = .ok (.aload_n 2, 1) ∧ lk (mMsk 177) 472 = none := by decide +kernel
theorem i177_473 : decode (mCd 177) 473 = .ok (.aload_n 0, 1) ∧ lk (mMsk 177) 473 = none := by decide +kernel
theorem i177_474 : decode (mCd 177) 474 = .ok (.iload_n 3, 1) ∧ lk (mMsk 177) 474 = none := by decide +kernel
theorem i177_475 : decode (mCd 177) 475 = .ok (.iconst 1, 1) ∧ lk (mMsk 177) 475 = none := by decide +kernel
theorem i177_476 : decode (mCd 177) 476 = .ok (.iadd, 1) ∧ lk (mMsk 177) 476 = none := by decide +kernel
theorem i177_477 : decode (mCd 177) 477 = .ok (.iaload, 1) ∧ lk (mMsk 177) 477 = none := by decide +kernel
theorem i177_478 : decode (mCd 177) 478 = .ok (.aload_n 0, 1) ∧ lk (mMsk 177) 478 = none := by decide +kernel
theorem i177_479 : decode (mCd 177) 479 = .ok (.iload_n 3, 1) ∧ lk (mMsk 177) 479 = none := by decide +kernel
theorem i177_480 : decode (mCd 177) 480 = .ok (.iconst 2, 1) ∧ lk (mMsk 177) 480 = none := by decide +kernel
theorem i177_481 : decode (mCd 177) 481 = .ok (.iadd, 1) ∧ lk (mMsk 177) 481 = none := by decide +kernel
theorem i177_482 : decode (mCd 177) 482 = .ok (.iaload, 1) ∧ lk (mMsk 177) 482 = none := by decide +kernel
theorem i177_483 : decode (mCd 177) 483 = .ok (.invokevirtual 63, 3) ∧ lk (mMsk 177) 483 = none := by decide +kernel
theorem c177_63 : cvOk 177 63 131 2 0 = true := by decide +kernel
theorem i177_486 : decode (mCd 177) 486 = .ok (.if_icmp .eq 348, 3) ∧ lk (mMsk 177) 486 = none := by decide +kernel
theorem i177_489 : decode (mCd 177) 489 = .ok (.iconst 0, 1) ∧ lk (mMsk 177) 489 = none := by decide +kernel
theorem i177_490 : decode (mCd 177) 490 = .ok (.ireturn, 1) ∧ lk (mMsk 177) 490 = none := by decide +kernel
theorem i177_491 : decode (mCd 177) 491 = .ok (.aload_n 1, 1) ∧ lk (mMsk 177) 491 = none := by decide +kernel
theorem i177_492 : decode (mCd 177) 492 = .ok (.aload_n 0, 1) ∧ lk (mMsk 177) 492 = none := by decide +kernel
theorem i177_493 : decode (mCd 177) 493 = .ok (.iload_n 3, 1) ∧ lk (mMsk 177) 493 = none := by decide +kernel
theorem i177_494 : decode (mCd 177) 494 = .ok (.iconst 1, 1) ∧ lk (mMsk 177) 494 = none := by decide +kernel
theorem i177_495 : decode (mCd 177) 495 = .ok (.iadd, 1) ∧ lk (mMsk 177) 495 = none := by decide +kernel
theorem i177_496 : decode (mCd 177) 496 = .ok (.iaload, 1) ∧ lk (mMsk 177) 496 = none := by decide +kernel
theorem i177_497 : decode (mCd 177) 497 = .ok (.aload_n 0, 1) ∧ lk (mMsk 177) 497 = none := by decide +kernel
theorem i177_498 : decode (mCd 177) 498 = .ok (.iload_n 3, 1) ∧ lk (mMsk 177) 498 = none := by decide +kernel
theorem i177_499 : decode (mCd 177) 499 = .ok (.iconst 2, 1) ∧ lk (mMsk 177) 499 = none := by decide +kernel
theorem i177_500 : decode (mCd 177) 500 = .ok (.iadd, 1) ∧ lk (mMsk 177) 500 = none := by decide +kernel
theorem i177_501 : decode (mCd 177) 501 = .ok (.iaload, 1) ∧ lk (mMsk 177) 501 = none := by decide +kernel
theorem i177_502 : decode (mCd 177) 502 = .ok (.invokevirtual 64, 3) ∧ lk (mMsk 177) 502 = none := by decide +kernel
theorem c177_64 : cvOk 177 64 83 2 0 = true := by decide +kernel
theorem i177_505 : decode (mCd 177) 505 = .ok (.aload_n 2, 1) ∧ lk (mMsk 177) 505 = none := by decide +kernel
theorem i177_506 : decode (mCd 177) 506 = .ok (.aload_n 0, 1) ∧ lk (mMsk 177) 506 = none := by decide +kernel
theorem i177_507 : decode (mCd 177) 507 = .ok (.iload_n 3, 1) ∧ lk (mMsk 177) 507 = none := by decide +kernel
theorem i177_508 : decode (mCd 177) 508 = .ok (.iconst 1, 1) ∧ lk (mMsk 177) 508 = none := by decide +kernel
theorem i177_509 : decode (mCd 177) 509 = .ok (.iadd, 1) ∧ lk (mMsk 177) 509 = none := by decide +kernel
theorem i177_510 : decode (mCd 177) 510 = .ok (.iaload, 1) ∧ lk (mMsk 177) 510 = none := by decide +kernel
theorem i177_511 : decode (mCd 177) 511 = .ok (.aload_n 0, 1) ∧ lk (mMsk 177) 511 = none := by decide +kernel
theorem i177_512 : decode (mCd 177) 512 = .ok (.iload_n 3, 1) ∧ lk (mMsk 177) 512 = none := by decide +kernel
theorem i177_513 : decode (mCd 177) 513 = .ok (.iconst 2, 1) ∧ lk (mMsk 177) 513 = none := by decide +kernel
theorem i177_514 : decode (mCd 177) 514 = .ok (.iadd, 1) ∧ lk (mMsk 177) 514 = none := by decide +kernel
theorem i177_515 : decode (mCd 177) 515 = .ok (.iaload, 1) ∧ lk (mMsk 177) 515 = none := by decide +kernel
theorem i177_516 : decode (mCd 177) 516 = .ok (.invokevirtual 67, 3) ∧ lk (mMsk 177) 516 = none := by decide +kernel
theorem c177_67 : cvOk 177 67 132 2 0 = true := by decide +kernel
theorem i177_519 : decode (mCd 177) 519 = .ok (.if_icmp .eq 315, 3) ∧ lk (mMsk 177) 519 = none := by decide +kernel
theorem i177_522 : decode (mCd 177) 522 = .ok (.iconst 0, 1) ∧ lk (mMsk 177) 522 = none := by decide +kernel
theorem i177_523 : decode (mCd 177) 523 = .ok (.ireturn, 1) ∧ lk (mMsk 177) 523 = none := by decide +kernel
theorem i177_524 : decode (mCd 177) 524 = .ok (.aload_n 1, 1) ∧ lk (mMsk 177) 524 = none := by decide +kernel
theorem i177_525 : decode (mCd 177) 525 = .ok (.aload_n 0, 1) ∧ lk (mMsk 177) 525 = none := by decide +kernel
theorem i177_526 : decode (mCd 177) 526 = .ok (.iload_n 3, 1) ∧ lk (mMsk 177) 526 = none := by decide +kernel
theorem i177_527 : decode (mCd 177) 527 = .ok (.iconst 1, 1) ∧ lk (mMsk 177) 527 = none := by decide +kernel
theorem i177_528 : decode (mCd 177) 528 = .ok (.iadd, 1) ∧ lk (mMsk 177) 528 = none := by decide +kernel
theorem i177_529 : decode (mCd 177) 529 = .ok (.iaload, 1) ∧ lk (mMsk 177) 529 = none := by decide +kernel
theorem i177_530 : decode (mCd 177) 530 = .ok (.aload_n 0, 1) ∧ lk (mMsk 177) 530 = none := by decide +kernel
theorem i177_531 : decode (mCd 177) 531 = .ok (.iload_n 3, 1) ∧ lk (mMsk 177) 531 = none := by decide +kernel
theorem i177_532 : decode (mCd 177) 532 = .ok (.iconst 2, 1) ∧ lk (mMsk 177) 532 = none := by decide +kernel
theorem i177_533 : decode (mCd 177) 533 = .ok (.iadd, 1) ∧ lk (mMsk 177) 533 = none := by decide +kernel
theorem i177_534 : decode (mCd 177) 534 = .ok (.iaload, 1) ∧ lk (mMsk 177) 534 = none := by decide +kernel
theorem i177_535 : decode (mCd 177) 535 = .ok (.invokevirtual 68, 3) ∧ lk (mMsk 177) 535 = none := by decide +kernel
theorem c177_68 : cvOk 177 68 84 2 0 = true := by decide +kernel
theorem i177_538 : decode (mCd 177) 538 = .ok (.aload_n 2, 1) ∧ lk (mMsk 177) 538 = none := by decide +kernel
theorem i177_539 : decode (mCd 177) 539 = .ok (.aload_n 0, 1) ∧ lk (mMsk 177) 539 = none := by decide +kernel
theorem i177_540 : decode (mCd 177) 540 = .ok (.iload_n 3, 1) ∧ lk (mMsk 177) 540 = none := by decide +kernel
theorem i177_541 : decode (mCd 177) 541 = .ok (.iconst 1, 1) ∧ lk (mMsk 177) 541 = none := by decide +kernel
theorem i177_542 : decode (mCd 177) 542 = .ok (.iadd, 1) ∧ lk (mMsk 177) 542 = none := by decide +kernel
theorem i177_543 : decode (mCd 177) 543 = .ok (.iaload, 1) ∧ lk (mMsk 177) 543 = none := by decide +kernel
theorem i177_544 : decode (mCd 177) 544 = .ok (.aload_n 0, 1) ∧ lk (mMsk 177) 544 = none := by decide +kernel
theorem i177_545 : decode (mCd 177) 545 = .ok (.iload_n 3, 1) ∧ lk (mMsk 177) 545 = none := by decide +kernel
theorem i177_546 : decode (mCd 177) 546 = .ok (.iconst 2, 1) ∧ lk (mMsk 177) 546 = none := by decide +kernel
theorem i177_547 : decode (mCd 177) 547 = .ok (.iadd, 1) ∧ lk (mMsk 177) 547 = none := by decide +kernel
theorem i177_548 : decode (mCd 177) 548 = .ok (.iaload, 1) ∧ lk (mMsk 177) 548 = none := by decide +kernel
theorem i177_549 : decode (mCd 177) 549 = .ok (.invokevirtual 71, 3) ∧ lk (mMsk 177) 549 = none := by decide +kernel
theorem c177_71 : cvOk 177 71 133 2 0 = true := by decide +kernel
theorem i177_552 : decode (mCd 177) 552 = .ok (.if_icmp .eq 282, 3) ∧ lk (mMsk 177) 552 = none := by decide +kernel
theorem i177_555 : decode (mCd 177) 555 = .ok (.iconst 0, 1) ∧ lk (mMsk 177) 555 = none := by decide +kernel
theorem i177_556 : decode (mCd 177) 556 = .ok (.ireturn, 1) ∧ lk (mMsk 177) 556 = none := by decide +kernel
theorem i177_557 : decode (mCd 177) 557 = .ok (.aload_n 1, 1) ∧ lk (mMsk 177) 557 = none := by decide +kernel
theorem i177_558 : decode (mCd 177) 558 = .ok (.aload_n 0, 1) ∧ lk (mMsk 177) 558 = none := by decide +kernel
theorem i177_559 : decode (mCd 177) 559 = .ok (.iload_n 3, 1) ∧ lk (mMsk 177) 559 = none := by decide +kernel
theorem i177_560 : decode (mCd 177) 560 = .ok (.iconst 1, 1) ∧ lk (mMsk 177) 560 = none := by decide +kernel
theorem i177_561 : decode (mCd 177) 561 = .ok (.iadd, 1) ∧ lk (mMsk 177) 561 = none := by decide +kernel
theorem i177_562 : decode (mCd 177) 562 = .ok (.iaload, 1) ∧ lk (mMsk 177) 562 = none := by decide +kernel
theorem i177_563 : decode (mCd 177) 563 = .ok (.invokevirtual 72, 3) ∧ lk (mMsk 177) 563 = none := by decide +kernel
theorem c177_72 : cvOk 177 72 85 1 0 = true := by decide +kernel
theorem i177_566 : decode (mCd 177) 566 = .ok (.aload_n 2, 1) ∧ lk (mMsk 177) 566 = none := by decide +kernel
theorem i177_567 : decode (mCd 177) 567 = .ok (.aload_n 0, 1) ∧ lk (mMsk 177) 567 = none := by decide +kernel
theorem i177_568 : decode (mCd 177) 568 = .ok (.iload_n 3, 1) ∧ lk (mMsk 177) 568 = none := by decide +kernel
theorem i177_569 : decode (mCd 177) 569 = .ok (.iconst 1, 1) ∧ lk (mMsk 177) 569 = none := by decide +kernel
theorem i177_570 : decode (mCd 177) 570 = .ok (.iadd, 1) ∧ lk (mMsk 177) 570 = none := by decide +kernel
theorem i177_571 : decode (mCd 177) 571 = .ok (.iaload, 1) ∧ lk (mMsk 177) 571 = none := by decide +kernel
theorem i177_572 : decode (mCd 177) 572 = .ok (.invokevirtual 75, 3) ∧ lk (mMsk 177) 572 = none := by decide +kernel
theorem c177_75 : cvOk 177 75 137 1 0 = true := by decide +kernel
theorem i177_575 : decode (mCd 177) 575 = .ok (.if_icmp .eq 259, 3) ∧ lk (mMsk 177) 575 = none := by decide +kernel
theorem i177_578 : decode (mCd 177) 578 = .ok (.iconst 0, 1) ∧ lk (mMsk 177) 578 = none := by decide +kernel
theorem i177_579 : decode (mCd 177) 579 = .ok (.ireturn, 1) ∧ lk (mMsk 177) 579 = none := by decide +kernel
theorem i177_580 : decode (mCd 177) 580 = .ok (.aload_n 1, 1) ∧ lk (mMsk 177) 580 = none := by decide +kernel
theorem i177_581 : decode (mCd 177) 581 = .ok (.aload_n 0, 1) ∧ lk (mMsk 177) 581 = none := by decide +kernel
theorem i177_582 : decode (mCd 177) 582 = .ok (.iload_n 3, 1) ∧ lk (mMsk 177) 582 = none := by decide +kernel
theorem i177_583 : decode (mCd 177) 583 = .ok (.iconst 1, 1) ∧ lk (mMsk 177) 583 = none := by decide +kernel
theorem i177_584 : decode (mCd 177) 584 = .ok (.iadd, 1) ∧ lk (mMsk 177) 584 = none := by decide +kernel
theorem i177_585 : decode (mCd 177) 585 = .ok (.iaload, 1) ∧ lk (mMsk 177) 585 = none := by decide +kernel
theorem i177_586 : decode (mCd 177) 586 = .ok (.invokevirtual 76, 3) ∧ lk (mMsk 177) 586 = none := by decide +kernel
theorem c177_76 : cvOk 177 76 86 1 0 = true := by decide +kernel
theorem i177_589 : decode (mCd 177) 589 = .ok (.aload_n 2, 1) ∧ lk (mMsk 177) 589 = none := by decide +kernel
theorem i177_590 : decode (mCd 177) 590 = .ok (.aload_n 0, 1) ∧ lk (mMsk 177) 590 = none := by decide +kernel
theorem i177_591 : decode (mCd 177) 591 = .ok (.iload_n 3, 1) ∧ lk (mMsk 177) 591 = none := by decide +kernel
theorem i177_592 : decode (mCd 177) 592 = .ok (.iconst 1, 1) ∧ lk (mMsk 177) 592 = none := by decide +kernel
theorem i177_593 : decode (mCd 177) 593 = .ok (.iadd, 1) ∧ lk (mMsk 177) 593 = none := by decide +kernel
theorem i177_594 : decode (mCd 177) 594 = .ok (.iaload, 1) ∧ lk (mMsk 177) 594 = none := by decide +kernel
theorem i177_595 : decode (mCd 177) 595 = .ok (.invokevirtual 79, 3) ∧ lk (mMsk 177) 595 = none := by decide +kernel
theorem c177_79 : cvOk 177 79 143 1 0 = true := by decide +kernel
theorem i177_598 : decode (mCd 177) 598 = .ok (.if_icmp .eq 236, 3) ∧ lk (mMsk 177) 598 = none := by decide +kernel
theorem i177_601 : decode (mCd 177) 601 = .ok (.iconst 0, 1) ∧ lk (mMsk 177) 601 = none := by decide +kernel
theorem i177_602 : decode (mCd 177) 602 = .ok (.ireturn, 1) ∧ lk (mMsk 177) 602 = none := by decide +kernel
theorem i177_603 : decode (mCd 177) 603 = .ok (.aload_n 1, 1) ∧ lk (mMsk 177) 603 = none := by decide +kernel
theorem i177_604 : decode (mCd 177) 604 = .ok (.aload_n 0, 1) ∧ lk (mMsk 177) 604 = none := by decide +kernel
theorem i177_605 : decode (mCd 177) 605 = .ok (.iload_n 3, 1) ∧ lk (mMsk 177) 605 = none := by decide +kernel
theorem i177_606 : decode (mCd 177) 606 = .ok (.iconst 1, 1) ∧ lk (mMsk 177) 606 = none := by decide +kernel
theorem i177_607 : decode (mCd 177) 607 = .ok (.iadd, 1) ∧ lk (mMsk 177) 607 = none := by decide +kernel
theorem i177_608 : decode (mCd 177) 608 = .ok (.iaload, 1) ∧ lk (mMsk 177) 608 = none := by decide +kernel
theorem i177_609 : decode (mCd 177) 609 = .ok (.invokevirtual 80, 3) ∧ lk (mMsk 177) 609 = none := by decide +kernel
theorem c177_80 : cvOk 177 80 87 1 0 = true := by decide +kernel
theorem i177_612 : decode (mCd 177) 612 = .ok (.aload_n 2, 1) ∧ lk (mMsk 177) 612 = none := by decide +kernel
theorem i177_613 : decode (mCd 177) 613 = .ok (.aload_n 0, 1) ∧ lk (mMsk 177) 613 = none := by decide +kernel
theorem i177_614 : decode (mCd 177) 614 = .ok (.iload_n 3, 1) ∧ lk (mMsk 177) 614 = none := by decide +kernel
theorem i177_615 : decode (mCd 177) 615 = .ok (.iconst 1, 1) ∧ lk (mMsk 177) 615 = none := by decide +kernel
theorem i177_616 : decode (mCd 177) 616 = .ok (.iadd, 1) ∧ lk (mMsk 177) 616 = none := by decide +kernel
theorem i177_617 : decode (mCd 177) 617 = .ok (.iaload, 1) ∧ lk (mMsk 177) 617 = none := by decide +kernel
theorem i177_618 : decode (mCd 177) 618 = .ok (.invokevirtual 83, 3) ∧ lk (mMsk 177) 618 = none := by decide +kernel
theorem c177_83 : cvOk 177 83 150 1 0 = true := by decide +kernel
theorem i177_621 : decode (mCd 177) 621 = .ok (.if_icmp .eq 213, 3) ∧ lk (mMsk 177) 621 = none := by decide +kernel
theorem i177_624 : decode (mCd 177) 624 = .ok (.iconst 0, 1) ∧ lk (mMsk 177) 624 = none := by decide +kernel
theorem i177_625 : decode (mCd 177) 625 = .ok (.ireturn, 1) ∧ lk (mMsk 177) 625 = none := by decide +kernel
theorem i177_626 : decode (mCd 177) 626 = .ok (.aload_n 1, 1) ∧ lk (mMsk 177) 626 = none := by decide +kernel
theorem i177_627 : decode (mCd 177) 627 = .ok (.aload_n 0, 1) ∧ lk (mMsk 177) 627 = none := by decide +kernel
theorem i177_628 : decode (mCd 177) 628 = .ok (.iload_n 3, 1) ∧ lk (mMsk 177) 628 = none := by decide +kernel
theorem i177_629 : decode (mCd 177) 629 = .ok (.iconst 1, 1) ∧ lk (mMsk 177) 629 = none := by decide +kernel
theorem i177_630 : decode (mCd 177) 630 = .ok (.iadd, 1) ∧ lk (mMsk 177) 630 = none := by decide +kernel
theorem i177_631 : decode (mCd 177) 631 = .ok (.iaload, 1) ∧ lk (mMsk 177) 631 = none := by decide +kernel
theorem i177_632 : decode (mCd 177) 632 = .ok (.invokevirtual 84, 3) ∧ lk (mMsk 177) 632 = none := by decide +kernel
theorem c177_84 : cvOk 177 84 88 1 0 = true := by decide +kernel
theorem i177_635 : decode (mCd 177) 635 = .ok (.aload_n 2, 1) ∧ lk (mMsk 177) 635 = none := by decide +kernel
theorem i177_636 : decode (mCd 177) 636 = .ok (.aload_n 0, 1) ∧ lk (mMsk 177) 636 = none := by decide +kernel
theorem i177_637 : decode (mCd 177) 637 = .ok (.iload_n 3, 1) ∧ lk (mMsk 177) 637 = none := by decide +kernel
theorem i177_638 : decode (mCd 177) 638 = .ok (.iconst 1, 1) ∧ lk (mMsk 177) 638 = none := by decide +kernel
theorem i177_639 : decode (mCd 177) 639 = .ok (.iadd, 1) ∧ lk (mMsk 177) 639 = none := by decide +kernel
theorem i177_640 : decode (mCd 177) 640 = .ok (.iaload, 1) ∧ lk (mMsk 177) 640 = none := by decide +kernel
theorem i177_641 : decode (mCd 177) 641 = .ok (.invokevirtual 87, 3) ∧ lk (mMsk 177) 641 = none := by decide +kernel
theorem c177_87 : cvOk 177 87 152 1 0 = true := by decide +kernel
theorem i177_644 : decode (mCd 177) 644 = .ok (.if_icmp .eq 190, 3) ∧ lk (mMsk 177) 644 = none := by decide +kernel
theorem i177_647 : decode (mCd 177) 647 = .ok (.iconst 0, 1) ∧ lk (mMsk 177) 647 = none := by decide +kernel
theorem i177_648 : decode (mCd 177) 648 = .ok (.ireturn, 1) ∧ lk (mMsk 177) 648 = none := by decide +kernel
theorem i177_649 : decode (mCd 177) 649 = .ok (.aload_n 1, 1) ∧ lk (mMsk 177) 649 = none := by decide +kernel
theorem i177_650 : decode (mCd 177) 650 = .ok (.aload_n 0, 1) ∧ lk (mMsk 177) 650 = none := by decide +kernel
theorem i177_651 : decode (mCd 177) 651 = .ok (.iload_n 3, 1) ∧ lk (mMsk 177) 651 = none := by decide +kernel
theorem i177_652 : decode (mCd 177) 652 = .ok (.iconst 1, 1) ∧ lk (mMsk 177) 652 = none := by decide +kernel
theorem i177_653 : decode (mCd 177) 653 = .ok (.iadd, 1) ∧ lk (mMsk 177) 653 = none := by decide +kernel
theorem i177_654 : decode (mCd 177) 654 = .ok (.iaload, 1) ∧ lk (mMsk 177) 654 = none := by decide +kernel
theorem i177_655 : decode (mCd 177) 655 = .ok (.invokevirtual 88, 3) ∧ lk (mMsk 177) 655 = none := by decide +kernel
theorem c177_88 : cvOk 177 88 89 1 0 = true := by decide +kernel
theorem i177_658 : decode (mCd 177) 658 = .ok (.aload_n 2, 1) ∧ lk (mMsk 177) 658 = none := by decide +kernel
theorem i177_659 : decode (mCd 177) 659 = .ok (.aload_n 0, 1) ∧ lk (mMsk 177) 659 = none := by decide +kernel
theorem i177_660 : decode (mCd 177) 660 = .ok (.iload_n 3, 1) ∧ lk (mMsk 177) 660 = none := by decide +kernel
theorem i177_661 : decode (mCd 177) 661 = .ok (.iconst 1, 1) ∧ lk (mMsk 177) 661 = none := by decide +kernel
theorem i177_662 : decode (mCd 177) 662 = .ok (.iadd, 1) ∧ lk (mMsk 177) 662 = none := by decide +kernel
theorem i177_663 : decode (mCd 177) 663 = .ok (.iaload, 1) ∧ lk (mMsk 177) 663 = none := by decide +kernel
theorem i177_664 : decode (mCd 177) 664 = .ok (.invokevirtual 91, 3) ∧ lk (mMsk 177) 664 = none := by decide +kernel
theorem c177_91 : cvOk 177 91 154 1 0 = true := by decide +kernel
theorem i177_667 : decode (mCd 177) 667 = .ok (.if_icmp .eq 167, 3) ∧ lk (mMsk 177) 667 = none := by decide +kernel
theorem i177_670 : decode (mCd 177) 670 = .ok (.iconst 0, 1) ∧ lk (mMsk 177) 670 = none := by decide +kernel
theorem i177_671 : decode (mCd 177) 671 = .ok (.ireturn, 1) ∧ lk (mMsk 177) 671 = none := by decide +kernel
theorem i177_672 : decode (mCd 177) 672 = .ok (.aload_n 1, 1) ∧ lk (mMsk 177) 672 = none := by decide +kernel
theorem i177_673 : decode (mCd 177) 673 = .ok (.aload_n 0, 1) ∧ lk (mMsk 177) 673 = none := by decide +kernel
theorem i177_674 : decode (mCd 177) 674 = .ok (.iload_n 3, 1) ∧ lk (mMsk 177) 674 = none := by decide +kernel
theorem i177_675 : decode (mCd 177) 675 = .ok (.iconst 1, 1) ∧ lk (mMsk 177) 675 = none := by decide +kernel
theorem i177_676 : decode (mCd 177) 676 = .ok (.iadd, 1) ∧ lk (mMsk 177) 676 = none := by decide +kernel
theorem i177_677 : decode (mCd 177) 677 = .ok (.iaload, 1) ∧ lk (mMsk 177) 677 = none := by decide +kernel
theorem i177_678 : decode (mCd 177) 678 = .ok (.invokevirtual 92, 3) ∧ lk (mMsk 177) 678 = none := by decide +kernel
theorem c177_92 : cvOk 177 92 90 1 0 = true := by decide +kernel
theorem i177_681 : decode (mCd 177) 681 = .ok (.aload_n 2, 1) ∧ lk (mMsk 177) 681 = none := by decide +kernel
theorem i177_682 : decode (mCd 177) 682 = .ok (.aload_n 0, 1) ∧ lk (mMsk 177) 682 = none := by decide +kernel
theorem i177_683 : decode (mCd 177) 683 = .ok (.iload_n 3, 1) ∧ lk (mMsk 177) 683 = none := by decide +kernel
theorem i177_684 : decode (mCd 177) 684 = .ok (.iconst 1, 1) ∧ lk (mMsk 177) 684 = none := by decide +kernel
theorem i177_685 : decode (mCd 177) 685 = .ok (.iadd, 1) ∧ lk (mMsk 177) 685 = none := by decide +kernel
theorem i177_686 : decode (mCd 177) 686 = .ok (.iaload, 1) ∧ lk (mMsk 177) 686 = none := by decide +kernel
theorem i177_687 : decode (mCd 177) 687 = .ok (.invokevirtual 95, 3) ∧ lk (mMsk 177) 687 = none := by decide +kernel
theorem c177_95 : cvOk 177 95 158 1 0 = true := by decide +kernel
theorem i177_690 : decode (mCd 177) 690 = .ok (.if_icmp .eq 144, 3) ∧ lk (mMsk 177) 690 = none := by decide +kernel
theorem i177_693 : decode (mCd 177) 693 = .ok (.iconst 0, 1) ∧ lk (mMsk 177) 693 = none := by decide +kernel
theorem i177_694 : decode (mCd 177) 694 = .ok (.ireturn, 1) ∧ lk (mMsk 177) 694 = none := by decide +kernel
theorem i177_695 : decode (mCd 177) 695 = .ok (.aload_n 1, 1) ∧ lk (mMsk 177) 695 = none := by decide +kernel
theorem i177_696 : decode (mCd 177) 696 = .ok (.aload_n 0, 1) ∧ lk (mMsk 177) 696 = none := by decide +kernel
theorem i177_697 : decode (mCd 177) 697 = .ok (.iload_n 3, 1) ∧ lk (mMsk 177) 697 = none := by decide +kernel
theorem i177_698 : decode (mCd 177) 698 = .ok (.iconst 1, 1) ∧ lk (mMsk 177) 698 = none := by decide +kernel
theorem i177_699 : decode (mCd 177) 699 = .ok (.iadd, 1) ∧ lk (mMsk 177) 699 = none := by decide +kernel
theorem i177_700 : decode (mCd 177) 700 = .ok (.iaload, 1) ∧ lk (mMsk 177) 700 = none := by decide +kernel
theorem i177_701 : decode (mCd 177) 701 = .ok (.aload_n 0, 1) ∧ lk (mMsk 177) 701 = none := by decide +kernel
theorem i177_702 : decode (mCd 177) 702 = .ok (.iload_n 3, 1) ∧ lk (mMsk 177) 702 = none := by decide +kernel
theorem i177_703 : decode (mCd 177) 703 = .ok (.iconst 2, 1) ∧ lk (mMsk 177) 703 = none := by decide +kernel
theorem i177_704 : decode (mCd 177) 704 = .ok (.iadd, 1) ∧ lk (mMsk 177) 704 = none := by decide +kernel
theorem i177_705 : decode (mCd 177) 705 = .ok (.iaload, 1) ∧ lk (mMsk 177) 705 = none := by decide +kernel
theorem i177_706 : decode (mCd 177) 706 = .ok (.invokevirtual 96, 3) ∧ lk (mMsk 177) 706 = none := by decide +kernel
theorem c177_96 : cvOk 177 96 91 2 0 = true := by decide +kernel
theorem i177_709 : decode (mCd 177) 709 = .ok (.aload_n 2, 1) ∧ lk (mMsk 177) 709 = none := by decide +kernel
theorem i177_710 : decode (mCd 177) 710 = .ok (.aload_n 0, 1) ∧ lk (mMsk 177) 710 = none := by decide +kernel
theorem i177_711 : decode (mCd 177) 711 = .ok (.iload_n 3, 1) ∧ lk (mMsk 177) 711 = none := by decide +kernel
theorem i177_712 : decode (mCd 177) 712 = .ok (.iconst 1, 1) ∧ lk (mMsk 177) 712 = none := by decide +kernel
theorem i177_713 : decode (mCd 177) 713 = .ok (.iadd, 1) ∧ lk (mMsk 177) 713 = none := by decide +kernel
theorem i177_714 : decode (mCd 177) 714 = .ok (.iaload, 1) ∧ lk (mMsk 177) 714 = none := by decide +kernel
theorem i177_715 : decode (mCd 177) 715 = .ok (.aload_n 0, 1) ∧ lk (mMsk 177) 715 = none := by decide +kernel
theorem i177_716 : decode (mCd 177) 716 = .ok (.iload_n 3, 1) ∧ lk (mMsk 177) 716 = none := by decide +kernel
theorem i177_717 : decode (mCd 177) 717 = .ok (.iconst 2, 1) ∧ lk (mMsk 177) 717 = none := by decide +kernel
theorem i177_718 : decode (mCd 177) 718 = .ok (.iadd, 1) ∧ lk (mMsk 177) 718 = none := by decide +kernel
theorem i177_719 : decode (mCd 177) 719 = .ok (.iaload, 1) ∧ lk (mMsk 177) 719 = none := by decide +kernel
theorem i177_720 : decode (mCd 177) 720 = .ok (.invokevirtual 99, 3) ∧ lk (mMsk 177) 720 = none := by decide +kernel
theorem c177_99 : cvOk 177 99 160 2 0 = true := by decide +kernel
theorem i177_723 : decode (mCd 177) 723 = .ok (.if_icmp .eq 111, 3) ∧ lk (mMsk 177) 723 = none := by decide +kernel
theorem i177_726 : decode (mCd 177) 726 = .ok (.iconst 0, 1) ∧ lk (mMsk 177) 726 = none := by decide +kernel
theorem i177_727 : decode (mCd 177) 727 = .ok (.ireturn, 1) ∧ lk (mMsk 177) 727 = none := by decide +kernel
theorem i177_728 : decode (mCd 177) 728 = .ok (.aload_n 1, 1) ∧ lk (mMsk 177) 728 = none := by decide +kernel
theorem i177_729 : decode (mCd 177) 729 = .ok (.aload_n 0, 1) ∧ lk (mMsk 177) 729 = none := by decide +kernel
theorem i177_730 : decode (mCd 177) 730 = .ok (.iload_n 3, 1) ∧ lk (mMsk 177) 730 = none := by decide +kernel
theorem i177_731 : decode (mCd 177) 731 = .ok (.iconst 1, 1) ∧ lk (mMsk 177) 731 = none := by decide +kernel
theorem i177_732 : decode (mCd 177) 732 = .ok (.iadd, 1) ∧ lk (mMsk 177) 732 = none := by decide +kernel
theorem i177_733 : decode (mCd 177) 733 = .ok (.iaload, 1) ∧ lk (mMsk 177) 733 = none := by decide +kernel
theorem i177_734 : decode (mCd 177) 734 = .ok (.aload_n 0, 1) ∧ lk (mMsk 177) 734 = none := by decide +kernel
theorem i177_735 : decode (mCd 177) 735 = .ok (.iload_n 3, 1) ∧ lk (mMsk 177) 735 = none := by decide +kernel
theorem i177_736 : decode (mCd 177) 736 = .ok (.iconst 2, 1) ∧ lk (mMsk 177) 736 = none := by decide +kernel
theorem i177_737 : decode (mCd 177) 737 = .ok (.iadd, 1) ∧ lk (mMsk 177) 737 = none := by decide +kernel
theorem i177_738 : decode (mCd 177) 738 = .ok (.iaload, 1) ∧ lk (mMsk 177) 738 = none := by decide +kernel
theorem i177_739 : decode (mCd 177) 739 = .ok (.aload_n 0, 1) ∧ lk (mMsk 177) 739 = none := by decide +kernel
theorem i177_740 : decode (mCd 177) 740 = .ok (.iload_n 3, 1) ∧ lk (mMsk 177) 740 = none := by decide +kernel
theorem i177_741 : decode (mCd 177) 741 = .ok (.iconst 3, 1) ∧ lk (mMsk 177) 741 = none := by decide +kernel
theorem i177_742 : decode (mCd 177) 742 = .ok (.iadd, 1) ∧ lk (mMsk 177) 742 = none := by decide +kernel
theorem i177_743 : decode (mCd 177) 743 = .ok (.iaload, 1) ∧ lk (mMsk 177) 743 = none := by decide +kernel
theorem i177_744 : decode (mCd 177) 744 = .ok (.invokevirtual 100, 3) ∧ lk (mMsk 177) 744 = none := by decide +kernel
theorem c177_100 : cvOk 177 100 92 3 0 = true := by decide +kernel
theorem i177_747 : decode (mCd 177) 747 = .ok (.aload_n 2, 1) ∧ lk (mMsk 177) 747 = none := by decide +kernel
theorem i177_748 : decode (mCd 177) 748 = .ok (.aload_n 0, 1) ∧ lk (mMsk 177) 748 = none := by decide +kernel
theorem i177_749 : decode (mCd 177) 749 = .ok (.iload_n 3, 1) ∧ lk (mMsk 177) 749 = none := by decide +kernel
theorem i177_750 : decode (mCd 177) 750 = .ok (.iconst 1, 1) ∧ lk (mMsk 177) 750 = none := by decide +kernel
theorem i177_751 : decode (mCd 177) 751 = .ok (.iadd, 1) ∧ lk (mMsk 177) 751 = none := by decide +kernel
theorem i177_752 : decode (mCd 177) 752 = .ok (.iaload, 1) ∧ lk (mMsk 177) 752 = none := by decide +kernel
theorem i177_753 : decode (mCd 177) 753 = .ok (.aload_n 0, 1) ∧ lk (mMsk 177) 753 = none := by decide +kernel
theorem i177_754 : decode (mCd 177) 754 = .ok (.iload_n 3, 1) ∧ lk (mMsk 177) 754 = none := by decide +kernel
theorem i177_755 : decode (mCd 177) 755 = .ok (.iconst 2, 1) ∧ lk (mMsk 177) 755 = none := by decide +kernel
theorem i177_756 : decode (mCd 177) 756 = .ok (.iadd, 1) ∧ lk (mMsk 177) 756 = none := by decide +kernel
theorem i177_757 : decode (mCd 177) 757 = .ok (.iaload, 1) ∧ lk (mMsk 177) 757 = none := by decide +kernel
theorem i177_758 : decode (mCd 177) 758 = .ok (.aload_n 0, 1) ∧ lk (mMsk 177) 758 = none := by decide +kernel
theorem i177_759 : decode (mCd 177) 759 = .ok (.iload_n 3, 1) ∧ lk (mMsk 177) 759 = none := by decide +kernel
theorem i177_760 : decode (mCd 177) 760 = .ok (.iconst 3, 1) ∧ lk (mMsk 177) 760 = none := by decide +kernel
theorem i177_761 : decode (mCd 177) 761 = .ok (.iadd, 1) ∧ lk (mMsk 177) 761 = none := by decide +kernel
theorem i177_762 : decode (mCd 177) 762 = .ok (.iaload, 1) ∧ lk (mMsk 177) 762 = none := by decide +kernel
theorem i177_763 : decode (mCd 177) 763 = .ok (.invokevirtual 104, 3) ∧ lk (mMsk 177) 763 = none := by decide +kernel
theorem c177_104 : cvOk 177 104 166 3 0 = true := by decide +kernel
theorem i177_766 : decode (mCd 177) 766 = .ok (.if_icmp .eq 68, 3) ∧ lk (mMsk 177) 766 = none := by decide +kernel
theorem i177_769 : decode (mCd 177) 769 = .ok (.iconst 0, 1) ∧ lk (mMsk 177) 769 = none := by decide +kernel
theorem i177_770 : decode (mCd 177) 770 = .ok (.ireturn, 1) ∧ lk (mMsk 177) 770 = none := by decide +kernel
theorem i177_771 : decode (mCd 177) 771 = .ok (.aload_n 1, 1) ∧ lk (mMsk 177) 771 = none := by decide +kernel
theorem i177_772 : decode (mCd 177) 772 = .ok (.invokevirtual 105, 3) ∧ lk (mMsk 177) 772 = none := by decide +kernel
theorem c177_105 : cvOk 177 105 93 0 0 = true := by decide +kernel
theorem i177_775 : decode (mCd 177) 775 = .ok (.aload_n 2, 1) ∧ lk (mMsk 177) 775 = none := by decide +kernel
theorem i177_776 : decode (mCd 177) 776 = .ok (.invokevirtual 108, 3) ∧ lk (mMsk 177) 776 = none := by decide +kernel
theorem c177_108 : cvOk 177 108 167 0 0 = true := by decide +kernel
theorem i177_779 : decode (mCd 177) 779 = .ok (.if_icmp .eq 55, 3) ∧ lk (mMsk 177) 779 = none := by decide +kernel
theorem i177_782 : decode (mCd 177) 782 = .ok (.iconst 0, 1) ∧ lk (mMsk 177) 782 = none := by decide +kernel
theorem i177_783 : decode (mCd 177) 783 = .ok (.ireturn, 1) ∧ lk (mMsk 177) 783 = none := by decide +kernel
theorem i177_784 : decode (mCd 177) 784 = .ok (.aload_n 1, 1) ∧ lk (mMsk 177) 784 = none := by decide +kernel
theorem i177_785 : decode (mCd 177) 785 = .ok (.invokevirtual 109, 3) ∧ lk (mMsk 177) 785 = none := by decide +kernel
theorem c177_109 : cvOk 177 109 94 0 0 = true := by decide +kernel
theorem i177_788 : decode (mCd 177) 788 = .ok (.aload_n 2, 1) ∧ lk (mMsk 177) 788 = none := by decide +kernel
theorem i177_789 : decode (mCd 177) 789 = .ok (.invokevirtual 112, 3) ∧ lk (mMsk 177) 789 = none := by decide +kernel
theorem c177_112 : cvOk 177 112 168 0 0 = true := by decide +kernel
theorem i177_792 : decode (mCd 177) 792 = .ok (.if_icmp .eq 42, 3) ∧ lk (mMsk 177) 792 = none := by decide +kernel
theorem i177_795 : decode (mCd 177) 795 = .ok (.iconst 0, 1) ∧ lk (mMsk 177) 795 = none := by decide +kernel
theorem i177_796 : decode (mCd 177) 796 = .ok (.ireturn, 1) ∧ lk (mMsk 177) 796 = none := by decide +kernel
theorem i177_797 : decode (mCd 177) 797 = .ok (.aload_n 1, 1) ∧ lk (mMsk 177) 797 = none := by decide +kernel
theorem i177_798 : decode (mCd 177) 798 = .ok (.aload_n 0, 1) ∧ lk (mMsk 177) 798 = none := by decide +kernel
theorem i177_799 : decode (mCd 177) 799 = .ok (.iload_n 3, 1) ∧ lk (mMsk 177) 799 = none := by decide +kernel
theorem i177_800 : decode (mCd 177) 800 = .ok (.iconst 1, 1) ∧ lk (mMsk 177) 800 = none := by decide +kernel
theorem i177_801 : decode (mCd 177) 801 = .ok (.iadd, 1) ∧ lk (mMsk 177) 801 = none := by decide +kernel
theorem i177_802 : decode (mCd 177) 802 = .ok (.iaload, 1) ∧ lk (mMsk 177) 802 = none := by decide +kernel
theorem i177_803 : decode (mCd 177) 803 = .ok (.invokevirtual 113, 3) ∧ lk (mMsk 177) 803 = none := by decide +kernel
theorem c177_113 : cvOk 177 113 95 1 0 = true := by decide +kernel
theorem i177_806 : decode (mCd 177) 806 = .ok (.aload_n 2, 1) ∧ lk (mMsk 177) 806 = none := by decide +kernel
theorem i177_807 : decode (mCd 177) 807 = .ok (.aload_n 0, 1) ∧ lk (mMsk 177) 807 = none := by decide +kernel
theorem i177_808 : decode (mCd 177) 808 = .ok (.iload_n 3, 1) ∧ lk (mMsk 177) 808 = none := by decide +kernel
theorem i177_809 : decode (mCd 177) 809 = .ok (.iconst 1, 1) ∧ lk (mMsk 177) 809 = none := by decide +kernel
theorem i177_810 : decode (mCd 177) 810 = .ok (.iadd, 1) ∧ lk (mMsk 177) 810 = none := by decide +kernel
theorem i177_811 : decode (mCd 177) 811 = .ok (.iaload, 1) ∧ lk (mMsk 177) 811 = none := by decide +kernel
theorem i177_812 : decode (mCd 177) 812 = .ok (.invokevirtual 116, 3) ∧ lk (mMsk 177) 812 = none := by decide +kernel
theorem c177_116 : cvOk 177 116 171 1 0 = true := by decide +kernel
theorem i177_815 : decode (mCd 177) 815 = .ok (.if_icmp .eq 19, 3) ∧ lk (mMsk 177) 815 = none := by decide +kernel
theorem i177_818 : decode (mCd 177) 818 = .ok (.iconst 0, 1) ∧ lk (mMsk 177) 818 = none := by decide +kernel
theorem i177_819 : decode (mCd 177) 819 = .ok (.ireturn, 1) ∧ lk (mMsk 177) 819 = none := by decide +kernel
theorem i177_820 : decode (mCd 177) 820 = .ok (.aload_n 1, 1) ∧ lk (mMsk 177) 820 = none := by decide +kernel
theorem i177_821 : decode (mCd 177) 821 = .ok (.invokevirtual 117, 3) ∧ lk (mMsk 177) 821 = none := by decide +kernel
theorem c177_117 : cvOk 177 117 96 0 1 = true := by decide +kernel
theorem i177_824 : decode (mCd 177) 824 = .ok (.aload_n 2, 1) ∧ lk (mMsk 177) 824 = none := by decide +kernel
theorem i177_825 : decode (mCd 177) 825 = .ok (.invokevirtual 121, 3) ∧ lk (mMsk 177) 825 = none := by decide +kernel
theorem c177_121 : cvOk 177 121 174 0 1 = true := by decide +kernel
theorem i177_828 : decode (mCd 177) 828 = .ok (.lcmp, 1) ∧ lk (mMsk 177) 828 = none := by decide +kernel
theorem i177_829 : decode (mCd 177) 829 = .ok (.ifCond .eq 5, 3) ∧ lk (mMsk 177) 829 = none := by decide +kernel
theorem i177_832 : decode (mCd 177) 832 = .ok (.iconst 0, 1) ∧ lk (mMsk 177) 832 = none := by decide +kernel
theorem i177_833 : decode (mCd 177) 833 = .ok (.ireturn, 1) ∧ lk (mMsk 177) 833 = none := by decide +kernel
theorem i177_837 : decode (mCd 177) 837 = .ok (.goto (-819), 3) ∧ lk (mMsk 177) 837 = none := by decide +kernel
theorem k_Law_law_18_eq (X : mX) {x3 : Int32} (hX : ¬ X.1 = 0) {S : Mem} : k_Law_law_18 X x3 S = if ((Int32.ofNat (X.1 - 1)) - 5) < x3 then some (1, S) else if inb x3 (X.1 - 1) = true then if ((X.2 x3.toNatClampNeg) &&& 31) = 0 then if inb (x3 + 1) (X.1 - 1) = true then if inb (x3 + 2) (X.1 - 1) = true then bI (gI X 72 [some (.ref 0), some (.long ((((X.2 (x3 + 1).toNatClampNeg).toInt64) <<< ((32 : Int32).toInt64 &&& 63)) ||| (((X.2 (x3 + 2).toNatClampNeg).toInt64) &&& 4294967295))), none, none] S) (fun r102 S101 => if inb (x3 + 1) (X.1 - 1) = true then if inb (x3 + 2) (X.1 - 1) = true then bI (gI X 109 [some (.ref 55), some (.long ((((X.2 (x3 + 1).toNatClampNeg).toInt64) <<< ((32 : Int32).toInt64 &&& 63)) ||| (((X.2 (x3 + 2).toNatClampNeg).toInt64) &&& 4294967295))), none, none, none, none, none] S101) (fun r104 S103 => if r102 = r104 then k_Law_law_834 X x3 S103 else some (0, S103)) else none else none) else none else none else if ((X.2 x3.toNatClampNeg) &&& 31) = 1 then bI (gI X 73 [some (.ref 0), none] S) (fun r106 S105 => bI (gI X 110 [some (.ref 55), none] S105) (fun r108 S107 => if r106 = r108 then k_Law_law_834 X x3 S107 else some (0, S107))) else if ((X.2 x3.toNatClampNeg) &&& 31) = 2 then if inb (x3 + 1) (X.1 - 1) = true then bI (gI X 74 [some (.ref 0), some (.int (X.2 (x3 + 1).toNatClampNeg))] S) (fun r110 S109 => if inb (x3 + 1) (X.1 - 1) = true then bI (gI X 116 [some (.ref 55), some (.int (X.2 (x3 + 1).toNatClampNeg))] S109) (fun r112 S111 => if r110 = r112 then k_Law_law_834 X x3 S111 else some (0, S111)) else none) else none else if ((X.2 x3.toNatClampNeg) &&& 31) = 3 then bI (gI X 75 [some (.ref 0)] S) (fun r114 S113 => bI (gI X 117 [some (.ref 55), none] S113) (fun r116 S115 => if r114 = r116 then k_Law_law_834 X x3 S115 else some (0, S115))) else if ((X.2 x3.toNatClampNeg) &&& 31) = 4 then if inb (x3 + 1) (X.1 - 1) = true then if inb (x3 + 2) (X.1 - 1) = true then bI (gI X 76 [some (.ref 0), some (.int (X.2 (x3 + 1).toNatClampNeg)), some (.int (X.2 (x3 + 2).toNatClampNeg))] S) (fun r118 S117 => if inb (x3 + 1) (X.1 - 1) = true then if inb (x3 + 2) (X.1 - 1) = true then bI (gI X 119 [some (.ref 55), some (.int (X.2 (x3 + 1).toNatClampNeg)), some (.int (X.2 (x3 + 2).toNatClampNeg))] S117) (fun r120 S119 => if r118 = r120 then k_Law_law_834 X x3 S119 else some (0, S119)) else none else none) else none else none else if ((X.2 x3.toNatClampNeg) &&& 31) = 5 then if inb (x3 + 1) (X.1 - 1) = true then if inb (x3 + 2) (X.1 - 1) = true then if inb (x3 + 3) (X.1 - 1) = true then if inb (x3 + 4) (X.1 - 1) = true then bI (gI X 77 [some (.ref 0), some (.int (X.2 (x3 + 1).toNatClampNeg)), some (.int (X.2 (x3 + 2).toNatClampNeg)), some (.int (X.2 (x3 + 3).toNatClampNeg)), some (.int (X.2 (x3 + 4).toNatClampNeg))] S) (fun r122 S121 => if inb (x3 + 1) (X.1 - 1) = true then if inb (x3 + 2) (X.1 - 1) = true then if inb (x3 + 3) (X.1 - 1) = true then if inb (x3 + 4) (X.1 - 1) = true then bI (gI X 122 [some (.ref 55), some (.int (X.2 (x3 + 1).toNatClampNeg)), some (.int (X.2 (x3 + 2).toNatClampNeg)), some (.int (X.2 (x3 + 3).toNatClampNeg)), some (.int (X.2 (x3 + 4).toNatClampNeg))] S121) (fun r124 S123 => if r122 = r124 then k_Law_law_834 X x3 S123 else some (0, S123)) else none else none else none else none) else none else none else none else none else if ((X.2 x3.toNatClampNeg) &&& 31) = 6 then if inb (x3 + 1) (X.1 - 1) = true then if inb (x3 + 2) (X.1 - 1) = true then bI (gI X 78 [some (.ref 0), some (.int (X.2 (x3 + 1).toNatClampNeg)), some (.int (X.2 (x3 + 2).toNatClampNeg)), none] S) (fun r126 S125 => if inb (x3 + 1) (X.1 - 1) = true then if inb (x3 + 2) (X.1 - 1) = true then bI (gI X 126 [some (.ref 55), some (.int (X.2 (x3 + 1).toNatClampNeg)), some (.int (X.2 (x3 + 2).toNatClampNeg))] S125) (fun r128 S127 => if r126 = r128 then k_Law_law_834 X x3 S127 else some (0, S127)) else none else none) else none else none else if ((X.2 x3.toNatClampNeg) &&& 31) = 7 then if inb (x3 + 1) (X.1 - 1) = true then if inb (x3 + 2) (X.1 - 1) = true then bI (gI X 79 [some (.ref 0), some (.int (X.2 (x3 + 1).toNatClampNeg)), some (.int (X.2 (x3 + 2).toNatClampNeg)), none] S) (fun r130 S129 => if inb (x3 + 1) (X.1 - 1) = true then if inb (x3 + 2) (X.1 - 1) = true then bI (gI X 127 [some (.ref 55), some (.int (X.2 (x3 + 1).toNatClampNeg)), some (.int (X.2 (x3 + 2).toNatClampNeg)), none] S129) (fun r132 S131 => if r130 = r132 then k_Law_law_834 X x3 S131 else some (0, S131)) else none else none) else none else none else if ((X.2 x3.toNatClampNeg) &&& 31) = 8 then if inb (x3 + 1) (X.1 - 1) = true then bI (gI X 80 [some (.ref 0), some (.int (X.2 (x3 + 1).toNatClampNeg)), none] S) (fun r134 S133 => if inb (x3 + 1) (X.1 - 1) = true then bI (gI X 128 [some (.ref 55), some (.int (X.2 (x3 + 1).toNatClampNeg)), none, none, none, none] S133) (fun r136 S135 => if r134 = r136 then k_Law_law_834 X x3 S135 else some (0, S135)) else none) else none else if ((X.2 x3.toNatClampNeg) &&& 31) = 9 then if inb (x3 + 1) (X.1 - 1) = true then if inb (x3 + 2) (X.1 - 1) = true then bI (gI X 81 [some (.ref 0), some (.int (X.2 (x3 + 1).toNatClampNeg)), some (.int (X.2 (x3 + 2).toNatClampNeg)), none, none] S) (fun r138 S137 => if inb (x3 + 1) (X.1 - 1) = true then if inb (x3 + 2) (X.1 - 1) = true then bI (gI X 129 [some (.ref 55), some (.int (X.2 (x3 + 1).toNatClampNeg)), some (.int (X.2 (x3 + 2).toNatClampNeg)), none] S137) (fun r140 S139 => if r138 = r140 then k_Law_law_834 X x3 S139 else some (0, S139)) else none else none) else none else none else if ((X.2 x3.toNatClampNeg) &&& 31) = 10 then if inb (x3 + 1) (X.1 - 1) = true then if inb (x3 + 2) (X.1 - 1) = true then bI (gI X 82 [some (.ref 0), some (.int (X.2 (x3 + 1).toNatClampNeg)), some (.int (X.2 (x3 + 2).toNatClampNeg))] S) (fun r142 S141 => if inb (x3 + 1) (X.1 - 1) = true then if inb (x3 + 2) (X.1 - 1) = true then bI (gI X 131 [some (.ref 55), some (.int (X.2 (x3 + 1).toNatClampNeg)), some (.int (X.2 (x3 + 2).toNatClampNeg))] S141) (fun r144 S143 => if r142 = r144 then k_Law_law_834 X x3 S143 else some (0, S143)) else none else none) else none else none else if ((X.2 x3.toNatClampNeg) &&& 31) = 11 then if inb (x3 + 1) (X.1 - 1) = true then if inb (x3 + 2) (X.1 - 1) = true then bI (gI X 83 [some (.ref 0), some (.int (X.2 (x3 + 1).toNatClampNeg)), some (.int (X.2 (x3 + 2).toNatClampNeg)), none] S) (fun r146 S145 => if inb (x3 + 1) (X.1 - 1) = true then if inb (x3 + 2) (X.1 - 1) = true then bI (gI X 132 [some (.ref 55), some (.int (X.2 (x3 + 1).toNatClampNeg)), some (.int (X.2 (x3 + 2).toNatClampNeg)), none] S145) (fun r148 S147 => if r146 = r148 then k_Law_law_834 X x3 S147 else some (0, S147)) else none else none) else none else none else if ((X.2 x3.toNatClampNeg) &&& 31) = 12 then if inb (x3 + 1) (X.1 - 1) = true then if inb (x3 + 2) (X.1 - 1) = true then bI (gI X 84 [some (.ref 0), some (.int (X.2 (x3 + 1).toNatClampNeg)), some (.int (X.2 (x3 + 2).toNatClampNeg)), none, none, none] S) (fun r150 S149 => if inb (x3 + 1) (X.1 - 1) = true then if inb (x3 + 2) (X.1 - 1) = true then bI (gI X 133 [some (.ref 55), some (.int (X.2 (x3 + 1).toNatClampNeg)), some (.int (X.2 (x3 + 2).toNatClampNeg)), none, none] S149) (fun r152 S151 => if r150 = r152 then k_Law_law_834 X x3 S151 else some (0, S151)) else none else none) else none else none else if ((X.2 x3.toNatClampNeg) &&& 31) = 13 then if inb (x3 + 1) (X.1 - 1) = true then bI (gI X 85 [some (.ref 0), some (.int (X.2 (x3 + 1).toNatClampNeg)), none, none] S) (fun r154 S153 => if inb (x3 + 1) (X.1 - 1) = true then bI (gI X 137 [some (.ref 55), some (.int (X.2 (x3 + 1).toNatClampNeg)), none, none] S153) (fun r156 S155 => if r154 = r156 then k_Law_law_834 X x3 S155 else some (0, S155)) else none) else none else if ((X.2 x3.toNatClampNeg) &&& 31) = 14 then if inb (x3 + 1) (X.1 - 1) = true then bI (gI X 86 [some (.ref 0), some (.int (X.2 (x3 + 1).toNatClampNeg)), none] S) (fun r158 S157 => if inb (x3 + 1) (X.1 - 1) = true then bI (gI X 143 [some (.ref 55), some (.int (X.2 (x3 + 1).toNatClampNeg))] S157) (fun r160 S159 => if r158 = r160 then k_Law_law_834 X x3 S159 else some (0, S159)) else none) else none else if ((X.2 x3.toNatClampNeg) &&& 31) = 15 then if inb (x3 + 1) (X.1 - 1) = true then bI (gI X 87 [some (.ref 0), some (.int (X.2 (x3 + 1).toNatClampNeg)), none] S) (fun r162 S161 => if inb (x3 + 1) (X.1 - 1) = true then bI (gI X 150 [some (.ref 55), some (.int (X.2 (x3 + 1).toNatClampNeg))] S161) (fun r164 S163 => if r162 = r164 then k_Law_law_834 X x3 S163 else some (0, S163)) else none) else none else if ((X.2 x3.toNatClampNeg) &&& 31) = 16 then if inb (x3 + 1) (X.1 - 1) = true then bI (gI X 88 [some (.ref 0), some (.int (X.2 (x3 + 1).toNatClampNeg))] S) (fun r166 S165 => if inb (x3 + 1) (X.1 - 1) = true then bI (gI X 152 [some (.ref 55), some (.int (X.2 (x3 + 1).toNatClampNeg))] S165) (fun r168 S167 => if r166 = r168 then k_Law_law_834 X x3 S167 else some (0, S167)) else none) else none else if ((X.2 x3.toNatClampNeg) &&& 31) = 17 then if inb (x3 + 1) (X.1 - 1) = true then bI (gI X 89 [some (.ref 0), some (.int (X.2 (x3 + 1).toNatClampNeg))] S) (fun r170 S169 => if inb (x3 + 1) (X.1 - 1) = true then bI (gI X 154 [some (.ref 55), some (.int (X.2 (x3 + 1).toNatClampNeg))] S169) (fun r172 S171 => if r170 = r172 then k_Law_law_834 X x3 S171 else some (0, S171)) else none) else none else if ((X.2 x3.toNatClampNeg) &&& 31) = 18 then if inb (x3 + 1) (X.1 - 1) = true then bI (gI X 90 [some (.ref 0), some (.int (X.2 (x3 + 1).toNatClampNeg))] S) (fun r174 S173 => if inb (x3 + 1) (X.1 - 1) = true then bI (gI X 158 [some (.ref 55), some (.int (X.2 (x3 + 1).toNatClampNeg))] S173) (fun r176 S175 => if r174 = r176 then k_Law_law_834 X x3 S175 else some (0, S175)) else none) else none else if ((X.2 x3.toNatClampNeg) &&& 31) = 19 then if inb (x3 + 1) (X.1 - 1) = true then if inb (x3 + 2) (X.1 - 1) = true then bI (gI X 91 [some (.ref 0), some (.int (X.2 (x3 + 1).toNatClampNeg)), some (.int (X.2 (x3 + 2).toNatClampNeg))] S) (fun r178 S177 => if inb (x3 + 1) (X.1 - 1) = true then if inb (x3 + 2) (X.1 - 1) = true then bI (gI X 160 [some (.ref 55), some (.int (X.2 (x3 + 1).toNatClampNeg)), some (.int (X.2 (x3 + 2).toNatClampNeg))] S177) (fun r180 S179 => if r178 = r180 then k_Law_law_834 X x3 S179 else some (0, S179)) else none else none) else none else none else if ((X.2 x3.toNatClampNeg) &&& 31) = 20 then if inb (x3 + 1) (X.1 - 1) = true then if inb (x3 + 2) (X.1 - 1) = true then if inb (x3 + 3) (X.1 - 1) = true then bI (gI X 92 [some (.ref 0), some (.int (X.2 (x3 + 1).toNatClampNeg)), some (.int (X.2 (x3 + 2).toNatClampNeg)), some (.int (X.2 (x3 + 3).toNatClampNeg)), none, none] S) (fun r182 S181 => if inb (x3 + 1) (X.1 - 1) = true then if inb (x3 + 2) (X.1 - 1) = true then if inb (x3 + 3) (X.1 - 1) = true then bI (gI X 166 [some (.ref 55), some (.int (X.2 (x3 + 1).toNatClampNeg)), some (.int (X.2 (x3 + 2).toNatClampNeg)), some (.int (X.2 (x3 + 3).toNatClampNeg))] S181) (fun r184 S183 => if r182 = r184 then k_Law_law_834 X x3 S183 else some (0, S183)) else none else none else none) else none else none else none else if ((X.2 x3.toNatClampNeg) &&& 31) = 21 then bI (gI X 93 [some (.ref 0)] S) (fun r186 S185 => bI (gI X 167 [some (.ref 55), none] S185) (fun r188 S187 => if r186 = r188 then k_Law_law_834 X x3 S187 else some (0, S187))) else if ((X.2 x3.toNatClampNeg) &&& 31) = 22 then bI (gI X 94 [some (.ref 0)] S) (fun r190 S189 => bI (gI X 168 [some (.ref 55), none] S189) (fun r192 S191 => if r190 = r192 then k_Law_law_834 X x3 S191 else some (0, S191))) else if ((X.2 x3.toNatClampNeg) &&& 31) = 23 then if inb (x3 + 1) (X.1 - 1) = true then bI (gI X 95 [some (.ref 0), some (.int (X.2 (x3 + 1).toNatClampNeg))] S) (fun r194 S193 => if inb (x3 + 1) (X.1 - 1) = true then bI (gI X 171 [some (.ref 55), some (.int (X.2 (x3 + 1).toNatClampNeg))] S193) (fun r196 S195 => if r194 = r196 then k_Law_law_834 X x3 S195 else some (0, S195)) else none) else none else if ((X.2 x3.toNatClampNeg) &&& 31) = 24 then bJ (gJ X 96 [some (.ref 0), none, none, none, none] S) (fun r198 S197 => bJ (gJ X 174 [some (.ref 55), none, none] S197) (fun r200 S199 => if (lg_cmp r198 r200) = 0 then k_Law_law_834 X x3 S199 else some (0, S199))) else k_Law_law_834 X x3 S else none := by
  show cI (mV oS X 177 18 [some (.ref mSid), some (.ref 0), some (.ref 55), some (.int x3)] [] S) = _
  refine V_iload_n (c := cI) i177_18.1 (mM_s i177_18.2 rfl) rfl ?_
  refine V_aload_n (c := cI) i177_19.1 (mM_n i177_19.2) rfl rfl ?_
  refine V_slen (c := cI) i177_20.1 (mM_n i177_20.2) hX rfl ?_
  refine V_iconst (c := cI) i177_21.1 (mM_n i177_21.2) (v := 5) rfl ?_
  refine V_isub (c := cI) i177_22.1 (mM_n i177_22.2)  ?_
  refine V_icmp_gt (c := cI) i177_23.1 (mM_n i177_23.2) rfl (fun _ => ?_) (fun _ => ?_)
  · refine V_iconst (c := cI) i177_840.1 (mM_n i177_840.2) (v := 1) rfl ?_
    exact V_iret i177_841.1 (mM_n i177_841.2) rfl
  · refine V_aload_n (c := cI) i177_26.1 (mM_n i177_26.2) rfl rfl ?_
    refine V_iload_n (c := cI) i177_27.1 (mM_n i177_27.2) rfl ?_
    refine V_sload (c := cI) i177_28.1 (mM_n i177_28.2) rfl (fun _ => ?_)
    refine V_bipush (c := cI) i177_29.1 (mM_n i177_29.2) (v := 31) rfl ?_
    refine V_iand (c := cI) i177_31.1 (mM_n i177_31.2)  ?_
    refine V_ite (fun hc0 => ?_) (fun hc0 => ?_)
    · refine V_sw (c := cI) i177_32.1 (mM_n i177_32.2) (o := 116) (by rw [hc0]; rfl) rfl ?_
      refine V_aload_n (c := cI) i177_148.1 (mM_n i177_148.2) rfl rfl ?_
      refine V_aload_n (c := cI) i177_149.1 (mM_n i177_149.2) rfl rfl ?_
      refine V_iload_n (c := cI) i177_150.1 (mM_n i177_150.2) rfl ?_
      refine V_iconst (c := cI) i177_151.1 (mM_n i177_151.2) (v := 1) rfl ?_
      refine V_iadd (c := cI) i177_152.1 (mM_n i177_152.2)  ?_
      refine V_sload (c := cI) i177_153.1 (mM_n i177_153.2) rfl (fun _ => ?_)
      refine V_i2l (c := cI) i177_154.1 (mM_n i177_154.2)  ?_
      refine V_bipush (c := cI) i177_155.1 (mM_n i177_155.2) (v := 32) rfl ?_
      refine V_lshl (c := cI) i177_157.1 (mM_n i177_157.2)  ?_
      refine V_aload_n (c := cI) i177_158.1 (mM_n i177_158.2) rfl rfl ?_
      refine V_iload_n (c := cI) i177_159.1 (mM_n i177_159.2) rfl ?_
      refine V_iconst (c := cI) i177_160.1 (mM_n i177_160.2) (v := 2) rfl ?_
      refine V_iadd (c := cI) i177_161.1 (mM_n i177_161.2)  ?_
      refine V_sload (c := cI) i177_162.1 (mM_n i177_162.2) rfl (fun _ => ?_)
      refine V_i2l (c := cI) i177_163.1 (mM_n i177_163.2)  ?_
      refine V_ldc2_w (c := cI) i177_164.1 (mM_n i177_164.2) q177_13 ?_
      refine V_land (c := cI) i177_167.1 (mM_n i177_167.2)  ?_
      refine V_lor (c := cI) i177_168.1 (mM_n i177_168.2)  ?_
      refine V_cvI (c := cI) (As := [.long ((((X.2 (x3 + 1).toNatClampNeg).toInt64) <<< ((32 : Int32).toInt64 &&& 63)) ||| (((X.2 (x3 + 2).toNatClampNeg).toInt64) &&& 4294967295))]) (rest := []) i177_169.1 (mM_n i177_169.2) c177_15 rfl rfl rfl rfl (Nat.le_of_ble_eq_true rfl) rfl (fun r102 S101 => ?_)
      refine V_aload_n (c := cI) i177_172.1 (mM_n i177_172.2) rfl rfl ?_
      refine V_aload_n (c := cI) i177_173.1 (mM_n i177_173.2) rfl rfl ?_
      refine V_iload_n (c := cI) i177_174.1 (mM_n i177_174.2) rfl ?_
      refine V_iconst (c := cI) i177_175.1 (mM_n i177_175.2) (v := 1) rfl ?_
      refine V_iadd (c := cI) i177_176.1 (mM_n i177_176.2)  ?_
      refine V_sload (c := cI) i177_177.1 (mM_n i177_177.2) rfl (fun _ => ?_)
      refine V_i2l (c := cI) i177_178.1 (mM_n i177_178.2)  ?_
      refine V_bipush (c := cI) i177_179.1 (mM_n i177_179.2) (v := 32) rfl ?_
      refine V_lshl (c := cI) i177_181.1 (mM_n i177_181.2)  ?_
      refine V_aload_n (c := cI) i177_182.1 (mM_n i177_182.2) rfl rfl ?_
      refine V_iload_n (c := cI) i177_183.1 (mM_n i177_183.2) rfl ?_
      refine V_iconst (c := cI) i177_184.1 (mM_n i177_184.2) (v := 2) rfl ?_
      refine V_iadd (c := cI) i177_185.1 (mM_n i177_185.2)  ?_
      refine V_sload (c := cI) i177_186.1 (mM_n i177_186.2) rfl (fun _ => ?_)
      refine V_i2l (c := cI) i177_187.1 (mM_n i177_187.2)  ?_
      refine V_ldc2_w (c := cI) i177_188.1 (mM_n i177_188.2) q177_13 ?_
      refine V_land (c := cI) i177_191.1 (mM_n i177_191.2)  ?_
      refine V_lor (c := cI) i177_192.1 (mM_n i177_192.2)  ?_
      refine V_cvI (c := cI) (As := [.long ((((X.2 (x3 + 1).toNatClampNeg).toInt64) <<< ((32 : Int32).toInt64 &&& 63)) ||| (((X.2 (x3 + 2).toNatClampNeg).toInt64) &&& 4294967295))]) (rest := [.int r102]) i177_193.1 (mM_n i177_193.2) c177_19 rfl rfl rfl rfl (Nat.le_of_ble_eq_true rfl) rfl (fun r104 S103 => ?_)
      refine V_icmp_eq (c := cI) i177_196.1 (mM_n i177_196.2) rfl (fun _ => ?_) (fun _ => ?_)
      · exact V_msk (l1 := [some (.ref mSid), some (.ref 0), some (.ref 55), some (.int x3)]) i177_834.2 rfl rfl
      · refine V_iconst (c := cI) i177_199.1 (mM_n i177_199.2) (v := 0) rfl ?_
        exact V_iret i177_200.1 (mM_n i177_200.2) rfl
    ·
      refine V_ite (fun hc1 => ?_) (fun hc1 => ?_)
      · refine V_sw (c := cI) i177_32.1 (mM_n i177_32.2) (o := 169) (by rw [hc1]; rfl) rfl ?_
        refine V_aload_n (c := cI) i177_201.1 (mM_n i177_201.2) rfl rfl ?_
        refine V_cvI (c := cI) (As := []) (rest := []) i177_202.1 (mM_n i177_202.2) c177_20 rfl rfl rfl rfl (Nat.le_of_ble_eq_true rfl) rfl (fun r106 S105 => ?_)
        refine V_aload_n (c := cI) i177_205.1 (mM_n i177_205.2) rfl rfl ?_
        refine V_cvI (c := cI) (As := []) (rest := [.int r106]) i177_206.1 (mM_n i177_206.2) c177_24 rfl rfl rfl rfl (Nat.le_of_ble_eq_true rfl) rfl (fun r108 S107 => ?_)
        refine V_icmp_eq (c := cI) i177_209.1 (mM_n i177_209.2) rfl (fun _ => ?_) (fun _ => ?_)
        · exact V_msk (l1 := [some (.ref mSid), some (.ref 0), some (.ref 55), some (.int x3)]) i177_834.2 rfl rfl
        · refine V_iconst (c := cI) i177_212.1 (mM_n i177_212.2) (v := 0) rfl ?_
          exact V_iret i177_213.1 (mM_n i177_213.2) rfl
      ·
        refine V_ite (fun hc2 => ?_) (fun hc2 => ?_)
        · refine V_sw (c := cI) i177_32.1 (mM_n i177_32.2) (o := 182) (by rw [hc2]; rfl) rfl ?_
          refine V_aload_n (c := cI) i177_214.1 (mM_n i177_214.2) rfl rfl ?_
          refine V_aload_n (c := cI) i177_215.1 (mM_n i177_215.2) rfl rfl ?_
          refine V_iload_n (c := cI) i177_216.1 (mM_n i177_216.2) rfl ?_
          refine V_iconst (c := cI) i177_217.1 (mM_n i177_217.2) (v := 1) rfl ?_
          refine V_iadd (c := cI) i177_218.1 (mM_n i177_218.2)  ?_
          refine V_sload (c := cI) i177_219.1 (mM_n i177_219.2) rfl (fun _ => ?_)
          refine V_cvI (c := cI) (As := [.int (X.2 (x3 + 1).toNatClampNeg)]) (rest := []) i177_220.1 (mM_n i177_220.2) c177_25 rfl rfl rfl rfl (Nat.le_of_ble_eq_true rfl) rfl (fun r110 S109 => ?_)
          refine V_aload_n (c := cI) i177_223.1 (mM_n i177_223.2) rfl rfl ?_
          refine V_aload_n (c := cI) i177_224.1 (mM_n i177_224.2) rfl rfl ?_
          refine V_iload_n (c := cI) i177_225.1 (mM_n i177_225.2) rfl ?_
          refine V_iconst (c := cI) i177_226.1 (mM_n i177_226.2) (v := 1) rfl ?_
          refine V_iadd (c := cI) i177_227.1 (mM_n i177_227.2)  ?_
          refine V_sload (c := cI) i177_228.1 (mM_n i177_228.2) rfl (fun _ => ?_)
          refine V_cvI (c := cI) (As := [.int (X.2 (x3 + 1).toNatClampNeg)]) (rest := [.int r110]) i177_229.1 (mM_n i177_229.2) c177_29 rfl rfl rfl rfl (Nat.le_of_ble_eq_true rfl) rfl (fun r112 S111 => ?_)
          refine V_icmp_eq (c := cI) i177_232.1 (mM_n i177_232.2) rfl (fun _ => ?_) (fun _ => ?_)
          · exact V_msk (l1 := [some (.ref mSid), some (.ref 0), some (.ref 55), some (.int x3)]) i177_834.2 rfl rfl
          · refine V_iconst (c := cI) i177_235.1 (mM_n i177_235.2) (v := 0) rfl ?_
            exact V_iret i177_236.1 (mM_n i177_236.2) rfl
        ·
          refine V_ite (fun hc3 => ?_) (fun hc3 => ?_)
          · refine V_sw (c := cI) i177_32.1 (mM_n i177_32.2) (o := 205) (by rw [hc3]; rfl) rfl ?_
            refine V_aload_n (c := cI) i177_237.1 (mM_n i177_237.2) rfl rfl ?_
            refine V_cvI (c := cI) (As := []) (rest := []) i177_238.1 (mM_n i177_238.2) c177_30 rfl rfl rfl rfl (Nat.le_of_ble_eq_true rfl) rfl (fun r114 S113 => ?_)
            refine V_aload_n (c := cI) i177_241.1 (mM_n i177_241.2) rfl rfl ?_
            refine V_cvI (c := cI) (As := []) (rest := [.int r114]) i177_242.1 (mM_n i177_242.2) c177_33 rfl rfl rfl rfl (Nat.le_of_ble_eq_true rfl) rfl (fun r116 S115 => ?_)
            refine V_icmp_eq (c := cI) i177_245.1 (mM_n i177_245.2) rfl (fun _ => ?_) (fun _ => ?_)
            · exact V_msk (l1 := [some (.ref mSid), some (.ref 0), some (.ref 55), some (.int x3)]) i177_834.2 rfl rfl
            · refine V_iconst (c := cI) i177_248.1 (mM_n i177_248.2) (v := 0) rfl ?_
              exact V_iret i177_249.1 (mM_n i177_249.2) rfl
          ·
            refine V_ite (fun hc4 => ?_) (fun hc4 => ?_)
            · refine V_sw (c := cI) i177_32.1 (mM_n i177_32.2) (o := 218) (by rw [hc4]; rfl) rfl ?_
              refine V_aload_n (c := cI) i177_250.1 (mM_n i177_250.2) rfl rfl ?_
              refine V_aload_n (c := cI) i177_251.1 (mM_n i177_251.2) rfl rfl ?_
              refine V_iload_n (c := cI) i177_252.1 (mM_n i177_252.2) rfl ?_
              refine V_iconst (c := cI) i177_253.1 (mM_n i177_253.2) (v := 1) rfl ?_
              refine V_iadd (c := cI) i177_254.1 (mM_n i177_254.2)  ?_
              refine V_sload (c := cI) i177_255.1 (mM_n i177_255.2) rfl (fun _ => ?_)
              refine V_aload_n (c := cI) i177_256.1 (mM_n i177_256.2) rfl rfl ?_
              refine V_iload_n (c := cI) i177_257.1 (mM_n i177_257.2) rfl ?_
              refine V_iconst (c := cI) i177_258.1 (mM_n i177_258.2) (v := 2) rfl ?_
              refine V_iadd (c := cI) i177_259.1 (mM_n i177_259.2)  ?_
              refine V_sload (c := cI) i177_260.1 (mM_n i177_260.2) rfl (fun _ => ?_)
              refine V_cvI (c := cI) (As := [.int (X.2 (x3 + 1).toNatClampNeg), .int (X.2 (x3 + 2).toNatClampNeg)]) (rest := []) i177_261.1 (mM_n i177_261.2) c177_34 rfl rfl rfl rfl (Nat.le_of_ble_eq_true rfl) rfl (fun r118 S117 => ?_)
              refine V_aload_n (c := cI) i177_264.1 (mM_n i177_264.2) rfl rfl ?_
              refine V_aload_n (c := cI) i177_265.1 (mM_n i177_265.2) rfl rfl ?_
              refine V_iload_n (c := cI) i177_266.1 (mM_n i177_266.2) rfl ?_
              refine V_iconst (c := cI) i177_267.1 (mM_n i177_267.2) (v := 1) rfl ?_
              refine V_iadd (c := cI) i177_268.1 (mM_n i177_268.2)  ?_
              refine V_sload (c := cI) i177_269.1 (mM_n i177_269.2) rfl (fun _ => ?_)
              refine V_aload_n (c := cI) i177_270.1 (mM_n i177_270.2) rfl rfl ?_
              refine V_iload_n (c := cI) i177_271.1 (mM_n i177_271.2) rfl ?_
              refine V_iconst (c := cI) i177_272.1 (mM_n i177_272.2) (v := 2) rfl ?_
              refine V_iadd (c := cI) i177_273.1 (mM_n i177_273.2)  ?_
              refine V_sload (c := cI) i177_274.1 (mM_n i177_274.2) rfl (fun _ => ?_)
              refine V_cvI (c := cI) (As := [.int (X.2 (x3 + 1).toNatClampNeg), .int (X.2 (x3 + 2).toNatClampNeg)]) (rest := [.int r118]) i177_275.1 (mM_n i177_275.2) c177_38 rfl rfl rfl rfl (Nat.le_of_ble_eq_true rfl) rfl (fun r120 S119 => ?_)
              refine V_icmp_eq (c := cI) i177_278.1 (mM_n i177_278.2) rfl (fun _ => ?_) (fun _ => ?_)
              · exact V_msk (l1 := [some (.ref mSid), some (.ref 0), some (.ref 55), some (.int x3)]) i177_834.2 rfl rfl
              · refine V_iconst (c := cI) i177_281.1 (mM_n i177_281.2) (v := 0) rfl ?_
                exact V_iret i177_282.1 (mM_n i177_282.2) rfl
            ·
              refine V_ite (fun hc5 => ?_) (fun hc5 => ?_)
              · refine V_sw (c := cI) i177_32.1 (mM_n i177_32.2) (o := 251) (by rw [hc5]; rfl) rfl ?_
                refine V_aload_n (c := cI) i177_283.1 (mM_n i177_283.2) rfl rfl ?_
                refine V_aload_n (c := cI) i177_284.1 (mM_n i177_284.2) rfl rfl ?_
                refine V_iload_n (c := cI) i177_285.1 (mM_n i177_285.2) rfl ?_
                refine V_iconst (c := cI) i177_286.1 (mM_n i177_286.2) (v := 1) rfl ?_
                refine V_iadd (c := cI) i177_287.1 (mM_n i177_287.2)  ?_
                refine V_sload (c := cI) i177_288.1 (mM_n i177_288.2) rfl (fun _ => ?_)
                refine V_aload_n (c := cI) i177_289.1 (mM_n i177_289.2) rfl rfl ?_
                refine V_iload_n (c := cI) i177_290.1 (mM_n i177_290.2) rfl ?_
                refine V_iconst (c := cI) i177_291.1 (mM_n i177_291.2) (v := 2) rfl ?_
                refine V_iadd (c := cI) i177_292.1 (mM_n i177_292.2)  ?_
                refine V_sload (c := cI) i177_293.1 (mM_n i177_293.2) rfl (fun _ => ?_)
                refine V_aload_n (c := cI) i177_294.1 (mM_n i177_294.2) rfl rfl ?_
                refine V_iload_n (c := cI) i177_295.1 (mM_n i177_295.2) rfl ?_
                refine V_iconst (c := cI) i177_296.1 (mM_n i177_296.2) (v := 3) rfl ?_
                refine V_iadd (c := cI) i177_297.1 (mM_n i177_297.2)  ?_
                refine V_sload (c := cI) i177_298.1 (mM_n i177_298.2) rfl (fun _ => ?_)
                refine V_aload_n (c := cI) i177_299.1 (mM_n i177_299.2) rfl rfl ?_
                refine V_iload_n (c := cI) i177_300.1 (mM_n i177_300.2) rfl ?_
                refine V_iconst (c := cI) i177_301.1 (mM_n i177_301.2) (v := 4) rfl ?_
                refine V_iadd (c := cI) i177_302.1 (mM_n i177_302.2)  ?_
                refine V_sload (c := cI) i177_303.1 (mM_n i177_303.2) rfl (fun _ => ?_)
                refine V_cvI (c := cI) (As := [.int (X.2 (x3 + 1).toNatClampNeg), .int (X.2 (x3 + 2).toNatClampNeg), .int (X.2 (x3 + 3).toNatClampNeg), .int (X.2 (x3 + 4).toNatClampNeg)]) (rest := []) i177_304.1 (mM_n i177_304.2) c177_39 rfl rfl rfl rfl (Nat.le_of_ble_eq_true rfl) rfl (fun r122 S121 => ?_)
                refine V_aload_n (c := cI) i177_307.1 (mM_n i177_307.2) rfl rfl ?_
                refine V_aload_n (c := cI) i177_308.1 (mM_n i177_308.2) rfl rfl ?_
                refine V_iload_n (c := cI) i177_309.1 (mM_n i177_309.2) rfl ?_
                refine V_iconst (c := cI) i177_310.1 (mM_n i177_310.2) (v := 1) rfl ?_
                refine V_iadd (c := cI) i177_311.1 (mM_n i177_311.2)  ?_
                refine V_sload (c := cI) i177_312.1 (mM_n i177_312.2) rfl (fun _ => ?_)
                refine V_aload_n (c := cI) i177_313.1 (mM_n i177_313.2) rfl rfl ?_
                refine V_iload_n (c := cI) i177_314.1 (mM_n i177_314.2) rfl ?_
                refine V_iconst (c := cI) i177_315.1 (mM_n i177_315.2) (v := 2) rfl ?_
                refine V_iadd (c := cI) i177_316.1 (mM_n i177_316.2)  ?_
                refine V_sload (c := cI) i177_317.1 (mM_n i177_317.2) rfl (fun _ => ?_)
                refine V_aload_n (c := cI) i177_318.1 (mM_n i177_318.2) rfl rfl ?_
                refine V_iload_n (c := cI) i177_319.1 (mM_n i177_319.2) rfl ?_
                refine V_iconst (c := cI) i177_320.1 (mM_n i177_320.2) (v := 3) rfl ?_
                refine V_iadd (c := cI) i177_321.1 (mM_n i177_321.2)  ?_
                refine V_sload (c := cI) i177_322.1 (mM_n i177_322.2) rfl (fun _ => ?_)
                refine V_aload_n (c := cI) i177_323.1 (mM_n i177_323.2) rfl rfl ?_
                refine V_iload_n (c := cI) i177_324.1 (mM_n i177_324.2) rfl ?_
                refine V_iconst (c := cI) i177_325.1 (mM_n i177_325.2) (v := 4) rfl ?_
                refine V_iadd (c := cI) i177_326.1 (mM_n i177_326.2)  ?_
                refine V_sload (c := cI) i177_327.1 (mM_n i177_327.2) rfl (fun _ => ?_)
                refine V_cvI (c := cI) (As := [.int (X.2 (x3 + 1).toNatClampNeg), .int (X.2 (x3 + 2).toNatClampNeg), .int (X.2 (x3 + 3).toNatClampNeg), .int (X.2 (x3 + 4).toNatClampNeg)]) (rest := [.int r122]) i177_328.1 (mM_n i177_328.2) c177_43 rfl rfl rfl rfl (Nat.le_of_ble_eq_true rfl) rfl (fun r124 S123 => ?_)
                refine V_icmp_eq (c := cI) i177_331.1 (mM_n i177_331.2) rfl (fun _ => ?_) (fun _ => ?_)
                · exact V_msk (l1 := [some (.ref mSid), some (.ref 0), some (.ref 55), some (.int x3)]) i177_834.2 rfl rfl
                · refine V_iconst (c := cI) i177_334.1 (mM_n i177_334.2) (v := 0) rfl ?_
                  exact V_iret i177_335.1 (mM_n i177_335.2) rfl
              ·
                refine V_ite (fun hc6 => ?_) (fun hc6 => ?_)
                · refine V_sw (c := cI) i177_32.1 (mM_n i177_32.2) (o := 304) (by rw [hc6]; rfl) rfl ?_
                  refine V_aload_n (c := cI) i177_336.1 (mM_n i177_336.2) rfl rfl ?_
                  refine V_aload_n (c := cI) i177_337.1 (mM_n i177_337.2) rfl rfl ?_
                  refine V_iload_n (c := cI) i177_338.1 (mM_n i177_338.2) rfl ?_
                  refine V_iconst (c := cI) i177_339.1 (mM_n i177_339.2) (v := 1) rfl ?_
                  refine V_iadd (c := cI) i177_340.1 (mM_n i177_340.2)  ?_
                  refine V_sload (c := cI) i177_341.1 (mM_n i177_341.2) rfl (fun _ => ?_)
                  refine V_aload_n (c := cI) i177_342.1 (mM_n i177_342.2) rfl rfl ?_
                  refine V_iload_n (c := cI) i177_343.1 (mM_n i177_343.2) rfl ?_
                  refine V_iconst (c := cI) i177_344.1 (mM_n i177_344.2) (v := 2) rfl ?_
                  refine V_iadd (c := cI) i177_345.1 (mM_n i177_345.2)  ?_
                  refine V_sload (c := cI) i177_346.1 (mM_n i177_346.2) rfl (fun _ => ?_)
                  refine V_cvI (c := cI) (As := [.int (X.2 (x3 + 1).toNatClampNeg), .int (X.2 (x3 + 2).toNatClampNeg)]) (rest := []) i177_347.1 (mM_n i177_347.2) c177_44 rfl rfl rfl rfl (Nat.le_of_ble_eq_true rfl) rfl (fun r126 S125 => ?_)
                  refine V_aload_n (c := cI) i177_350.1 (mM_n i177_350.2) rfl rfl ?_
                  refine V_aload_n (c := cI) i177_351.1 (mM_n i177_351.2) rfl rfl ?_
                  refine V_iload_n (c := cI) i177_352.1 (mM_n i177_352.2) rfl ?_
                  refine V_iconst (c := cI) i177_353.1 (mM_n i177_353.2) (v := 1) rfl ?_
                  refine V_iadd (c := cI) i177_354.1 (mM_n i177_354.2)  ?_
                  refine V_sload (c := cI) i177_355.1 (mM_n i177_355.2) rfl (fun _ => ?_)
                  refine V_aload_n (c := cI) i177_356.1 (mM_n i177_356.2) rfl rfl ?_
                  refine V_iload_n (c := cI) i177_357.1 (mM_n i177_357.2) rfl ?_
                  refine V_iconst (c := cI) i177_358.1 (mM_n i177_358.2) (v := 2) rfl ?_
                  refine V_iadd (c := cI) i177_359.1 (mM_n i177_359.2)  ?_
                  refine V_sload (c := cI) i177_360.1 (mM_n i177_360.2) rfl (fun _ => ?_)
                  refine V_cvI (c := cI) (As := [.int (X.2 (x3 + 1).toNatClampNeg), .int (X.2 (x3 + 2).toNatClampNeg)]) (rest := [.int r126]) i177_361.1 (mM_n i177_361.2) c177_47 rfl rfl rfl rfl (Nat.le_of_ble_eq_true rfl) rfl (fun r128 S127 => ?_)
                  refine V_icmp_eq (c := cI) i177_364.1 (mM_n i177_364.2) rfl (fun _ => ?_) (fun _ => ?_)
                  · exact V_msk (l1 := [some (.ref mSid), some (.ref 0), some (.ref 55), some (.int x3)]) i177_834.2 rfl rfl
                  · refine V_iconst (c := cI) i177_367.1 (mM_n i177_367.2) (v := 0) rfl ?_
                    exact V_iret i177_368.1 (mM_n i177_368.2) rfl
                ·
                  refine V_ite (fun hc7 => ?_) (fun hc7 => ?_)
                  · refine V_sw (c := cI) i177_32.1 (mM_n i177_32.2) (o := 337) (by rw [hc7]; rfl) rfl ?_
                    refine V_aload_n (c := cI) i177_369.1 (mM_n i177_369.2) rfl rfl ?_
                    refine V_aload_n (c := cI) i177_370.1 (mM_n i177_370.2) rfl rfl ?_
                    refine V_iload_n (c := cI) i177_371.1 (mM_n i177_371.2) rfl ?_
                    refine V_iconst (c := cI) i177_372.1 (mM_n i177_372.2) (v := 1) rfl ?_
                    refine V_iadd (c := cI) i177_373.1 (mM_n i177_373.2)  ?_
                    refine V_sload (c := cI) i177_374.1 (mM_n i177_374.2) rfl (fun _ => ?_)
                    refine V_aload_n (c := cI) i177_375.1 (mM_n i177_375.2) rfl rfl ?_
                    refine V_iload_n (c := cI) i177_376.1 (mM_n i177_376.2) rfl ?_
                    refine V_iconst (c := cI) i177_377.1 (mM_n i177_377.2) (v := 2) rfl ?_
                    refine V_iadd (c := cI) i177_378.1 (mM_n i177_378.2)  ?_
                    refine V_sload (c := cI) i177_379.1 (mM_n i177_379.2) rfl (fun _ => ?_)
                    refine V_cvI (c := cI) (As := [.int (X.2 (x3 + 1).toNatClampNeg), .int (X.2 (x3 + 2).toNatClampNeg)]) (rest := []) i177_380.1 (mM_n i177_380.2) c177_48 rfl rfl rfl rfl (Nat.le_of_ble_eq_true rfl) rfl (fun r130 S129 => ?_)
                    refine V_aload_n (c := cI) i177_383.1 (mM_n i177_383.2) rfl rfl ?_
                    refine V_aload_n (c := cI) i177_384.1 (mM_n i177_384.2) rfl rfl ?_
                    refine V_iload_n (c := cI) i177_385.1 (mM_n i177_385.2) rfl ?_
                    refine V_iconst (c := cI) i177_386.1 (mM_n i177_386.2) (v := 1) rfl ?_
                    refine V_iadd (c := cI) i177_387.1 (mM_n i177_387.2)  ?_
                    refine V_sload (c := cI) i177_388.1 (mM_n i177_388.2) rfl (fun _ => ?_)
                    refine V_aload_n (c := cI) i177_389.1 (mM_n i177_389.2) rfl rfl ?_
                    refine V_iload_n (c := cI) i177_390.1 (mM_n i177_390.2) rfl ?_
                    refine V_iconst (c := cI) i177_391.1 (mM_n i177_391.2) (v := 2) rfl ?_
                    refine V_iadd (c := cI) i177_392.1 (mM_n i177_392.2)  ?_
                    refine V_sload (c := cI) i177_393.1 (mM_n i177_393.2) rfl (fun _ => ?_)
                    refine V_cvI (c := cI) (As := [.int (X.2 (x3 + 1).toNatClampNeg), .int (X.2 (x3 + 2).toNatClampNeg)]) (rest := [.int r130]) i177_394.1 (mM_n i177_394.2) c177_51 rfl rfl rfl rfl (Nat.le_of_ble_eq_true rfl) rfl (fun r132 S131 => ?_)
                    refine V_icmp_eq (c := cI) i177_397.1 (mM_n i177_397.2) rfl (fun _ => ?_) (fun _ => ?_)
                    · exact V_msk (l1 := [some (.ref mSid), some (.ref 0), some (.ref 55), some (.int x3)]) i177_834.2 rfl rfl
                    · refine V_iconst (c := cI) i177_400.1 (mM_n i177_400.2) (v := 0) rfl ?_
                      exact V_iret i177_401.1 (mM_n i177_401.2) rfl
                  ·
                    refine V_ite (fun hc8 => ?_) (fun hc8 => ?_)
                    · refine V_sw (c := cI) i177_32.1 (mM_n i177_32.2) (o := 370) (by rw [hc8]; rfl) rfl ?_
                      refine V_aload_n (c := cI) i177_402.1 (mM_n i177_402.2) rfl rfl ?_
                      refine V_aload_n (c := cI) i177_403.1 (mM_n i177_403.2) rfl rfl ?_
                      refine V_iload_n (c := cI) i177_404.1 (mM_n i177_404.2) rfl ?_
                      refine V_iconst (c := cI) i177_405.1 (mM_n i177_405.2) (v := 1) rfl ?_
                      refine V_iadd (c := cI) i177_406.1 (mM_n i177_406.2)  ?_
                      refine V_sload (c := cI) i177_407.1 (mM_n i177_407.2) rfl (fun _ => ?_)
                      refine V_cvI (c := cI) (As := [.int (X.2 (x3 + 1).toNatClampNeg)]) (rest := []) i177_408.1 (mM_n i177_408.2) c177_52 rfl rfl rfl rfl (Nat.le_of_ble_eq_true rfl) rfl (fun r134 S133 => ?_)
                      refine V_aload_n (c := cI) i177_411.1 (mM_n i177_411.2) rfl rfl ?_
                      refine V_aload_n (c := cI) i177_412.1 (mM_n i177_412.2) rfl rfl ?_
                      refine V_iload_n (c := cI) i177_413.1 (mM_n i177_413.2) rfl ?_
                      refine V_iconst (c := cI) i177_414.1 (mM_n i177_414.2) (v := 1) rfl ?_
                      refine V_iadd (c := cI) i177_415.1 (mM_n i177_415.2)  ?_
                      refine V_sload (c := cI) i177_416.1 (mM_n i177_416.2) rfl (fun _ => ?_)
                      refine V_cvI (c := cI) (As := [.int (X.2 (x3 + 1).toNatClampNeg)]) (rest := [.int r134]) i177_417.1 (mM_n i177_417.2) c177_55 rfl rfl rfl rfl (Nat.le_of_ble_eq_true rfl) rfl (fun r136 S135 => ?_)
                      refine V_icmp_eq (c := cI) i177_420.1 (mM_n i177_420.2) rfl (fun _ => ?_) (fun _ => ?_)
                      · exact V_msk (l1 := [some (.ref mSid), some (.ref 0), some (.ref 55), some (.int x3)]) i177_834.2 rfl rfl
                      · refine V_iconst (c := cI) i177_423.1 (mM_n i177_423.2) (v := 0) rfl ?_
                        exact V_iret i177_424.1 (mM_n i177_424.2) rfl
                    ·
                      refine V_ite (fun hc9 => ?_) (fun hc9 => ?_)
                      · refine V_sw (c := cI) i177_32.1 (mM_n i177_32.2) (o := 393) (by rw [hc9]; rfl) rfl ?_
                        refine V_aload_n (c := cI) i177_425.1 (mM_n i177_425.2) rfl rfl ?_
                        refine V_aload_n (c := cI) i177_426.1 (mM_n i177_426.2) rfl rfl ?_
                        refine V_iload_n (c := cI) i177_427.1 (mM_n i177_427.2) rfl ?_
                        refine V_iconst (c := cI) i177_428.1 (mM_n i177_428.2) (v := 1) rfl ?_
                        refine V_iadd (c := cI) i177_429.1 (mM_n i177_429.2)  ?_
                        refine V_sload (c := cI) i177_430.1 (mM_n i177_430.2) rfl (fun _ => ?_)
                        refine V_aload_n (c := cI) i177_431.1 (mM_n i177_431.2) rfl rfl ?_
                        refine V_iload_n (c := cI) i177_432.1 (mM_n i177_432.2) rfl ?_
                        refine V_iconst (c := cI) i177_433.1 (mM_n i177_433.2) (v := 2) rfl ?_
                        refine V_iadd (c := cI) i177_434.1 (mM_n i177_434.2)  ?_
                        refine V_sload (c := cI) i177_435.1 (mM_n i177_435.2) rfl (fun _ => ?_)
                        refine V_cvI (c := cI) (As := [.int (X.2 (x3 + 1).toNatClampNeg), .int (X.2 (x3 + 2).toNatClampNeg)]) (rest := []) i177_436.1 (mM_n i177_436.2) c177_56 rfl rfl rfl rfl (Nat.le_of_ble_eq_true rfl) rfl (fun r138 S137 => ?_)
                        refine V_aload_n (c := cI) i177_439.1 (mM_n i177_439.2) rfl rfl ?_
                        refine V_aload_n (c := cI) i177_440.1 (mM_n i177_440.2) rfl rfl ?_
                        refine V_iload_n (c := cI) i177_441.1 (mM_n i177_441.2) rfl ?_
                        refine V_iconst (c := cI) i177_442.1 (mM_n i177_442.2) (v := 1) rfl ?_
                        refine V_iadd (c := cI) i177_443.1 (mM_n i177_443.2)  ?_
                        refine V_sload (c := cI) i177_444.1 (mM_n i177_444.2) rfl (fun _ => ?_)
                        refine V_aload_n (c := cI) i177_445.1 (mM_n i177_445.2) rfl rfl ?_
                        refine V_iload_n (c := cI) i177_446.1 (mM_n i177_446.2) rfl ?_
                        refine V_iconst (c := cI) i177_447.1 (mM_n i177_447.2) (v := 2) rfl ?_
                        refine V_iadd (c := cI) i177_448.1 (mM_n i177_448.2)  ?_
                        refine V_sload (c := cI) i177_449.1 (mM_n i177_449.2) rfl (fun _ => ?_)
                        refine V_cvI (c := cI) (As := [.int (X.2 (x3 + 1).toNatClampNeg), .int (X.2 (x3 + 2).toNatClampNeg)]) (rest := [.int r138]) i177_450.1 (mM_n i177_450.2) c177_59 rfl rfl rfl rfl (Nat.le_of_ble_eq_true rfl) rfl (fun r140 S139 => ?_)
                        refine V_icmp_eq (c := cI) i177_453.1 (mM_n i177_453.2) rfl (fun _ => ?_) (fun _ => ?_)
                        · exact V_msk (l1 := [some (.ref mSid), some (.ref 0), some (.ref 55), some (.int x3)]) i177_834.2 rfl rfl
                        · refine V_iconst (c := cI) i177_456.1 (mM_n i177_456.2) (v := 0) rfl ?_
                          exact V_iret i177_457.1 (mM_n i177_457.2) rfl
                      ·
                        refine V_ite (fun hc10 => ?_) (fun hc10 => ?_)
                        · refine V_sw (c := cI) i177_32.1 (mM_n i177_32.2) (o := 426) (by rw [hc10]; rfl) rfl ?_
                          refine V_aload_n (c := cI) i177_458.1 (mM_n i177_458.2) rfl rfl ?_
                          refine V_aload_n (c := cI) i177_459.1 (mM_n i177_459.2) rfl rfl ?_
                          refine V_iload_n (c := cI) i177_460.1 (mM_n i177_460.2) rfl ?_
                          refine V_iconst (c := cI) i177_461.1 (mM_n i177_461.2) (v := 1) rfl ?_
                          refine V_iadd (c := cI) i177_462.1 (mM_n i177_462.2)  ?_
                          refine V_sload (c := cI) i177_463.1 (mM_n i177_463.2) rfl (fun _ => ?_)
                          refine V_aload_n (c := cI) i177_464.1 (mM_n i177_464.2) rfl rfl ?_
                          refine V_iload_n (c := cI) i177_465.1 (mM_n i177_465.2) rfl ?_
                          refine V_iconst (c := cI) i177_466.1 (mM_n i177_466.2) (v := 2) rfl ?_
                          refine V_iadd (c := cI) i177_467.1 (mM_n i177_467.2)  ?_
                          refine V_sload (c := cI) i177_468.1 (mM_n i177_468.2) rfl (fun _ => ?_)
                          refine V_cvI (c := cI) (As := [.int (X.2 (x3 + 1).toNatClampNeg), .int (X.2 (x3 + 2).toNatClampNeg)]) (rest := []) i177_469.1 (mM_n i177_469.2) c177_60 rfl rfl rfl rfl (Nat.le_of_ble_eq_true rfl) rfl (fun r142 S141 => ?_)
                          refine V_aload_n (c := cI) i177_472.1 (mM_n i177_472.2) rfl rfl ?_
                          refine V_aload_n (c := cI) i177_473.1 (mM_n i177_473.2) rfl rfl ?_
                          refine V_iload_n (c := cI) i177_474.1 (mM_n i177_474.2) rfl ?_
                          refine V_iconst (c := cI) i177_475.1 (mM_n i177_475.2) (v := 1) rfl ?_
                          refine V_iadd (c := cI) i177_476.1 (mM_n i177_476.2)  ?_
                          refine V_sload (c := cI) i177_477.1 (mM_n i177_477.2) rfl (fun _ => ?_)
                          refine V_aload_n (c := cI) i177_478.1 (mM_n i177_478.2) rfl rfl ?_
                          refine V_iload_n (c := cI) i177_479.1 (mM_n i177_479.2) rfl ?_
                          refine V_iconst (c := cI) i177_480.1 (mM_n i177_480.2) (v := 2) rfl ?_
                          refine V_iadd (c := cI) i177_481.1 (mM_n i177_481.2)  ?_
                          refine V_sload (c := cI) i177_482.1 (mM_n i177_482.2) rfl (fun _ => ?_)
                          refine V_cvI (c := cI) (As := [.int (X.2 (x3 + 1).toNatClampNeg), .int (X.2 (x3 + 2).toNatClampNeg)]) (rest := [.int r142]) i177_483.1 (mM_n i177_483.2) c177_63 rfl rfl rfl rfl (Nat.le_of_ble_eq_true rfl) rfl (fun r144 S143 => ?_)
                          refine V_icmp_eq (c := cI) i177_486.1 (mM_n i177_486.2) rfl (fun _ => ?_) (fun _ => ?_)
                          · exact V_msk (l1 := [some (.ref mSid), some (.ref 0), some (.ref 55), some (.int x3)]) i177_834.2 rfl rfl
                          · refine V_iconst (c := cI) i177_489.1 (mM_n i177_489.2) (v := 0) rfl ?_
                            exact V_iret i177_490.1 (mM_n i177_490.2) rfl
                        ·
                          refine V_ite (fun hc11 => ?_) (fun hc11 => ?_)
                          · refine V_sw (c := cI) i177_32.1 (mM_n i177_32.2) (o := 459) (by rw [hc11]; rfl) rfl ?_
                            refine V_aload_n (c := cI) i177_491.1 (mM_n i177_491.2) rfl rfl ?_
                            refine V_aload_n (c := cI) i177_492.1 (mM_n i177_492.2) rfl rfl ?_
                            refine V_iload_n (c := cI) i177_493.1 (mM_n i177_493.2) rfl ?_
                            refine V_iconst (c := cI) i177_494.1 (mM_n i177_494.2) (v := 1) rfl ?_
                            refine V_iadd (c := cI) i177_495.1 (mM_n i177_495.2)  ?_
                            refine V_sload (c := cI) i177_496.1 (mM_n i177_496.2) rfl (fun _ => ?_)
                            refine V_aload_n (c := cI) i177_497.1 (mM_n i177_497.2) rfl rfl ?_
                            refine V_iload_n (c := cI) i177_498.1 (mM_n i177_498.2) rfl ?_
                            refine V_iconst (c := cI) i177_499.1 (mM_n i177_499.2) (v := 2) rfl ?_
                            refine V_iadd (c := cI) i177_500.1 (mM_n i177_500.2)  ?_
                            refine V_sload (c := cI) i177_501.1 (mM_n i177_501.2) rfl (fun _ => ?_)
                            refine V_cvI (c := cI) (As := [.int (X.2 (x3 + 1).toNatClampNeg), .int (X.2 (x3 + 2).toNatClampNeg)]) (rest := []) i177_502.1 (mM_n i177_502.2) c177_64 rfl rfl rfl rfl (Nat.le_of_ble_eq_true rfl) rfl (fun r146 S145 => ?_)
                            refine V_aload_n (c := cI) i177_505.1 (mM_n i177_505.2) rfl rfl ?_
                            refine V_aload_n (c := cI) i177_506.1 (mM_n i177_506.2) rfl rfl ?_
                            refine V_iload_n (c := cI) i177_507.1 (mM_n i177_507.2) rfl ?_
                            refine V_iconst (c := cI) i177_508.1 (mM_n i177_508.2) (v := 1) rfl ?_
                            refine V_iadd (c := cI) i177_509.1 (mM_n i177_509.2)  ?_
                            refine V_sload (c := cI) i177_510.1 (mM_n i177_510.2) rfl (fun _ => ?_)
                            refine V_aload_n (c := cI) i177_511.1 (mM_n i177_511.2) rfl rfl ?_
                            refine V_iload_n (c := cI) i177_512.1 (mM_n i177_512.2) rfl ?_
                            refine V_iconst (c := cI) i177_513.1 (mM_n i177_513.2) (v := 2) rfl ?_
                            refine V_iadd (c := cI) i177_514.1 (mM_n i177_514.2)  ?_
                            refine V_sload (c := cI) i177_515.1 (mM_n i177_515.2) rfl (fun _ => ?_)
                            refine V_cvI (c := cI) (As := [.int (X.2 (x3 + 1).toNatClampNeg), .int (X.2 (x3 + 2).toNatClampNeg)]) (rest := [.int r146]) i177_516.1 (mM_n i177_516.2) c177_67 rfl rfl rfl rfl (Nat.le_of_ble_eq_true rfl) rfl (fun r148 S147 => ?_)
                            refine V_icmp_eq (c := cI) i177_519.1 (mM_n i177_519.2) rfl (fun _ => ?_) (fun _ => ?_)
                            · exact V_msk (l1 := [some (.ref mSid), some (.ref 0), some (.ref 55), some (.int x3)]) i177_834.2 rfl rfl
                            · refine V_iconst (c := cI) i177_522.1 (mM_n i177_522.2) (v := 0) rfl ?_
                              exact V_iret i177_523.1 (mM_n i177_523.2) rfl
                          ·
                            refine V_ite (fun hc12 => ?_) (fun hc12 => ?_)
                            · refine V_sw (c := cI) i177_32.1 (mM_n i177_32.2) (o := 492) (by rw [hc12]; rfl) rfl ?_
                              refine V_aload_n (c := cI) i177_524.1 (mM_n i177_524.2) rfl rfl ?_
                              refine V_aload_n (c := cI) i177_525.1 (mM_n i177_525.2) rfl rfl ?_
                              refine V_iload_n (c := cI) i177_526.1 (mM_n i177_526.2) rfl ?_
                              refine V_iconst (c := cI) i177_527.1 (mM_n i177_527.2) (v := 1) rfl ?_
                              refine V_iadd (c := cI) i177_528.1 (mM_n i177_528.2)  ?_
                              refine V_sload (c := cI) i177_529.1 (mM_n i177_529.2) rfl (fun _ => ?_)
                              refine V_aload_n (c := cI) i177_530.1 (mM_n i177_530.2) rfl rfl ?_
                              refine V_iload_n (c := cI) i177_531.1 (mM_n i177_531.2) rfl ?_
                              refine V_iconst (c := cI) i177_532.1 (mM_n i177_532.2) (v := 2) rfl ?_
                              refine V_iadd (c := cI) i177_533.1 (mM_n i177_533.2)  ?_
                              refine V_sload (c := cI) i177_534.1 (mM_n i177_534.2) rfl (fun _ => ?_)
                              refine V_cvI (c := cI) (As := [.int (X.2 (x3 + 1).toNatClampNeg), .int (X.2 (x3 + 2).toNatClampNeg)]) (rest := []) i177_535.1 (mM_n i177_535.2) c177_68 rfl rfl rfl rfl (Nat.le_of_ble_eq_true rfl) rfl (fun r150 S149 => ?_)
                              refine V_aload_n (c := cI) i177_538.1 (mM_n i177_538.2) rfl rfl ?_
                              refine V_aload_n (c := cI) i177_539.1 (mM_n i177_539.2) rfl rfl ?_
                              refine V_iload_n (c := cI) i177_540.1 (mM_n i177_540.2) rfl ?_
                              refine V_iconst (c := cI) i177_541.1 (mM_n i177_541.2) (v := 1) rfl ?_
                              refine V_iadd (c := cI) i177_542.1 (mM_n i177_542.2)  ?_
                              refine V_sload (c := cI) i177_543.1 (mM_n i177_543.2) rfl (fun _ => ?_)
                              refine V_aload_n (c := cI) i177_544.1 (mM_n i177_544.2) rfl rfl ?_
                              refine V_iload_n (c := cI) i177_545.1 (mM_n i177_545.2) rfl ?_
                              refine V_iconst (c := cI) i177_546.1 (mM_n i177_546.2) (v := 2) rfl ?_
                              refine V_iadd (c := cI) i177_547.1 (mM_n i177_547.2)  ?_
                              refine V_sload (c := cI) i177_548.1 (mM_n i177_548.2) rfl (fun _ => ?_)
                              refine V_cvI (c := cI) (As := [.int (X.2 (x3 + 1).toNatClampNeg), .int (X.2 (x3 + 2).toNatClampNeg)]) (rest := [.int r150]) i177_549.1 (mM_n i177_549.2) c177_71 rfl rfl rfl rfl (Nat.le_of_ble_eq_true rfl) rfl (fun r152 S151 => ?_)
                              refine V_icmp_eq (c := cI) i177_552.1 (mM_n i177_552.2) rfl (fun _ => ?_) (fun _ => ?_)
                              · exact V_msk (l1 := [some (.ref mSid), some (.ref 0), some (.ref 55), some (.int x3)]) i177_834.2 rfl rfl
                              · refine V_iconst (c := cI) i177_555.1 (mM_n i177_555.2) (v := 0) rfl ?_
                                exact V_iret i177_556.1 (mM_n i177_556.2) rfl
                            ·
                              refine V_ite (fun hc13 => ?_) (fun hc13 => ?_)
                              · refine V_sw (c := cI) i177_32.1 (mM_n i177_32.2) (o := 525) (by rw [hc13]; rfl) rfl ?_
                                refine V_aload_n (c := cI) i177_557.1 (mM_n i177_557.2) rfl rfl ?_
                                refine V_aload_n (c := cI) i177_558.1 (mM_n i177_558.2) rfl rfl ?_
                                refine V_iload_n (c := cI) i177_559.1 (mM_n i177_559.2) rfl ?_
                                refine V_iconst (c := cI) i177_560.1 (mM_n i177_560.2) (v := 1) rfl ?_
                                refine V_iadd (c := cI) i177_561.1 (mM_n i177_561.2)  ?_
                                refine V_sload (c := cI) i177_562.1 (mM_n i177_562.2) rfl (fun _ => ?_)
                                refine V_cvI (c := cI) (As := [.int (X.2 (x3 + 1).toNatClampNeg)]) (rest := []) i177_563.1 (mM_n i177_563.2) c177_72 rfl rfl rfl rfl (Nat.le_of_ble_eq_true rfl) rfl (fun r154 S153 => ?_)
                                refine V_aload_n (c := cI) i177_566.1 (mM_n i177_566.2) rfl rfl ?_
                                refine V_aload_n (c := cI) i177_567.1 (mM_n i177_567.2) rfl rfl ?_
                                refine V_iload_n (c := cI) i177_568.1 (mM_n i177_568.2) rfl ?_
                                refine V_iconst (c := cI) i177_569.1 (mM_n i177_569.2) (v := 1) rfl ?_
                                refine V_iadd (c := cI) i177_570.1 (mM_n i177_570.2)  ?_
                                refine V_sload (c := cI) i177_571.1 (mM_n i177_571.2) rfl (fun _ => ?_)
                                refine V_cvI (c := cI) (As := [.int (X.2 (x3 + 1).toNatClampNeg)]) (rest := [.int r154]) i177_572.1 (mM_n i177_572.2) c177_75 rfl rfl rfl rfl (Nat.le_of_ble_eq_true rfl) rfl (fun r156 S155 => ?_)
                                refine V_icmp_eq (c := cI) i177_575.1 (mM_n i177_575.2) rfl (fun _ => ?_) (fun _ => ?_)
                                · exact V_msk (l1 := [some (.ref mSid), some (.ref 0), some (.ref 55), some (.int x3)]) i177_834.2 rfl rfl
                                · refine V_iconst (c := cI) i177_578.1 (mM_n i177_578.2) (v := 0) rfl ?_
                                  exact V_iret i177_579.1 (mM_n i177_579.2) rfl
                              ·
                                refine V_ite (fun hc14 => ?_) (fun hc14 => ?_)
                                · refine V_sw (c := cI) i177_32.1 (mM_n i177_32.2) (o := 548) (by rw [hc14]; rfl) rfl ?_
                                  refine V_aload_n (c := cI) i177_580.1 (mM_n i177_580.2) rfl rfl ?_
                                  refine V_aload_n (c := cI) i177_581.1 (mM_n i177_581.2) rfl rfl ?_
                                  refine V_iload_n (c := cI) i177_582.1 (mM_n i177_582.2) rfl ?_
                                  refine V_iconst (c := cI) i177_583.1 (mM_n i177_583.2) (v := 1) rfl ?_
                                  refine V_iadd (c := cI) i177_584.1 (mM_n i177_584.2)  ?_
                                  refine V_sload (c := cI) i177_585.1 (mM_n i177_585.2) rfl (fun _ => ?_)
                                  refine V_cvI (c := cI) (As := [.int (X.2 (x3 + 1).toNatClampNeg)]) (rest := []) i177_586.1 (mM_n i177_586.2) c177_76 rfl rfl rfl rfl (Nat.le_of_ble_eq_true rfl) rfl (fun r158 S157 => ?_)
                                  refine V_aload_n (c := cI) i177_589.1 (mM_n i177_589.2) rfl rfl ?_
                                  refine V_aload_n (c := cI) i177_590.1 (mM_n i177_590.2) rfl rfl ?_
                                  refine V_iload_n (c := cI) i177_591.1 (mM_n i177_591.2) rfl ?_
                                  refine V_iconst (c := cI) i177_592.1 (mM_n i177_592.2) (v := 1) rfl ?_
                                  refine V_iadd (c := cI) i177_593.1 (mM_n i177_593.2)  ?_
                                  refine V_sload (c := cI) i177_594.1 (mM_n i177_594.2) rfl (fun _ => ?_)
                                  refine V_cvI (c := cI) (As := [.int (X.2 (x3 + 1).toNatClampNeg)]) (rest := [.int r158]) i177_595.1 (mM_n i177_595.2) c177_79 rfl rfl rfl rfl (Nat.le_of_ble_eq_true rfl) rfl (fun r160 S159 => ?_)
                                  refine V_icmp_eq (c := cI) i177_598.1 (mM_n i177_598.2) rfl (fun _ => ?_) (fun _ => ?_)
                                  · exact V_msk (l1 := [some (.ref mSid), some (.ref 0), some (.ref 55), some (.int x3)]) i177_834.2 rfl rfl
                                  · refine V_iconst (c := cI) i177_601.1 (mM_n i177_601.2) (v := 0) rfl ?_
                                    exact V_iret i177_602.1 (mM_n i177_602.2) rfl
                                ·
                                  refine V_ite (fun hc15 => ?_) (fun hc15 => ?_)
                                  · refine V_sw (c := cI) i177_32.1 (mM_n i177_32.2) (o := 571) (by rw [hc15]; rfl) rfl ?_
                                    refine V_aload_n (c := cI) i177_603.1 (mM_n i177_603.2) rfl rfl ?_
                                    refine V_aload_n (c := cI) i177_604.1 (mM_n i177_604.2) rfl rfl ?_
                                    refine V_iload_n (c := cI) i177_605.1 (mM_n i177_605.2) rfl ?_
                                    refine V_iconst (c := cI) i177_606.1 (mM_n i177_606.2) (v := 1) rfl ?_
                                    refine V_iadd (c := cI) i177_607.1 (mM_n i177_607.2)  ?_
                                    refine V_sload (c := cI) i177_608.1 (mM_n i177_608.2) rfl (fun _ => ?_)
                                    refine V_cvI (c := cI) (As := [.int (X.2 (x3 + 1).toNatClampNeg)]) (rest := []) i177_609.1 (mM_n i177_609.2) c177_80 rfl rfl rfl rfl (Nat.le_of_ble_eq_true rfl) rfl (fun r162 S161 => ?_)
                                    refine V_aload_n (c := cI) i177_612.1 (mM_n i177_612.2) rfl rfl ?_
                                    refine V_aload_n (c := cI) i177_613.1 (mM_n i177_613.2) rfl rfl ?_
                                    refine V_iload_n (c := cI) i177_614.1 (mM_n i177_614.2) rfl ?_
                                    refine V_iconst (c := cI) i177_615.1 (mM_n i177_615.2) (v := 1) rfl ?_
                                    refine V_iadd (c := cI) i177_616.1 (mM_n i177_616.2)  ?_
                                    refine V_sload (c := cI) i177_617.1 (mM_n i177_617.2) rfl (fun _ => ?_)
                                    refine V_cvI (c := cI) (As := [.int (X.2 (x3 + 1).toNatClampNeg)]) (rest := [.int r162]) i177_618.1 (mM_n i177_618.2) c177_83 rfl rfl rfl rfl (Nat.le_of_ble_eq_true rfl) rfl (fun r164 S163 => ?_)
                                    refine V_icmp_eq (c := cI) i177_621.1 (mM_n i177_621.2) rfl (fun _ => ?_) (fun _ => ?_)
                                    · exact V_msk (l1 := [some (.ref mSid), some (.ref 0), some (.ref 55), some (.int x3)]) i177_834.2 rfl rfl
                                    · refine V_iconst (c := cI) i177_624.1 (mM_n i177_624.2) (v := 0) rfl ?_
                                      exact V_iret i177_625.1 (mM_n i177_625.2) rfl
                                  ·
                                    refine V_ite (fun hc16 => ?_) (fun hc16 => ?_)
                                    · refine V_sw (c := cI) i177_32.1 (mM_n i177_32.2) (o := 594) (by rw [hc16]; rfl) rfl ?_
                                      refine V_aload_n (c := cI) i177_626.1 (mM_n i177_626.2) rfl rfl ?_
                                      refine V_aload_n (c := cI) i177_627.1 (mM_n i177_627.2) rfl rfl ?_
                                      refine V_iload_n (c := cI) i177_628.1 (mM_n i177_628.2) rfl ?_
                                      refine V_iconst (c := cI) i177_629.1 (mM_n i177_629.2) (v := 1) rfl ?_
                                      refine V_iadd (c := cI) i177_630.1 (mM_n i177_630.2)  ?_
                                      refine V_sload (c := cI) i177_631.1 (mM_n i177_631.2) rfl (fun _ => ?_)
                                      refine V_cvI (c := cI) (As := [.int (X.2 (x3 + 1).toNatClampNeg)]) (rest := []) i177_632.1 (mM_n i177_632.2) c177_84 rfl rfl rfl rfl (Nat.le_of_ble_eq_true rfl) rfl (fun r166 S165 => ?_)
                                      refine V_aload_n (c := cI) i177_635.1 (mM_n i177_635.2) rfl rfl ?_
                                      refine V_aload_n (c := cI) i177_636.1 (mM_n i177_636.2) rfl rfl ?_
                                      refine V_iload_n (c := cI) i177_637.1 (mM_n i177_637.2) rfl ?_
                                      refine V_iconst (c := cI) i177_638.1 (mM_n i177_638.2) (v := 1) rfl ?_
                                      refine V_iadd (c := cI) i177_639.1 (mM_n i177_639.2)  ?_
                                      refine V_sload (c := cI) i177_640.1 (mM_n i177_640.2) rfl (fun _ => ?_)
                                      refine V_cvI (c := cI) (As := [.int (X.2 (x3 + 1).toNatClampNeg)]) (rest := [.int r166]) i177_641.1 (mM_n i177_641.2) c177_87 rfl rfl rfl rfl (Nat.le_of_ble_eq_true rfl) rfl (fun r168 S167 => ?_)
                                      refine V_icmp_eq (c := cI) i177_644.1 (mM_n i177_644.2) rfl (fun _ => ?_) (fun _ => ?_)
                                      · exact V_msk (l1 := [some (.ref mSid), some (.ref 0), some (.ref 55), some (.int x3)]) i177_834.2 rfl rfl
                                      · refine V_iconst (c := cI) i177_647.1 (mM_n i177_647.2) (v := 0) rfl ?_
                                        exact V_iret i177_648.1 (mM_n i177_648.2) rfl
                                    ·
                                      refine V_ite (fun hc17 => ?_) (fun hc17 => ?_)
                                      · refine V_sw (c := cI) i177_32.1 (mM_n i177_32.2) (o := 617) (by rw [hc17]; rfl) rfl ?_
                                        refine V_aload_n (c := cI) i177_649.1 (mM_n i177_649.2) rfl rfl ?_
                                        refine V_aload_n (c := cI) i177_650.1 (mM_n i177_650.2) rfl rfl ?_
                                        refine V_iload_n (c := cI) i177_651.1 (mM_n i177_651.2) rfl ?_
                                        refine V_iconst (c := cI) i177_652.1 (mM_n i177_652.2) (v := 1) rfl ?_
                                        refine V_iadd (c := cI) i177_653.1 (mM_n i177_653.2)  ?_
                                        refine V_sload (c := cI) i177_654.1 (mM_n i177_654.2) rfl (fun _ => ?_)
                                        refine V_cvI (c := cI) (As := [.int (X.2 (x3 + 1).toNatClampNeg)]) (rest := []) i177_655.1 (mM_n i177_655.2) c177_88 rfl rfl rfl rfl (Nat.le_of_ble_eq_true rfl) rfl (fun r170 S169 => ?_)
                                        refine V_aload_n (c := cI) i177_658.1 (mM_n i177_658.2) rfl rfl ?_
                                        refine V_aload_n (c := cI) i177_659.1 (mM_n i177_659.2) rfl rfl ?_
                                        refine V_iload_n (c := cI) i177_660.1 (mM_n i177_660.2) rfl ?_
                                        refine V_iconst (c := cI) i177_661.1 (mM_n i177_661.2) (v := 1) rfl ?_
                                        refine V_iadd (c := cI) i177_662.1 (mM_n i177_662.2)  ?_
                                        refine V_sload (c := cI) i177_663.1 (mM_n i177_663.2) rfl (fun _ => ?_)
                                        refine V_cvI (c := cI) (As := [.int (X.2 (x3 + 1).toNatClampNeg)]) (rest := [.int r170]) i177_664.1 (mM_n i177_664.2) c177_91 rfl rfl rfl rfl (Nat.le_of_ble_eq_true rfl) rfl (fun r172 S171 => ?_)
                                        refine V_icmp_eq (c := cI) i177_667.1 (mM_n i177_667.2) rfl (fun _ => ?_) (fun _ => ?_)
                                        · exact V_msk (l1 := [some (.ref mSid), some (.ref 0), some (.ref 55), some (.int x3)]) i177_834.2 rfl rfl
                                        · refine V_iconst (c := cI) i177_670.1 (mM_n i177_670.2) (v := 0) rfl ?_
                                          exact V_iret i177_671.1 (mM_n i177_671.2) rfl
                                      ·
                                        refine V_ite (fun hc18 => ?_) (fun hc18 => ?_)
                                        · refine V_sw (c := cI) i177_32.1 (mM_n i177_32.2) (o := 640) (by rw [hc18]; rfl) rfl ?_
                                          refine V_aload_n (c := cI) i177_672.1 (mM_n i177_672.2) rfl rfl ?_
                                          refine V_aload_n (c := cI) i177_673.1 (mM_n i177_673.2) rfl rfl ?_
                                          refine V_iload_n (c := cI) i177_674.1 (mM_n i177_674.2) rfl ?_
                                          refine V_iconst (c := cI) i177_675.1 (mM_n i177_675.2) (v := 1) rfl ?_
                                          refine V_iadd (c := cI) i177_676.1 (mM_n i177_676.2)  ?_
                                          refine V_sload (c := cI) i177_677.1 (mM_n i177_677.2) rfl (fun _ => ?_)
                                          refine V_cvI (c := cI) (As := [.int (X.2 (x3 + 1).toNatClampNeg)]) (rest := []) i177_678.1 (mM_n i177_678.2) c177_92 rfl rfl rfl rfl (Nat.le_of_ble_eq_true rfl) rfl (fun r174 S173 => ?_)
                                          refine V_aload_n (c := cI) i177_681.1 (mM_n i177_681.2) rfl rfl ?_
                                          refine V_aload_n (c := cI) i177_682.1 (mM_n i177_682.2) rfl rfl ?_
                                          refine V_iload_n (c := cI) i177_683.1 (mM_n i177_683.2) rfl ?_
                                          refine V_iconst (c := cI) i177_684.1 (mM_n i177_684.2) (v := 1) rfl ?_
                                          refine V_iadd (c := cI) i177_685.1 (mM_n i177_685.2)  ?_
                                          refine V_sload (c := cI) i177_686.1 (mM_n i177_686.2) rfl (fun _ => ?_)
                                          refine V_cvI (c := cI) (As := [.int (X.2 (x3 + 1).toNatClampNeg)]) (rest := [.int r174]) i177_687.1 (mM_n i177_687.2) c177_95 rfl rfl rfl rfl (Nat.le_of_ble_eq_true rfl) rfl (fun r176 S175 => ?_)
                                          refine V_icmp_eq (c := cI) i177_690.1 (mM_n i177_690.2) rfl (fun _ => ?_) (fun _ => ?_)
                                          · exact V_msk (l1 := [some (.ref mSid), some (.ref 0), some (.ref 55), some (.int x3)]) i177_834.2 rfl rfl
                                          · refine V_iconst (c := cI) i177_693.1 (mM_n i177_693.2) (v := 0) rfl ?_
                                            exact V_iret i177_694.1 (mM_n i177_694.2) rfl
                                        ·
                                          refine V_ite (fun hc19 => ?_) (fun hc19 => ?_)
                                          · refine V_sw (c := cI) i177_32.1 (mM_n i177_32.2) (o := 663) (by rw [hc19]; rfl) rfl ?_
                                            refine V_aload_n (c := cI) i177_695.1 (mM_n i177_695.2) rfl rfl ?_
                                            refine V_aload_n (c := cI) i177_696.1 (mM_n i177_696.2) rfl rfl ?_
                                            refine V_iload_n (c := cI) i177_697.1 (mM_n i177_697.2) rfl ?_
                                            refine V_iconst (c := cI) i177_698.1 (mM_n i177_698.2) (v := 1) rfl ?_
                                            refine V_iadd (c := cI) i177_699.1 (mM_n i177_699.2)  ?_
                                            refine V_sload (c := cI) i177_700.1 (mM_n i177_700.2) rfl (fun _ => ?_)
                                            refine V_aload_n (c := cI) i177_701.1 (mM_n i177_701.2) rfl rfl ?_
                                            refine V_iload_n (c := cI) i177_702.1 (mM_n i177_702.2) rfl ?_
                                            refine V_iconst (c := cI) i177_703.1 (mM_n i177_703.2) (v := 2) rfl ?_
                                            refine V_iadd (c := cI) i177_704.1 (mM_n i177_704.2)  ?_
                                            refine V_sload (c := cI) i177_705.1 (mM_n i177_705.2) rfl (fun _ => ?_)
                                            refine V_cvI (c := cI) (As := [.int (X.2 (x3 + 1).toNatClampNeg), .int (X.2 (x3 + 2).toNatClampNeg)]) (rest := []) i177_706.1 (mM_n i177_706.2) c177_96 rfl rfl rfl rfl (Nat.le_of_ble_eq_true rfl) rfl (fun r178 S177 => ?_)
                                            refine V_aload_n (c := cI) i177_709.1 (mM_n i177_709.2) rfl rfl ?_
                                            refine V_aload_n (c := cI) i177_710.1 (mM_n i177_710.2) rfl rfl ?_
                                            refine V_iload_n (c := cI) i177_711.1 (mM_n i177_711.2) rfl ?_
                                            refine V_iconst (c := cI) i177_712.1 (mM_n i177_712.2) (v := 1) rfl ?_
                                            refine V_iadd (c := cI) i177_713.1 (mM_n i177_713.2)  ?_
                                            refine V_sload (c := cI) i177_714.1 (mM_n i177_714.2) rfl (fun _ => ?_)
                                            refine V_aload_n (c := cI) i177_715.1 (mM_n i177_715.2) rfl rfl ?_
                                            refine V_iload_n (c := cI) i177_716.1 (mM_n i177_716.2) rfl ?_
                                            refine V_iconst (c := cI) i177_717.1 (mM_n i177_717.2) (v := 2) rfl ?_
                                            refine V_iadd (c := cI) i177_718.1 (mM_n i177_718.2)  ?_
                                            refine V_sload (c := cI) i177_719.1 (mM_n i177_719.2) rfl (fun _ => ?_)
                                            refine V_cvI (c := cI) (As := [.int (X.2 (x3 + 1).toNatClampNeg), .int (X.2 (x3 + 2).toNatClampNeg)]) (rest := [.int r178]) i177_720.1 (mM_n i177_720.2) c177_99 rfl rfl rfl rfl (Nat.le_of_ble_eq_true rfl) rfl (fun r180 S179 => ?_)
                                            refine V_icmp_eq (c := cI) i177_723.1 (mM_n i177_723.2) rfl (fun _ => ?_) (fun _ => ?_)
                                            · exact V_msk (l1 := [some (.ref mSid), some (.ref 0), some (.ref 55), some (.int x3)]) i177_834.2 rfl rfl
                                            · refine V_iconst (c := cI) i177_726.1 (mM_n i177_726.2) (v := 0) rfl ?_
                                              exact V_iret i177_727.1 (mM_n i177_727.2) rfl
                                          ·
                                            refine V_ite (fun hc20 => ?_) (fun hc20 => ?_)
                                            · refine V_sw (c := cI) i177_32.1 (mM_n i177_32.2) (o := 696) (by rw [hc20]; rfl) rfl ?_
                                              refine V_aload_n (c := cI) i177_728.1 (mM_n i177_728.2) rfl rfl ?_
                                              refine V_aload_n (c := cI) i177_729.1 (mM_n i177_729.2) rfl rfl ?_
                                              refine V_iload_n (c := cI) i177_730.1 (mM_n i177_730.2) rfl ?_
                                              refine V_iconst (c := cI) i177_731.1 (mM_n i177_731.2) (v := 1) rfl ?_
                                              refine V_iadd (c := cI) i177_732.1 (mM_n i177_732.2)  ?_
                                              refine V_sload (c := cI) i177_733.1 (mM_n i177_733.2) rfl (fun _ => ?_)
                                              refine V_aload_n (c := cI) i177_734.1 (mM_n i177_734.2) rfl rfl ?_
                                              refine V_iload_n (c := cI) i177_735.1 (mM_n i177_735.2) rfl ?_
                                              refine V_iconst (c := cI) i177_736.1 (mM_n i177_736.2) (v := 2) rfl ?_
                                              refine V_iadd (c := cI) i177_737.1 (mM_n i177_737.2)  ?_
                                              refine V_sload (c := cI) i177_738.1 (mM_n i177_738.2) rfl (fun _ => ?_)
                                              refine V_aload_n (c := cI) i177_739.1 (mM_n i177_739.2) rfl rfl ?_
                                              refine V_iload_n (c := cI) i177_740.1 (mM_n i177_740.2) rfl ?_
                                              refine V_iconst (c := cI) i177_741.1 (mM_n i177_741.2) (v := 3) rfl ?_
                                              refine V_iadd (c := cI) i177_742.1 (mM_n i177_742.2)  ?_
                                              refine V_sload (c := cI) i177_743.1 (mM_n i177_743.2) rfl (fun _ => ?_)
                                              refine V_cvI (c := cI) (As := [.int (X.2 (x3 + 1).toNatClampNeg), .int (X.2 (x3 + 2).toNatClampNeg), .int (X.2 (x3 + 3).toNatClampNeg)]) (rest := []) i177_744.1 (mM_n i177_744.2) c177_100 rfl rfl rfl rfl (Nat.le_of_ble_eq_true rfl) rfl (fun r182 S181 => ?_)
                                              refine V_aload_n (c := cI) i177_747.1 (mM_n i177_747.2) rfl rfl ?_
                                              refine V_aload_n (c := cI) i177_748.1 (mM_n i177_748.2) rfl rfl ?_
                                              refine V_iload_n (c := cI) i177_749.1 (mM_n i177_749.2) rfl ?_
                                              refine V_iconst (c := cI) i177_750.1 (mM_n i177_750.2) (v := 1) rfl ?_
                                              refine V_iadd (c := cI) i177_751.1 (mM_n i177_751.2)  ?_
                                              refine V_sload (c := cI) i177_752.1 (mM_n i177_752.2) rfl (fun _ => ?_)
                                              refine V_aload_n (c := cI) i177_753.1 (mM_n i177_753.2) rfl rfl ?_
                                              refine V_iload_n (c := cI) i177_754.1 (mM_n i177_754.2) rfl ?_
                                              refine V_iconst (c := cI) i177_755.1 (mM_n i177_755.2) (v := 2) rfl ?_
                                              refine V_iadd (c := cI) i177_756.1 (mM_n i177_756.2)  ?_
                                              refine V_sload (c := cI) i177_757.1 (mM_n i177_757.2) rfl (fun _ => ?_)
                                              refine V_aload_n (c := cI) i177_758.1 (mM_n i177_758.2) rfl rfl ?_
                                              refine V_iload_n (c := cI) i177_759.1 (mM_n i177_759.2) rfl ?_
                                              refine V_iconst (c := cI) i177_760.1 (mM_n i177_760.2) (v := 3) rfl ?_
                                              refine V_iadd (c := cI) i177_761.1 (mM_n i177_761.2)  ?_
                                              refine V_sload (c := cI) i177_762.1 (mM_n i177_762.2) rfl (fun _ => ?_)
                                              refine V_cvI (c := cI) (As := [.int (X.2 (x3 + 1).toNatClampNeg), .int (X.2 (x3 + 2).toNatClampNeg), .int (X.2 (x3 + 3).toNatClampNeg)]) (rest := [.int r182]) i177_763.1 (mM_n i177_763.2) c177_104 rfl rfl rfl rfl (Nat.le_of_ble_eq_true rfl) rfl (fun r184 S183 => ?_)
                                              refine V_icmp_eq (c := cI) i177_766.1 (mM_n i177_766.2) rfl (fun _ => ?_) (fun _ => ?_)
                                              · exact V_msk (l1 := [some (.ref mSid), some (.ref 0), some (.ref 55), some (.int x3)]) i177_834.2 rfl rfl
                                              · refine V_iconst (c := cI) i177_769.1 (mM_n i177_769.2) (v := 0) rfl ?_
                                                exact V_iret i177_770.1 (mM_n i177_770.2) rfl
                                            ·
                                              refine V_ite (fun hc21 => ?_) (fun hc21 => ?_)
                                              · refine V_sw (c := cI) i177_32.1 (mM_n i177_32.2) (o := 739) (by rw [hc21]; rfl) rfl ?_
                                                refine V_aload_n (c := cI) i177_771.1 (mM_n i177_771.2) rfl rfl ?_
                                                refine V_cvI (c := cI) (As := []) (rest := []) i177_772.1 (mM_n i177_772.2) c177_105 rfl rfl rfl rfl (Nat.le_of_ble_eq_true rfl) rfl (fun r186 S185 => ?_)
                                                refine V_aload_n (c := cI) i177_775.1 (mM_n i177_775.2) rfl rfl ?_
                                                refine V_cvI (c := cI) (As := []) (rest := [.int r186]) i177_776.1 (mM_n i177_776.2) c177_108 rfl rfl rfl rfl (Nat.le_of_ble_eq_true rfl) rfl (fun r188 S187 => ?_)
                                                refine V_icmp_eq (c := cI) i177_779.1 (mM_n i177_779.2) rfl (fun _ => ?_) (fun _ => ?_)
                                                · exact V_msk (l1 := [some (.ref mSid), some (.ref 0), some (.ref 55), some (.int x3)]) i177_834.2 rfl rfl
                                                · refine V_iconst (c := cI) i177_782.1 (mM_n i177_782.2) (v := 0) rfl ?_
                                                  exact V_iret i177_783.1 (mM_n i177_783.2) rfl
                                              ·
                                                refine V_ite (fun hc22 => ?_) (fun hc22 => ?_)
                                                · refine V_sw (c := cI) i177_32.1 (mM_n i177_32.2) (o := 752) (by rw [hc22]; rfl) rfl ?_
                                                  refine V_aload_n (c := cI) i177_784.1 (mM_n i177_784.2) rfl rfl ?_
                                                  refine V_cvI (c := cI) (As := []) (rest := []) i177_785.1 (mM_n i177_785.2) c177_109 rfl rfl rfl rfl (Nat.le_of_ble_eq_true rfl) rfl (fun r190 S189 => ?_)
                                                  refine V_aload_n (c := cI) i177_788.1 (mM_n i177_788.2) rfl rfl ?_
                                                  refine V_cvI (c := cI) (As := []) (rest := [.int r190]) i177_789.1 (mM_n i177_789.2) c177_112 rfl rfl rfl rfl (Nat.le_of_ble_eq_true rfl) rfl (fun r192 S191 => ?_)
                                                  refine V_icmp_eq (c := cI) i177_792.1 (mM_n i177_792.2) rfl (fun _ => ?_) (fun _ => ?_)
                                                  · exact V_msk (l1 := [some (.ref mSid), some (.ref 0), some (.ref 55), some (.int x3)]) i177_834.2 rfl rfl
                                                  · refine V_iconst (c := cI) i177_795.1 (mM_n i177_795.2) (v := 0) rfl ?_
                                                    exact V_iret i177_796.1 (mM_n i177_796.2) rfl
                                                ·
                                                  refine V_ite (fun hc23 => ?_) (fun hc23 => ?_)
                                                  · refine V_sw (c := cI) i177_32.1 (mM_n i177_32.2) (o := 765) (by rw [hc23]; rfl) rfl ?_
                                                    refine V_aload_n (c := cI) i177_797.1 (mM_n i177_797.2) rfl rfl ?_
                                                    refine V_aload_n (c := cI) i177_798.1 (mM_n i177_798.2) rfl rfl ?_
                                                    refine V_iload_n (c := cI) i177_799.1 (mM_n i177_799.2) rfl ?_
                                                    refine V_iconst (c := cI) i177_800.1 (mM_n i177_800.2) (v := 1) rfl ?_
                                                    refine V_iadd (c := cI) i177_801.1 (mM_n i177_801.2)  ?_
                                                    refine V_sload (c := cI) i177_802.1 (mM_n i177_802.2) rfl (fun _ => ?_)
                                                    refine V_cvI (c := cI) (As := [.int (X.2 (x3 + 1).toNatClampNeg)]) (rest := []) i177_803.1 (mM_n i177_803.2) c177_113 rfl rfl rfl rfl (Nat.le_of_ble_eq_true rfl) rfl (fun r194 S193 => ?_)
                                                    refine V_aload_n (c := cI) i177_806.1 (mM_n i177_806.2) rfl rfl ?_
                                                    refine V_aload_n (c := cI) i177_807.1 (mM_n i177_807.2) rfl rfl ?_
                                                    refine V_iload_n (c := cI) i177_808.1 (mM_n i177_808.2) rfl ?_
                                                    refine V_iconst (c := cI) i177_809.1 (mM_n i177_809.2) (v := 1) rfl ?_
                                                    refine V_iadd (c := cI) i177_810.1 (mM_n i177_810.2)  ?_
                                                    refine V_sload (c := cI) i177_811.1 (mM_n i177_811.2) rfl (fun _ => ?_)
                                                    refine V_cvI (c := cI) (As := [.int (X.2 (x3 + 1).toNatClampNeg)]) (rest := [.int r194]) i177_812.1 (mM_n i177_812.2) c177_116 rfl rfl rfl rfl (Nat.le_of_ble_eq_true rfl) rfl (fun r196 S195 => ?_)
                                                    refine V_icmp_eq (c := cI) i177_815.1 (mM_n i177_815.2) rfl (fun _ => ?_) (fun _ => ?_)
                                                    · exact V_msk (l1 := [some (.ref mSid), some (.ref 0), some (.ref 55), some (.int x3)]) i177_834.2 rfl rfl
                                                    · refine V_iconst (c := cI) i177_818.1 (mM_n i177_818.2) (v := 0) rfl ?_
                                                      exact V_iret i177_819.1 (mM_n i177_819.2) rfl
                                                  ·
                                                    refine V_ite (fun hc24 => ?_) (fun hc24 => ?_)
                                                    · refine V_sw (c := cI) i177_32.1 (mM_n i177_32.2) (o := 788) (by rw [hc24]; rfl) rfl ?_
                                                      refine V_aload_n (c := cI) i177_820.1 (mM_n i177_820.2) rfl rfl ?_
                                                      refine V_cvJ (c := cI) (As := []) (rest := []) i177_821.1 (mM_n i177_821.2) c177_117 rfl rfl rfl rfl (Nat.le_of_ble_eq_true rfl) rfl (fun r198 S197 => ?_)
                                                      refine V_aload_n (c := cI) i177_824.1 (mM_n i177_824.2) rfl rfl ?_
                                                      refine V_cvJ (c := cI) (As := []) (rest := [.long r198]) i177_825.1 (mM_n i177_825.2) c177_121 rfl rfl rfl rfl (Nat.le_of_ble_eq_true rfl) rfl (fun r200 S199 => ?_)
                                                      refine V_lcmp (c := cI) i177_828.1 (mM_n i177_828.2)  ?_
                                                      refine V_if_eq (c := cI) i177_829.1 (mM_n i177_829.2) rfl (fun _ => ?_) (fun _ => ?_)
                                                      · exact V_msk (l1 := [some (.ref mSid), some (.ref 0), some (.ref 55), some (.int x3)]) i177_834.2 rfl rfl
                                                      · refine V_iconst (c := cI) i177_832.1 (mM_n i177_832.2) (v := 0) rfl ?_
                                                        exact V_iret i177_833.1 (mM_n i177_833.2) rfl
                                                    ·
                                                      refine V_sw (c := cI) i177_32.1 (mM_n i177_32.2) (sw_o (n := 25) (by decide) (lt_s (lt_s (lt_s (lt_s (lt_s (lt_s (lt_s (lt_s (lt_s (lt_s (lt_s (lt_s (lt_s (lt_s (lt_s (lt_s (lt_s (lt_s (lt_s (lt_s (lt_s (lt_s (lt_s (lt_s (lt_s lt_0 hc0) hc1) hc2) hc3) hc4) hc5) hc6) hc7) hc8) hc9) hc10) hc11) hc12) hc13) hc14) hc15) hc16) hc17) hc18) hc19) hc20) hc21) hc22) hc23) hc24)) rfl ?_
                                                      exact V_msk (l1 := [some (.ref mSid), some (.ref 0), some (.ref 55), some (.int x3)]) i177_834.2 rfl rfl
theorem k_Law_law_834_eq (X : mX) {x3 : Int32} (hX : ¬ X.1 = 0) {S : Mem} : k_Law_law_834 X x3 S = k_Law_law_18 X (x3 + 5) S := by
  show cI (mV oS X 177 834 [some (.ref mSid), some (.ref 0), some (.ref 55), some (.int x3)] [] S) = _
  refine V_iinc (c := cI) i177_834.1 (mM_s i177_834.2 rfl) (l1 := [some (.ref mSid), some (.ref 0), some (.ref 55), some (.int (x3 + 5))]) rfl rfl rfl ?_
  refine V_goto (c := cI) i177_837.1 (mM_n i177_837.2) rfl ?_
  exact V_msk (l1 := [some (.ref mSid), some (.ref 0), some (.ref 55), some (.int (x3 + 5))]) i177_18.2 rfl rfl
