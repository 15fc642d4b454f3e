/-! blocks of the law from its loop on: printed by a program -/
noncomputable def gI (X : mX) (y : Nat) (en : mL) (S : Mem) : Option (Int32 × Mem) := cI (mV oS X y 0 en [] S)
noncomputable def gJ (X : mX) (y : Nat) (en : mL) (S : Mem) : Option (Int64 × Mem) := cJ (mV oS X y 0 en [] S)
noncomputable def k_Law_law_18 (X : mX) (x3 : Int32) (S : Mem) : Option (Int32 × Mem) := cI (mV oS X 178 18 [some (.ref mSid), some (.ref 0), some (.ref 55), some (.int x3)] [] S)
noncomputable def k_Law_law_834 (X : mX) (x3 : Int32) (S : Mem) : Option (Int32 × Mem) := cI (mV oS X 178 834 [some (.ref mSid), some (.ref 0), some (.ref 55), some (.int x3)] [] S)
theorem gI_ok {X : mX} {y : Nat} {en : mL} {S : Mem} {q : Int32 × Mem} (h : gI X0 y en S = some q) : gI X y en S = some q := by
  unfold gI at h ⊢
  cases e : mV oS X0 y 0 en [] S with
  | none => rw [e] at h; cases h
  | some r => rw [mV_X e, ← e]; exact h
theorem gJ_ok {X : mX} {y : Nat} {en : mL} {S : Mem} {q : Int64 × Mem} (h : gJ X0 y en S = some q) : gJ X y en S = some q := by
  unfold gJ at h ⊢
  cases e : mV oS X0 y 0 en [] S with
  | none => rw [e] at h; cases h
  | some r => rw [mV_X e, ← e]; exact h
theorem i178_18 : decode (mCd 178) 18 = .ok (.iload_n 3, 1) ∧ lk (mMsk 178) 18 = some [true, true, true, true] := by decide +kernel
theorem i178_19 : decode (mCd 178) 19 = .ok (.aload_n 0, 1) ∧ lk (mMsk 178) 19 = none := by decide +kernel
theorem i178_20 : decode (mCd 178) 20 = .ok (.arraylength, 1) ∧ lk (mMsk 178) 20 = none := by decide +kernel
theorem i178_21 : decode (mCd 178) 21 = .ok (.iconst 5, 1) ∧ lk (mMsk 178) 21 = none := by decide +kernel
theorem i178_22 : decode (mCd 178) 22 = .ok (.isub, 1) ∧ lk (mMsk 178) 22 = none := by decide +kernel
theorem i178_23 : decode (mCd 178) 23 = .ok (.if_icmp .gt 817, 3) ∧ lk (mMsk 178) 23 = none := by decide +kernel
theorem i178_840 : decode (mCd 178) 840 = .ok (.iconst 1, 1) ∧ lk (mMsk 178) 840 = none := by decide +kernel
theorem i178_841 : decode (mCd 178) 841 = .ok (.ireturn, 1) ∧ lk (mMsk 178) 841 = none := by decide +kernel
theorem i178_26 : decode (mCd 178) 26 = .ok (.aload_n 0, 1) ∧ lk (mMsk 178) 26 = none := by decide +kernel
theorem i178_27 : decode (mCd 178) 27 = .ok (.iload_n 3, 1) ∧ lk (mMsk 178) 27 = none := by decide +kernel
theorem i178_28 : decode (mCd 178) 28 = .ok (.iaload, 1) ∧ lk (mMsk 178) 28 = none := by decide +kernel
theorem i178_29 : decode (mCd 178) 29 = .ok (.bipush 31, 2) ∧ lk (mMsk 178) 29 = none := by decide +kernel
theorem i178_31 : decode (mCd 178) 31 = .ok (.iand, 1) ∧ lk (mMsk 178) 31 = none := by decide +kernel
theorem i178_32 : decode (mCd 178) 32 = .ok (.tableswitch 802 0 24 #[116, 169, 182, 205, 218, 251, 304, 337, 370, 393, 426, 459, 492, 525, 548, 571, 594, 617, 640, 663, 696, 739, 752, 765, 788], 116) ∧ lk (mMsk 178) 32 = none := by decide +kernel
theorem i178_148 : decode (mCd 178) 148 = .ok (.aload_n 1, 1) ∧ lk (mMsk 178) 148 = none := by decide +kernel
theorem i178_149 : decode (mCd 178) 149 = .ok (.aload_n 0, 1) ∧ lk (mMsk 178) 149 = none := by decide +kernel
theorem i178_150 : decode (mCd 178) 150 = .ok (.iload_n 3, 1) ∧ lk (mMsk 178) 150 = none := by decide +kernel
theorem i178_151 : decode (mCd 178) 151 = .ok (.iconst 1, 1) ∧ lk (mMsk 178) 151 = none := by decide +kernel
theorem i178_152 : decode (mCd 178) 152 = .ok (.iadd, 1) ∧ lk (mMsk 178) 152 = none := by decide +kernel
theorem i178_153 : decode (mCd 178) 153 = .ok (.iaload, 1) ∧ lk (mMsk 178) 153 = none := by decide +kernel
theorem i178_154 : decode (mCd 178) 154 = .ok (.i2l, 1) ∧ lk (mMsk 178) 154 = none := by decide +kernel
theorem i178_155 : decode (mCd 178) 155 = .ok (.bipush 32, 2) ∧ lk (mMsk 178) 155 = none := by decide +kernel
theorem i178_157 : decode (mCd 178) 157 = .ok (.lshl, 1) ∧ lk (mMsk 178) 157 = none := by decide +kernel
theorem i178_158 : decode (mCd 178) 158 = .ok (.aload_n 0, 1) ∧ lk (mMsk 178) 158 = none := by decide +kernel
theorem i178_159 : decode (mCd 178) 159 = .ok (.iload_n 3, 1) ∧ lk (mMsk 178) 159 = none := by decide +kernel
theorem i178_160 : decode (mCd 178) 160 = .ok (.iconst 2, 1) ∧ lk (mMsk 178) 160 = none := by decide +kernel
theorem i178_161 : decode (mCd 178) 161 = .ok (.iadd, 1) ∧ lk (mMsk 178) 161 = none := by decide +kernel
theorem i178_162 : decode (mCd 178) 162 = .ok (.iaload, 1) ∧ lk (mMsk 178) 162 = none := by decide +kernel
theorem i178_163 : decode (mCd 178) 163 = .ok (.i2l, 1) ∧ lk (mMsk 178) 163 = none := by decide +kernel
theorem i178_164 : decode (mCd 178) 164 = .ok (.ldc2_w 13, 3) ∧ lk (mMsk 178) 164 = none := by decide +kernel
theorem q178_13 : lk (mKt (mOwn 178)) 13 = some (.inr 4294967295) := by decide +kernel
theorem i178_167 : decode (mCd 178) 167 = .ok (.land, 1) ∧ lk (mMsk 178) 167 = none := by decide +kernel
theorem i178_168 : decode (mCd 178) 168 = .ok (.lor, 1) ∧ lk (mMsk 178) 168 = none := by decide +kernel
theorem i178_169 : decode (mCd 178) 169 = .ok (.invokevirtual 15, 3) ∧ lk (mMsk 178) 169 = none := by decide +kernel
theorem c178_15 : cvOk 178 15 72 1 0 = true := by decide +kernel
theorem i178_172 : decode (mCd 178) 172 = .ok (.aload_n 2, 1) ∧ lk (mMsk 178) 172 = none := by decide +kernel
theorem i178_173 : decode (mCd 178) 173 = .ok (.aload_n 0, 1) ∧ lk (mMsk 178) 173 = none := by decide +kernel
theorem i178_174 : decode (mCd 178) 174 = .ok (.iload_n 3, 1) ∧ lk (mMsk 178) 174 = none := by decide +kernel
theorem i178_175 : decode (mCd 178) 175 = .ok (.iconst 1, 1) ∧ lk (mMsk 178) 175 = none := by decide +kernel
theorem i178_176 : decode (mCd 178) 176 = .ok (.iadd, 1) ∧ lk (mMsk 178) 176 = none := by decide +kernel
theorem i178_177 : decode (mCd 178) 177 = .ok (.iaload, 1) ∧ lk (mMsk 178) 177 = none := by decide +kernel
theorem i178_178 : decode (mCd 178) 178 = .ok (.i2l, 1) ∧ lk (mMsk 178) 178 = none := by decide +kernel
theorem i178_179 : decode (mCd 178) 179 = .ok (.bipush 32, 2) ∧ lk (mMsk 178) 179 = none := by decide +kernel
theorem i178_181 : decode (mCd 178) 181 = .ok (.lshl, 1) ∧ lk (mMsk 178) 181 = none := by decide +kernel
theorem i178_182 : decode (mCd 178) 182 = .ok (.aload_n 0, 1) ∧ lk (mMsk 178) 182 = none := by decide +kernel
theorem i178_183 : decode (mCd 178) 183 = .ok (.iload_n 3, 1) ∧ lk (mMsk 178) 183 = none := by decide +kernel
theorem i178_184 : decode (mCd 178) 184 = .ok (.iconst 2, 1) ∧ lk (mMsk 178) 184 = none := by decide +kernel
theorem i178_185 : decode (mCd 178) 185 = .ok (.iadd, 1) ∧ lk (mMsk 178) 185 = none := by decide +kernel
theorem i178_186 : decode (mCd 178) 186 = .ok (.iaload, 1) ∧ lk (mMsk 178) 186 = none := by decide +kernel
theorem i178_187 : decode (mCd 178) 187 = .ok (.i2l, 1) ∧ lk (mMsk 178) 187 = none := by decide +kernel
theorem i178_188 : decode (mCd 178) 188 = .ok (.ldc2_w 13, 3) ∧ lk (mMsk 178) 188 = none := by decide +kernel
theorem i178_191 : decode (mCd 178) 191 = .ok (.land, 1) ∧ lk (mMsk 178) 191 = none := by decide +kernel
theorem i178_192 : decode (mCd 178) 192 = .ok (.lor, 1) ∧ lk (mMsk 178) 192 = none := by decide +kernel
theorem i178_193 : decode (mCd 178) 193 = .ok (.invokevirtual 19, 3) ∧ lk (mMsk 178) 193 = none := by decide +kernel
theorem c178_19 : cvOk 178 19 109 1 0 = true := by decide +kernel
theorem i178_196 : decode (mCd 178) 196 = .ok (.if_icmp .eq 638, 3) ∧ lk (mMsk 178) 196 = none := by decide +kernel
theorem i178_834 : decode (mCd 178) 834 = .ok (.iinc 3 5, 3) ∧ lk (mMsk 178) 834 = some [true, true, true, true] := by decide +kernel
theorem i178_199 : decode (mCd 178) 199 = .ok (.iconst 0, 1) ∧ lk (mMsk 178) 199 = none := by decide +kernel
theorem i178_200 : decode (mCd 178) 200 = .ok (.ireturn, 1) ∧ lk (mMsk 178) 200 = none := by decide +kernel
theorem i178_201 : decode (mCd 178) 201 = .ok (.aload_n 1, 1) ∧ lk (mMsk 178) 201 = none := by decide +kernel
theorem i178_202 : decode (mCd 178) 202 = .ok (.invokevirtual 20, 3) ∧ lk (mMsk 178) 202 = none := by decide +kernel
theorem c178_20 : cvOk 178 20 73 0 0 = true := by decide +kernel
theorem i178_205 : decode (mCd 178) 205 = .ok (.aload_n 2, 1) ∧ lk (mMsk 178) 205 = none := by decide +kernel
theorem i178_206 : decode (mCd 178) 206 = .ok (.invokevirtual 24, 3) ∧ lk (mMsk 178) 206 = none := by decide +kernel
theorem c178_24 : cvOk 178 24 110 0 0 = true := by decide +kernel
theorem i178_209 : decode (mCd 178) 209 = .ok (.if_icmp .eq 625, 3) ∧ lk (mMsk 178) 209 = none := by decide +kernel
theorem i178_212 : decode (mCd 178) 212 = .ok (.iconst 0, 1) ∧ lk (mMsk 178) 212 = none := by decide +kernel
theorem i178_213 : decode (mCd 178) 213 = .ok (.ireturn, 1) ∧ lk (mMsk 178) 213 = none := by decide +kernel
theorem i178_214 : decode (mCd 178) 214 = .ok (.aload_n 1, 1) ∧ lk (mMsk 178) 214 = none := by decide +kernel
theorem i178_215 : decode (mCd 178) 215 = .ok (.aload_n 0, 1) ∧ lk (mMsk 178) 215 = none := by decide +kernel
theorem i178_216 : decode (mCd 178) 216 = .ok (.iload_n 3, 1) ∧ lk (mMsk 178) 216 = none := by decide +kernel
theorem i178_217 : decode (mCd 178) 217 = .ok (.iconst 1, 1) ∧ lk (mMsk 178) 217 = none := by decide +kernel
theorem i178_218 : decode (mCd 178) 218 = .ok (.iadd, 1) ∧ lk (mMsk 178) 218 = none := by decide +kernel
theorem i178_219 : decode (mCd 178) 219 = .ok (.iaload, 1) ∧ lk (mMsk 178) 219 = none := by decide +kernel
theorem i178_220 : decode (mCd 178) 220 = .ok (.invokevirtual 25, 3) ∧ lk (mMsk 178) 220 = none := by decide +kernel
theorem c178_25 : cvOk 178 25 74 1 0 = true := by decide +kernel
theorem i178_223 : decode (mCd 178) 223 = .ok (.aload_n 2, 1) ∧ lk (mMsk 178) 223 = none := by decide +kernel
theorem i178_224 : decode (mCd 178) 224 = .ok (.aload_n 0, 1) ∧ lk (mMsk 178) 224 = none := by decide +kernel
theorem i178_225 : decode (mCd 178) 225 = .ok (.iload_n 3, 1) ∧ lk (mMsk 178) 225 = none := by decide +kernel
theorem i178_226 : decode (mCd 178) 226 = .ok (.iconst 1, 1) ∧ lk (mMsk 178) 226 = none := by decide +kernel
theorem i178_227 : decode (mCd 178) 227 = .ok (.iadd, 1) ∧ lk (mMsk 178) 227 = none := by decide +kernel
theorem i178_228 : decode (mCd 178) 228 = .ok (.iaload, 1) ∧ lk (mMsk 178) 228 = none := by decide +kernel
theorem i178_229 : decode (mCd 178) 229 = .ok (.invokevirtual 29, 3) ∧ lk (mMsk 178) 229 = none := by decide +kernel
theorem c178_29 : cvOk 178 29 116 1 0 = true := by decide +kernel
theorem i178_232 : decode (mCd 178) 232 = .ok (.if_icmp .eq 602, 3) ∧ lk (mMsk 178) 232 = none := by decide +kernel
theorem i178_235 : decode (mCd 178) 235 = .ok (.iconst 0, 1) ∧ lk (mMsk 178) 235 = none := by decide +kernel
theorem i178_236 : decode (mCd 178) 236 = .ok (.ireturn, 1) ∧ lk (mMsk 178) 236 = none := by decide +kernel
theorem i178_237 : decode (mCd 178) 237 = .ok (.aload_n 1, 1) ∧ lk (mMsk 178) 237 = none := by decide +kernel
theorem i178_238 : decode (mCd 178) 238 = .ok (.invokevirtual 30, 3) ∧ lk (mMsk 178) 238 = none := by decide +kernel
theorem c178_30 : cvOk 178 30 75 0 0 = true := by decide +kernel
theorem i178_241 : decode (mCd 178) 241 = .ok (.aload_n 2, 1) ∧ lk (mMsk 178) 241 = none := by decide +kernel
theorem i178_242 : decode (mCd 178) 242 = .ok (.invokevirtual 33, 3) ∧ lk (mMsk 178) 242 = none := by decide +kernel
theorem c178_33 : cvOk 178 33 117 0 0 = true := by decide +kernel
theorem i178_245 : decode (mCd 178) 245 = .ok (.if_icmp .eq 589, 3) ∧ lk (mMsk 178) 245 = none := by decide +kernel
theorem i178_248 : decode (mCd 178) 248 = .ok (.iconst 0, 1) ∧ lk (mMsk 178) 248 = none := by decide +kernel
theorem i178_249 : decode (mCd 178) 249 = .ok (.ireturn, 1) ∧ lk (mMsk 178) 249 = none := by decide +kernel
theorem i178_250 : decode (mCd 178) 250 = .ok (.aload_n 1, 1) ∧ lk (mMsk 178) 250 = none := by decide +kernel
theorem i178_251 : decode (mCd 178) 251 = .ok (.aload_n 0, 1) ∧ lk (mMsk 178) 251 = none := by decide +kernel
theorem i178_252 : decode (mCd 178) 252 = .ok (.iload_n 3, 1) ∧ lk (mMsk 178) 252 = none := by decide +kernel
theorem i178_253 : decode (mCd 178) 253 = .ok (.iconst 1, 1) ∧ lk (mMsk 178) 253 = none := by decide +kernel
theorem i178_254 : decode (mCd 178) 254 = .ok (.iadd, 1) ∧ lk (mMsk 178) 254 = none := by decide +kernel
theorem i178_255 : decode (mCd 178) 255 = .ok (.iaload, 1) ∧ lk (mMsk 178) 255 = none := by decide +kernel
theorem i178_256 : decode (mCd 178) 256 = .ok (.aload_n 0, 1) ∧ lk (mMsk 178) 256 = none := by decide +kernel
theorem i178_257 : decode (mCd 178) 257 = .ok (.iload_n 3, 1) ∧ lk (mMsk 178) 257 = none := by decide +kernel
theorem i178_258 : decode (mCd 178) 258 = .ok (.iconst 2, 1) ∧ lk (mMsk 178) 258 = none := by decide +kernel
theorem i178_259 : decode (mCd 178) 259 = .ok (.iadd, 1) ∧ lk (mMsk 178) 259 = none := by decide +kernel
theorem i178_260 : decode (mCd 178) 260 = .ok (.iaload, 1) ∧ lk (mMsk 178) 260 = none := by decide +kernel
theorem i178_261 : decode (mCd 178) 261 = .ok (.invokevirtual 34, 3) ∧ lk (mMsk 178) 261 = none := by decide +kernel
theorem c178_34 : cvOk 178 34 76 2 0 = true := by decide +kernel
theorem i178_264 : decode (mCd 178) 264 = .ok (.aload_n 2, 1) ∧ lk (mMsk 178) 264 = none := by decide +kernel
theorem i178_265 : decode (mCd 178) 265 = .ok (.aload_n 0, 1) ∧ lk (mMsk 178) 265 = none := by decide +kernel
theorem i178_266 : decode (mCd 178) 266 = .ok (.iload_n 3, 1) ∧ lk (mMsk 178) 266 = none := by decide +kernel
theorem i178_267 : decode (mCd 178) 267 = .ok (.iconst 1, 1) ∧ lk (mMsk 178) 267 = none := by decide +kernel
theorem i178_268 : decode (mCd 178) 268 = .ok (.iadd, 1) ∧ lk (mMsk 178) 268 = none := by decide +kernel
theorem i178_269 : decode (mCd 178) 269 = .ok (.iaload, 1) ∧ lk (mMsk 178) 269 = none := by decide +kernel
theorem i178_270 : decode (mCd 178) 270 = .ok (.aload_n 0, 1) ∧ lk (mMsk 178) 270 = none := by decide +kernel
theorem i178_271 : decode (mCd 178) 271 = .ok (.iload_n 3, 1) ∧ lk (mMsk 178) 271 = none := by decide +kernel
theorem i178_272 : decode (mCd 178) 272 = .ok (.iconst 2, 1) ∧ lk (mMsk 178) 272 = none := by decide +kernel
theorem i178_273 : decode (mCd 178) 273 = .ok (.iadd, 1) ∧ lk (mMsk 178) 273 = none := by decide +kernel
theorem i178_274 : decode (mCd 178) 274 = .ok (.iaload, 1) ∧ lk (mMsk 178) 274 = none := by decide +kernel
theorem i178_275 : decode (mCd 178) 275 = .ok (.invokevirtual 38, 3) ∧ lk (mMsk 178) 275 = none := by decide +kernel
theorem c178_38 : cvOk 178 38 119 2 0 = true := by decide +kernel
theorem i178_278 : decode (mCd 178) 278 = .ok (.if_icmp .eq 556, 3) ∧ lk (mMsk 178) 278 = none := by decide +kernel
theorem i178_281 : decode (mCd 178) 281 = .ok (.iconst 0, 1) ∧ lk (mMsk 178) 281 = none := by decide +kernel
theorem i178_282 : decode (mCd 178) 282 = .ok (.ireturn, 1) ∧ lk (mMsk 178) 282 = none := by decide +kernel
theorem i178_283 : decode (mCd 178) 283 = .ok (.aload_n 1, 1) ∧ lk (mMsk 178) 283 = none := by decide +kernel
theorem i178_284 : decode (mCd 178) 284 = .ok (.aload_n 0, 1) ∧ lk (mMsk 178) 284 = none := by decide +kernel
theorem i178_285 : decode (mCd 178) 285 = .ok (.iload_n 3, 1) ∧ lk (mMsk 178) 285 = none := by decide +kernel
theorem i178_286 : decode (mCd 178) 286 = .ok (.iconst 1, 1) ∧ lk (mMsk 178) 286 = none := by decide +kernel
theorem i178_287 : decode (mCd 178) 287 = .ok (.iadd, 1) ∧ lk (mMsk 178) 287 = none := by decide +kernel
theorem i178_288 : decode (mCd 178) 288 = .ok (.iaload, 1) ∧ lk (mMsk 178) 288 = none := by decide +kernel
theorem i178_289 : decode (mCd 178) 289 = .ok (.aload_n 0, 1) ∧ lk (mMsk 178) 289 = none := by decide +kernel
theorem i178_290 : decode (mCd 178) 290 = .ok (.iload_n 3, 1) ∧ lk (mMsk 178) 290 = none := by decide +kernel
theorem i178_291 : decode (mCd 178) 291 = .ok (.iconst 2, 1) ∧ lk (mMsk 178) 291 = none := by decide +kernel
theorem i178_292 : decode (mCd 178) 292 = .ok (.iadd, 1) ∧ lk (mMsk 178) 292 = none := by decide +kernel
theorem i178_293 : decode (mCd 178) 293 = .ok (.iaload, 1) ∧ lk (mMsk 178) 293 = none := by decide +kernel
theorem i178_294 : decode (mCd 178) 294 = .ok (.aload_n 0, 1) ∧ lk (mMsk 178) 294 = none := by decide +kernel
theorem i178_295 : decode (mCd 178) 295 = .ok (.iload_n 3, 1) ∧ lk (mMsk 178) 295 = none := by decide +kernel
theorem i178_296 : decode (mCd 178) 296 = .ok (.iconst 3, 1) ∧ lk (mMsk 178) 296 = none := by decide +kernel
theorem i178_297 : decode (mCd 178) 297 = .ok (.iadd, 1) ∧ lk (mMsk 178) 297 = none := by decide +kernel
theorem i178_298 : decode (mCd 178) 298 = .ok (.iaload, 1) ∧ lk (mMsk 178) 298 = none := by decide +kernel
theorem i178_299 : decode (mCd 178) 299 = .ok (.aload_n 0, 1) ∧ lk (mMsk 178) 299 = none := by decide +kernel
theorem i178_300 : decode (mCd 178) 300 = .ok (.iload_n 3, 1) ∧ lk (mMsk 178) 300 = none := by decide +kernel
theorem i178_301 : decode (mCd 178) 301 = .ok (.iconst 4, 1) ∧ lk (mMsk 178) 301 = none := by decide +kernel
theorem i178_302 : decode (mCd 178) 302 = .ok (.iadd, 1) ∧ lk (mMsk 178) 302 = none := by decide +kernel
theorem i178_303 : decode (mCd 178) 303 = .ok (.iaload, 1) ∧ lk (mMsk 178) 303 = none := by decide +kernel
theorem i178_304 : decode (mCd 178) 304 = .ok (.invokevirtual 39, 3) ∧ lk (mMsk 178) 304 = none := by decide +kernel
theorem c178_39 : cvOk 178 39 77 4 0 = true := by decide +kernel
theorem i178_307 : decode (mCd 178) 307 = .ok (.aload_n 2, 1) ∧ lk (mMsk 178) 307 = none := by decide +kernel
theorem i178_308 : decode (mCd 178) 308 = .ok (.aload_n 0, 1) ∧ lk (mMsk 178) 308 = none := by decide +kernel
theorem i178_309 : decode (mCd 178) 309 = .ok (.iload_n 3, 1) ∧ lk (mMsk 178) 309 = none := by decide +kernel
theorem i178_310 : decode (mCd 178) 310 = .ok (.iconst 1, 1) ∧ lk (mMsk 178) 310 = none := by decide +kernel
theorem i178_311 : decode (mCd 178) 311 = .ok (.iadd, 1) ∧ lk (mMsk 178) 311 = none := by decide +kernel
theorem i178_312 : decode (mCd 178) 312 = .ok (.iaload, 1) ∧ lk (mMsk 178) 312 = none := by decide +kernel
theorem i178_313 : decode (mCd 178) 313 = .ok (.aload_n 0, 1) ∧ lk (mMsk 178) 313 = none := by decide +kernel
theorem i178_314 : decode (mCd 178) 314 = .ok (.iload_n 3, 1) ∧ lk (mMsk 178) 314 = none := by decide +kernel
theorem i178_315 : decode (mCd 178) 315 = .ok (.iconst 2, 1) ∧ lk (mMsk 178) 315 = none := by decide +kernel
theorem i178_316 : decode (mCd 178) 316 = .ok (.iadd, 1) ∧ lk (mMsk 178) 316 = none := by decide +kernel
theorem i178_317 : decode (mCd 178) 317 = .ok (.iaload, 1) ∧ lk (mMsk 178) 317 = none := by decide +kernel
theorem i178_318 : decode (mCd 178) 318 = .ok (.aload_n 0, 1) ∧ lk (mMsk 178) 318 = none := by decide +kernel
theorem i178_319 : decode (mCd 178) 319 = .ok (.iload_n 3, 1) ∧ lk (mMsk 178) 319 = none := by decide +kernel
theorem i178_320 : decode (mCd 178) 320 = .ok (.iconst 3, 1) ∧ lk (mMsk 178) 320 = none := by decide +kernel
theorem i178_321 : decode (mCd 178) 321 = .ok (.iadd, 1) ∧ lk (mMsk 178) 321 = none := by decide +kernel
theorem i178_322 : decode (mCd 178) 322 = .ok (.iaload, 1) ∧ lk (mMsk 178) 322 = none := by decide +kernel
theorem i178_323 : decode (mCd 178) 323 = .ok (.aload_n 0, 1) ∧ lk (mMsk 178) 323 = none := by decide +kernel
theorem i178_324 : decode (mCd 178) 324 = .ok (.iload_n 3, 1) ∧ lk (mMsk 178) 324 = none := by decide +kernel
theorem i178_325 : decode (mCd 178) 325 = .ok (.iconst 4, 1) ∧ lk (mMsk 178) 325 = none := by decide +kernel
theorem i178_326 : decode (mCd 178) 326 = .ok (.iadd, 1) ∧ lk (mMsk 178) 326 = none := by decide +kernel
theorem i178_327 : decode (mCd 178) 327 = .ok (.iaload, 1) ∧ lk (mMsk 178) 327 = none := by decide +kernel
theorem i178_328 : decode (mCd 178) 328 = .ok (.invokevirtual 43, 3) ∧ lk (mMsk 178) 328 = none := by decide +kernel
theorem c178_43 : cvOk 178 43 122 4 0 = true := by decide +kernel
theorem i178_331 : decode (mCd 178) 331 = .ok (.if_icmp .eq 503, 3) ∧ lk (mMsk 178) 331 = none := by decide +kernel
theorem i178_334 : decode (mCd 178) 334 = .ok (.iconst 0, 1) ∧ lk (mMsk 178) 334 = none := by decide +kernel
theorem i178_335 : decode (mCd 178) 335 = .ok (.ireturn, 1) ∧ lk (mMsk 178) 335 = none := by decide +kernel
theorem i178_336 : decode (mCd 178) 336 = .ok (.aload_n 1, 1) ∧ lk (mMsk 178) 336 = none := by decide +kernel
theorem i178_337 : decode (mCd 178) 337 = .ok (.aload_n 0, 1) ∧ lk (mMsk 178) 337 = none := by decide +kernel
theorem i178_338 : decode (mCd 178) 338 = .ok (.iload_n 3, 1) ∧ lk (mMsk 178) 338 = none := by decide +kernel
theorem i178_339 : decode (mCd 178) 339 = .ok (.iconst 1, 1) ∧ lk (mMsk 178) 339 = none := by decide +kernel
theorem i178_340 : decode (mCd 178) 340 = .ok (.iadd, 1) ∧ lk (mMsk 178) 340 = none := by decide +kernel
theorem i178_341 : decode (mCd 178) 341 = .ok (.iaload, 1) ∧ lk (mMsk 178) 341 = none := by decide +kernel
theorem i178_342 : decode (mCd 178) 342 = .ok (.aload_n 0, 1) ∧ lk (mMsk 178) 342 = none := by decide +kernel
theorem i178_343 : decode (mCd 178) 343 = .ok (.iload_n 3, 1) ∧ lk (mMsk 178) 343 = none := by decide +kernel
theorem i178_344 : decode (mCd 178) 344 = .ok (.iconst 2, 1) ∧ lk (mMsk 178) 344 = none := by decide +kernel
theorem i178_345 : decode (mCd 178) 345 = .ok (.iadd, 1) ∧ lk (mMsk 178) 345 = none := by decide +kernel
theorem i178_346 : decode (mCd 178) 346 = .ok (.iaload, 1) ∧ lk (mMsk 178) 346 = none := by decide +kernel
theorem i178_347 : decode (mCd 178) 347 = .ok (.invokevirtual 44, 3) ∧ lk (mMsk 178) 347 = none := by decide +kernel
theorem c178_44 : cvOk 178 44 78 2 0 = true := by decide +kernel
theorem i178_350 : decode (mCd 178) 350 = .ok (.aload_n 2, 1) ∧ lk (mMsk 178) 350 = none := by decide +kernel
theorem i178_351 : decode (mCd 178) 351 = .ok (.aload_n 0, 1) ∧ lk (mMsk 178) 351 = none := by decide +kernel
theorem i178_352 : decode (mCd 178) 352 = .ok (.iload_n 3, 1) ∧ lk (mMsk 178) 352 = none := by decide +kernel
theorem i178_353 : decode (mCd 178) 353 = .ok (.iconst 1, 1) ∧ lk (mMsk 178) 353 = none := by decide +kernel
theorem i178_354 : decode (mCd 178) 354 = .ok (.iadd, 1) ∧ lk (mMsk 178) 354 = none := by decide +kernel
theorem i178_355 : decode (mCd 178) 355 = .ok (.iaload, 1) ∧ lk (mMsk 178) 355 = none := by decide +kernel
theorem i178_356 : decode (mCd 178) 356 = .ok (.aload_n 0, 1) ∧ lk (mMsk 178) 356 = none := by decide +kernel
theorem i178_357 : decode (mCd 178) 357 = .ok (.iload_n 3, 1) ∧ lk (mMsk 178) 357 = none := by decide +kernel
theorem i178_358 : decode (mCd 178) 358 = .ok (.iconst 2, 1) ∧ lk (mMsk 178) 358 = none := by decide +kernel
theorem i178_359 : decode (mCd 178) 359 = .ok (.iadd, 1) ∧ lk (mMsk 178) 359 = none := by decide +kernel
theorem i178_360 : decode (mCd 178) 360 = .ok (.iaload, 1) ∧ lk (mMsk 178) 360 = none := by decide +kernel
theorem i178_361 : decode (mCd 178) 361 = .ok (.invokevirtual 47, 3) ∧ lk (mMsk 178) 361 = none := by decide +kernel
theorem c178_47 : cvOk 178 47 126 2 0 = true := by decide +kernel
theorem i178_364 : decode (mCd 178) 364 = .ok (.if_icmp .eq 470, 3) ∧ lk (mMsk 178) 364 = none := by decide +kernel
theorem i178_367 : decode (mCd 178) 367 = .ok (.iconst 0, 1) ∧ lk (mMsk 178) 367 = none := by decide +kernel
theorem i178_368 : decode (mCd 178) 368 = .ok (.ireturn, 1) ∧ lk (mMsk 178) 368 = none := by decide +kernel
theorem i178_369 : decode (mCd 178) 369 = .ok (.aload_n 1, 1) ∧ lk (mMsk 178) 369 = none := by decide +kernel
theorem i178_370 : decode (mCd 178) 370 = .ok (.aload_n 0, 1) ∧ lk (mMsk 178) 370 = none := by decide +kernel
theorem i178_371 : decode (mCd 178) 371 = .ok (.iload_n 3, 1) ∧ lk (mMsk 178) 371 = none := by decide +kernel
theorem i178_372 : decode (mCd 178) 372 = .ok (.iconst 1, 1) ∧ lk (mMsk 178) 372 = none := by decide +kernel
theorem i178_373 : decode (mCd 178) 373 = .ok (.iadd, 1) ∧ lk (mMsk 178) 373 = none := by decide +kernel
theorem i178_374 : decode (mCd 178) 374 = .ok (.iaload, 1) ∧ lk (mMsk 178) 374 = none := by decide +kernel
theorem i178_375 : decode (mCd 178) 375 = .ok (.aload_n 0, 1) ∧ lk (mMsk 178) 375 = none := by decide +kernel
theorem i178_376 : decode (mCd 178) 376 = .ok (.iload_n 3, 1) ∧ lk (mMsk 178) 376 = none := by decide +kernel
theorem i178_377 : decode (mCd 178) 377 = .ok (.iconst 2, 1) ∧ lk (mMsk 178) 377 = none := by decide +kernel
theorem i178_378 : decode (mCd 178) 378 = .ok (.iadd, 1) ∧ lk (mMsk 178) 378 = none := by decide +kernel
theorem i178_379 : decode (mCd 178) 379 = .ok (.iaload, 1) ∧ lk (mMsk 178) 379 = none := by decide +kernel
theorem i178_380 : decode (mCd 178) 380 = .ok (.invokevirtual 48, 3) ∧ lk (mMsk 178) 380 = none := by decide +kernel
theorem c178_48 : cvOk 178 48 79 2 0 = true := by decide +kernel
theorem i178_383 : decode (mCd 178) 383 = .ok (.aload_n 2, 1) ∧ lk (mMsk 178) 383 = none := by decide +kernel
theorem i178_384 : decode (mCd 178) 384 = .ok (.aload_n 0, 1) ∧ lk (mMsk 178) 384 = none := by decide +kernel
theorem i178_385 : decode (mCd 178) 385 = .ok (.iload_n 3, 1) ∧ lk (mMsk 178) 385 = none := by decide +kernel
theorem i178_386 : decode (mCd 178) 386 = .ok (.iconst 1, 1) ∧ lk (mMsk 178) 386 = none := by decide +kernel
theorem i178_387 : decode (mCd 178) 387 = .ok (.iadd, 1) ∧ lk (mMsk 178) 387 = none := by decide +kernel
theorem i178_388 : decode (mCd 178) 388 = .ok (.iaload, 1) ∧ lk (mMsk 178) 388 = none := by decide +kernel
theorem i178_389 : decode (mCd 178) 389 = .ok (.aload_n 0, 1) ∧ lk (mMsk 178) 389 = none := by decide +kernel
theorem i178_390 : decode (mCd 178) 390 = .ok (.iload_n 3, 1) ∧ lk (mMsk 178) 390 = none := by decide +kernel
theorem i178_391 : decode (mCd 178) 391 = .ok (.iconst 2, 1) ∧ lk (mMsk 178) 391 = none := by decide +kernel
theorem i178_392 : decode (mCd 178) 392 = .ok (.iadd, 1) ∧ lk (mMsk 178) 392 = none := by decide +kernel
theorem i178_393 : decode (mCd 178) 393 = .ok (.iaload, 1) ∧ lk (mMsk 178) 393 = none := by decide +kernel
theorem i178_394 : decode (mCd 178) 394 = .ok (.invokevirtual 51, 3) ∧ lk (mMsk 178) 394 = none := by decide +kernel
theorem c178_51 : cvOk 178 51 127 2 0 = true := by decide +kernel
theorem i178_397 : decode (mCd 178) 397 = .ok (.if_icmp .eq 437, 3) ∧ lk (mMsk 178) 397 = none := by decide +kernel
theorem i178_400 : decode (mCd 178) 400 = .ok (.iconst 0, 1) ∧ lk (mMsk 178) 400 = none := by decide +kernel
theorem i178_401 : decode (mCd 178) 401 = .ok (.ireturn, 1) ∧ lk (mMsk 178) 401 = none := by decide +kernel
theorem i178_402 : decode (mCd 178) 402 = .ok (.aload_n 1, 1) ∧ lk (mMsk 178) 402 = none := by decide +kernel
theorem i178_403 : decode (mCd 178) 403 = .ok (.aload_n 0, 1) ∧ lk (mMsk 178) 403 = none := by decide +kernel
theorem i178_404 : decode (mCd 178) 404 = .ok (.iload_n 3, 1) ∧ lk (mMsk 178) 404 = none := by decide +kernel
theorem i178_405 : decode (mCd 178) 405 = .ok (.iconst 1, 1) ∧ lk (mMsk 178) 405 = none := by decide +kernel
theorem i178_406 : decode (mCd 178) 406 = .ok (.iadd, 1) ∧ lk (mMsk 178) 406 = none := by decide +kernel
theorem i178_407 : decode (mCd 178) 407 = .ok (.iaload, 1) ∧ lk (mMsk 178) 407 = none := by decide +kernel
theorem i178_408 : decode (mCd 178) 408 = .ok (.invokevirtual 52, 3) ∧ lk (mMsk 178) 408 = none := by decide +kernel
theorem c178_52 : cvOk 178 52 80 1 0 = true := by decide +kernel
theorem i178_411 : decode (mCd 178) 411 = .ok (.aload_n 2, 1) ∧ lk (mMsk 178) 411 = none := by decide +kernel
theorem i178_412 : decode (mCd 178) 412 = .ok (.aload_n 0, 1) ∧ lk (mMsk 178) 412 = none := by decide +kernel
theorem i178_413 : decode (mCd 178) 413 = .ok (.iload_n 3, 1) ∧ lk (mMsk 178) 413 = none := by decide +kernel
theorem i178_414 : decode (mCd 178) 414 = .ok (.iconst 1, 1) ∧ lk (mMsk 178) 414 = none := by decide +kernel
theorem i178_415 : decode (mCd 178) 415 = .ok (.iadd, 1) ∧ lk (mMsk 178) 415 = none := by decide +kernel
theorem i178_416 : decode (mCd 178) 416 = .ok (.iaload, 1) ∧ lk (mMsk 178) 416 = none := by decide +kernel
theorem i178_417 : decode (mCd 178) 417 = .ok (.invokevirtual 55, 3) ∧ lk (mMsk 178) 417 = none := by decide +kernel
theorem c178_55 : cvOk 178 55 128 1 0 = true := by decide +kernel
theorem i178_420 : decode (mCd 178) 420 = .ok (.if_icmp .eq 414, 3) ∧ lk (mMsk 178) 420 = none := by decide +kernel
theorem i178_423 : decode (mCd 178) 423 = .ok (.iconst 0, 1) ∧ lk (mMsk 178) 423 = none := by decide +kernel
theorem i178_424 : decode (mCd 178) 424 = .ok (.ireturn, 1) ∧ lk (mMsk 178) 424 = none := by decide +kernel
theorem i178_425 : decode (mCd 178) 425 = .ok (.aload_n 1, 1) ∧ lk (mMsk 178) 425 = none := by decide +kernel
theorem i178_426 : decode (mCd 178) 426 = .ok (.aload_n 0, 1) ∧ lk (mMsk 178) 426 = none := by decide +kernel
theorem i178_427 : decode (mCd 178) 427 = .ok (.iload_n 3, 1) ∧ lk (mMsk 178) 427 = none := by decide +kernel
theorem i178_428 : decode (mCd 178) 428 = .ok (.iconst 1, 1) ∧ lk (mMsk 178) 428 = none := by decide +kernel
theorem i178_429 : decode (mCd 178) 429 = .ok (.iadd, 1) ∧ lk (mMsk 178) 429 = none := by decide +kernel
theorem i178_430 : decode (mCd 178) 430 = .ok (.iaload, 1) ∧ lk (mMsk 178) 430 = none := by decide +kernel
theorem i178_431 : decode (mCd 178) 431 = .ok (.aload_n 0, 1) ∧ lk (mMsk 178) 431 = none := by decide +kernel
theorem i178_432 : decode (mCd 178) 432 = .ok (.iload_n 3, 1) ∧ lk (mMsk 178) 432 = none := by decide +kernel
theorem i178_433 : decode (mCd 178) 433 = .ok (.iconst 2, 1) ∧ lk (mMsk 178) 433 = none := by decide +kernel
theorem i178_434 : decode (mCd 178) 434 = .ok (.iadd, 1) ∧ lk (mMsk 178) 434 = none := by decide +kernel
theorem i178_435 : decode (mCd 178) 435 = .ok (.iaload, 1) ∧ lk (mMsk 178) 435 = none := by decide +kernel
theorem i178_436 : decode (mCd 178) 436 = .ok (.invokevirtual 56, 3) ∧ lk (mMsk 178) 436 = none := by decide +kernel
theorem c178_56 : cvOk 178 56 81 2 0 = true := by decide +kernel
theorem i178_439 : decode (mCd 178) 439 = .ok (.aload_n 2, 1) ∧ lk (mMsk 178) 439 = none := by decide +kernel
theorem i178_440 : decode (mCd 178) 440 = .ok (.aload_n 0, 1) ∧ lk (mMsk 178) 440 = none := by decide +kernel
theorem i178_441 : decode (mCd 178) 441 = .ok (.iload_n 3, 1) ∧ lk (mMsk 178) 441 = none := by decide +kernel
theorem i178_442 : decode (mCd 178) 442 = .ok (.iconst 1, 1) ∧ lk (mMsk 178) 442 = none := by decide +kernel
theorem i178_443 : decode (mCd 178) 443 = .ok (.iadd, 1) ∧ lk (mMsk 178) 443 = none := by decide +kernel
theorem i178_444 : decode (mCd 178) 444 = .ok (.iaload, 1) ∧ lk (mMsk 178) 444 = none := by decide +kernel
theorem i178_445 : decode (mCd 178) 445 = .ok (.aload_n 0, 1) ∧ lk (mMsk 178) 445 = none := by decide +kernel
theorem i178_446 : decode (mCd 178) 446 = .ok (.iload_n 3, 1) ∧ lk (mMsk 178) 446 = none := by decide +kernel
theorem i178_447 : decode (mCd 178) 447 = .ok (.iconst 2, 1) ∧ lk (mMsk 178) 447 = none := by decide +kernel
theorem i178_448 : decode (mCd 178) 448 = .ok (.iadd, 1) ∧ lk (mMsk 178) 448 = none := by decide +kernel
theorem i178_449 : decode (mCd 178) 449 = .ok (.iaload, 1) ∧ lk (mMsk 178) 449 = none := by decide +kernel
theorem i178_450 : decode (mCd 178) 450 = .ok (.invokevirtual 59, 3) ∧ lk (mMsk 178) 450 = none := by decide +kernel
theorem c178_59 : cvOk 178 59 129 2 0 = true := by decide +kernel
theorem i178_453 : decode (mCd 178) 453 = .ok (.if_icmp .eq 381, 3) ∧ lk (mMsk 178) 453 = none := by decide +kernel
theorem i178_456 : decode (mCd 178) 456 = .ok (.iconst 0, 1) ∧ lk (mMsk 178) 456 = none := by decide +kernel
theorem i178_457 : decode (mCd 178) 457 = .ok (.ireturn, 1) ∧ lk (mMsk 178) 457 = none := by decide +kernel
theorem i178_458 : decode (mCd 178) 458 = .ok (.aload_n 1, 1) ∧ lk (mMsk 178) 458 = none := by decide +kernel
theorem i178_459 : decode (mCd 178) 459 = .ok (.aload_n 0, 1) ∧ lk (mMsk 178) 459 = none := by decide +kernel
theorem i178_460 : decode (mCd 178) 460 = .ok (.iload_n 3, 1) ∧ lk (mMsk 178) 460 = none := by decide +kernel
theorem i178_461 : decode (mCd 178) 461 = .ok (.iconst 1, 1) ∧ lk (mMsk 178) 461 = none := by decide +kernel
theorem i178_462 : decode (mCd 178) 462 = .ok (.iadd, 1) ∧ lk (mMsk 178) 462 = none := by decide +kernel
theorem i178_463 : decode (mCd 178) 463 = .ok (.iaload, 1) ∧ lk (mMsk 178) 463 = none := by decide +kernel
theorem i178_464 : decode (mCd 178) 464 = .ok (.aload_n 0, 1) ∧ lk (mMsk 178) 464 = none := by decide +kernel
theorem i178_465 : decode (mCd 178) 465 = .ok (.iload_n 3, 1) ∧ lk (mMsk 178) 465 = none := by decide +kernel
theorem i178_466 : decode (mCd 178) 466 = .ok (.iconst 2, 1) ∧ lk (mMsk 178) 466 = none := by decide +kernel
theorem i178_467 : decode (mCd 178) 467 = .ok (.iadd, 1) ∧ lk (mMsk 178) 467 = none := by decide +kernel
theorem i178_468 : decode (mCd 178) 468 = .ok (.iaload, 1) ∧ lk (mMsk 178) 468 = none := by decide +kernel
theorem i178_469 : decode (mCd 178) 469 = .ok (.invokevirtual 60, 3) ∧ lk (mMsk 178) 469 = none := by decide +kernel
theorem c178_60 : cvOk 178 60 82 2 0 = true := by decide +kernel
theorem i178_472 : decode (mCd 178) 472 = .ok (.aload_n 2, 1) ∧ lk (mMsk 178) 472 = none := by decide +kernel
theorem i178_473 : decode (mCd 178) 473 = .ok (.aload_n 0, 1) ∧ lk (mMsk 178) 473 = none := by decide +kernel
theorem i178_474 : decode (mCd 178) 474 = .ok (.iload_n 3, 1) ∧ lk (mMsk 178) 474 = none := by decide +kernel
theorem i178_475 : decode (mCd 178) 475 = .ok (.iconst 1, 1) ∧ lk (mMsk 178) 475 = none := by decide +kernel
theorem i178_476 : decode (mCd 178) 476 = .ok (.iadd, 1) ∧ lk (mMsk 178) 476 = none := by decide +kernel
theorem i178_477 : decode (mCd 178) 477 = .ok (.iaload, 1) ∧ lk (mMsk 178) 477 = none := by decide +kernel
theorem i178_478 : decode (mCd 178) 478 = .ok (.aload_n 0, 1) ∧ lk (mMsk 178) 478 = none := by decide +kernel
theorem i178_479 : decode (mCd 178) 479 = .ok (.iload_n 3, 1) ∧ lk (mMsk 178) 479 = none := by decide +kernel
theorem i178_480 : decode (mCd 178) 480 = .ok (.iconst 2, 1) ∧ lk (mMsk 178) 480 = none := by decide +kernel
theorem i178_481 : decode (mCd 178) 481 = .ok (.iadd, 1) ∧ lk (mMsk 178) 481 = none := by decide +kernel
theorem i178_482 : decode (mCd 178) 482 = .ok (.iaload, 1) ∧ lk (mMsk 178) 482 = none := by decide +kernel
theorem i178_483 : decode (mCd 178) 483 = .ok (.invokevirtual 63, 3) ∧ lk (mMsk 178) 483 = none := by decide +kernel
theorem c178_63 : cvOk 178 63 131 2 0 = true := by decide +kernel
theorem i178_486 : decode (mCd 178) 486 = .ok (.if_icmp .eq 348, 3) ∧ lk (mMsk 178) 486 = none := by decide +kernel
theorem i178_489 : decode (mCd 178) 489 = .ok (.iconst 0, 1) ∧ lk (mMsk 178) 489 = none := by decide +kernel
theorem i178_490 : decode (mCd 178) 490 = .ok (.ireturn, 1) ∧ lk (mMsk 178) 490 = none := by decide +kernel
theorem i178_491 : decode (mCd 178) 491 = .ok (.aload_n 1, 1) ∧ lk (mMsk 178) 491 = none := by decide +kernel
theorem i178_492 : decode (mCd 178) 492 = .ok (.aload_n 0, 1) ∧ lk (mMsk 178) 492 = none := by decide +kernel
theorem i178_493 : decode (mCd 178) 493 = .ok (.iload_n 3, 1) ∧ lk (mMsk 178) 493 = none := by decide +kernel
theorem i178_494 : decode (mCd 178) 494 = .ok (.iconst 1, 1) ∧ lk (mMsk 178) 494 = none := by decide +kernel
theorem i178_495 : decode (mCd 178) 495 = .ok (.iadd, 1) ∧ lk (mMsk 178) 495 = none := by decide +kernel
theorem i178_496 : decode (mCd 178) 496 = .ok (.iaload, 1) ∧ lk (mMsk 178) 496 = none := by decide +kernel
theorem i178_497 : decode (mCd 178) 497 = .ok (.aload_n 0, 1) ∧ lk (mMsk 178) 497 = none := by decide +kernel
theorem i178_498 : decode (mCd 178) 498 = .ok (.iload_n 3, 1) ∧ lk (mMsk 178) 498 = none := by decide +kernel
theorem i178_499 : decode (mCd 178) 499 = .ok (.iconst 2, 1) ∧ lk (mMsk 178) 499 = none := by decide +kernel
theorem i178_500 : decode (mCd 178) 500 = .ok (.iadd, 1) ∧ lk (mMsk 178) 500 = none := by decide +kernel
theorem i178_501 : decode (mCd 178) 501 = .ok (.iaload, 1) ∧ lk (mMsk 178) 501 = none := by decide +kernel
theorem i178_502 : decode (mCd 178) 502 = .ok (.invokevirtual 64, 3) ∧ lk (mMsk 178) 502 = none := by decide +kernel
theorem c178_64 : cvOk 178 64 83 2 0 = true := by decide +kernel
theorem i178_505 : decode (mCd 178) 505 = .ok (.aload_n 2, 1) ∧ lk (mMsk 178) 505 = none := by decide +kernel
theorem i178_506 : decode (mCd 178) 506 = .ok (.aload_n 0, 1) ∧ lk (mMsk 178) 506 = none := by decide +kernel
theorem i178_507 : decode (mCd 178) 507 = .ok (.iload_n 3, 1) ∧ lk (mMsk 178) 507 = none := by decide +kernel
theorem i178_508 : decode (mCd 178) 508 = .ok (.iconst 1, 1) ∧ lk (mMsk 178) 508 = none := by decide +kernel
theorem i178_509 : decode (mCd 178) 509 = .ok (.iadd, 1) ∧ lk (mMsk 178) 509 = none := by decide +kernel
theorem i178_510 : decode (mCd 178) 510 = .ok (.iaload, 1) ∧ lk (mMsk 178) 510 = none := by decide +kernel
theorem i178_511 : decode (mCd 178) 511 = .ok (.aload_n 0, 1) ∧ lk (mMsk 178) 511 = none := by decide +kernel
theorem i178_512 : decode (mCd 178) 512 = .ok (.iload_n 3, 1) ∧ lk (mMsk 178) 512 = none := by decide +kernel
theorem i178_513 : decode (mCd 178) 513 = .ok (.iconst 2, 1) ∧ lk (mMsk 178) 513 = none := by decide +kernel
theorem i178_514 : decode (mCd 178) 514 = .ok (.iadd, 1) ∧ lk (mMsk 178) 514 = none := by decide +kernel
theorem i178_515 : decode (mCd 178) 515 = .ok (.iaload, 1) ∧ lk (mMsk 178) 515 = none := by decide +kernel
theorem i178_516 : decode (mCd 178) 516 = .ok (.invokevirtual 67, 3) ∧ lk (mMsk 178) 516 = none := by decide +kernel
theorem c178_67 : cvOk 178 67 132 2 0 = true := by decide +kernel
theorem i178_519 : decode (mCd 178) 519 = .ok (.if_icmp .eq 315, 3) ∧ lk (mMsk 178) 519 = none := by decide +kernel
theorem i178_522 : decode (mCd 178) 522 = .ok (.iconst 0, 1) ∧ lk (mMsk 178) 522 = none := by decide +kernel
theorem i178_523 : decode (mCd 178) 523 = .ok (.ireturn, 1) ∧ lk (mMsk 178) 523 = none := by decide +kernel
theorem i178_524 : decode (mCd 178) 524 = .ok (.aload_n 1, 1) ∧ lk (mMsk 178) 524 = none := by decide +kernel
theorem i178_525 : decode (mCd 178) 525 = .ok (.aload_n 0, 1) ∧ lk (mMsk 178) 525 = none := by decide +kernel
theorem i178_526 : decode (mCd 178) 526 = .ok (.iload_n 3, 1) ∧ lk (mMsk 178) 526 = none := by decide +kernel
theorem i178_527 : decode (mCd 178) 527 = .ok (.iconst 1, 1) ∧ lk (mMsk 178) 527 = none := by decide +kernel
theorem i178_528 : decode (mCd 178) 528 = .ok (.iadd, 1) ∧ lk (mMsk 178) 528 = none := by decide +kernel
theorem i178_529 : decode (mCd 178) 529 = .ok (.iaload, 1) ∧ lk (mMsk 178) 529 = none := by decide +kernel
theorem i178_530 : decode (mCd 178) 530 = .ok (.aload_n 0, 1) ∧ lk (mMsk 178) 530 = none := by decide +kernel
theorem i178_531 : decode (mCd 178) 531 = .ok (.iload_n 3, 1) ∧ lk (mMsk 178) 531 = none := by decide +kernel
theorem i178_532 : decode (mCd 178) 532 = .ok (.iconst 2, 1) ∧ lk (mMsk 178) 532 = none := by decide +kernel
theorem i178_533 : decode (mCd 178) 533 = .ok (.iadd, 1) ∧ lk (mMsk 178) 533 = none := by decide +kernel
theorem i178_534 : decode (mCd 178) 534 = .ok (.iaload, 1) ∧ lk (mMsk 178) 534 = none := by decide +kernel
theorem i178_535 : decode (mCd 178) 535 = .ok (.invokevirtual 68, 3) ∧ lk (mMsk 178) 535 = none := by decide +kernel
theorem c178_68 : cvOk 178 68 84 2 0 = true := by decide +kernel
theorem i178_538 : decode (mCd 178) 538 = .ok (.aload_n 2, 1) ∧ lk (mMsk 178) 538 = none := by decide +kernel
theorem i178_539 : decode (mCd 178) 539 = .ok (.aload_n 0, 1) ∧ lk (mMsk 178) 539 = none := by decide +kernel
theorem i178_540 : decode (mCd 178) 540 = .ok (.iload_n 3, 1) ∧ lk (mMsk 178) 540 = none := by decide +kernel
theorem i178_541 : decode (mCd 178) 541 = .ok (.iconst 1, 1) ∧ lk (mMsk 178) 541 = none := by decide +kernel
theorem i178_542 : decode (mCd 178) 542 = .ok (.iadd, 1) ∧ lk (mMsk 178) 542 = none := by decide +kernel
theorem i178_543 : decode (mCd 178) 543 = .ok (.iaload, 1) ∧ lk (mMsk 178) 543 = none := by decide +kernel
theorem i178_544 : decode (mCd 178) 544 = .ok (.aload_n 0, 1) ∧ lk (mMsk 178) 544 = none := by decide +kernel
theorem i178_545 : decode (mCd 178) 545 = .ok (.iload_n 3, 1) ∧ lk (mMsk 178) 545 = none := by decide +kernel
theorem i178_546 : decode (mCd 178) 546 = .ok (.iconst 2, 1) ∧ lk (mMsk 178) 546 = none := by decide +kernel
theorem i178_547 : decode (mCd 178) 547 = .ok (.iadd, 1) ∧ lk (mMsk 178) 547 = none := by decide +kernel
theorem i178_548 : decode (mCd 178) 548 = .ok (.iaload, 1) ∧ lk (mMsk 178) 548 = none := by decide +kernel
theorem i178_549 : decode (mCd 178) 549 = .ok (.invokevirtual 71, 3) ∧ lk (mMsk 178) 549 = none := by decide +kernel
theorem c178_71 : cvOk 178 71 133 2 0 = true := by decide +kernel
theorem i178_552 : decode (mCd 178) 552 = .ok (.if_icmp .eq 282, 3) ∧ lk (mMsk 178) 552 = none := by decide +kernel
theorem i178_555 : decode (mCd 178) 555 = .ok (.iconst 0, 1) ∧ lk (mMsk 178) 555 = none := by decide +kernel
theorem i178_556 : decode (mCd 178) 556 = .ok (.ireturn, 1) ∧ lk (mMsk 178) 556 = none := by decide +kernel
theorem i178_557 : decode (mCd 178) 557 = .ok (.aload_n 1, 1) ∧ lk (mMsk 178) 557 = none := by decide +kernel
theorem i178_558 : decode (mCd 178) 558 = .ok (.aload_n 0, 1) ∧ lk (mMsk 178) 558 = none := by decide +kernel
theorem i178_559 : decode (mCd 178) 559 = .ok (.iload_n 3, 1) ∧ lk (mMsk 178) 559 = none := by decide +kernel
theorem i178_560 : decode (mCd 178) 560 = .ok (.iconst 1, 1) ∧ lk (mMsk 178) 560 = none := by decide +kernel
theorem i178_561 : decode (mCd 178) 561 = .ok (.iadd, 1) ∧ lk (mMsk 178) 561 = none := by decide +kernel
theorem i178_562 : decode (mCd 178) 562 = .ok (.iaload, 1) ∧ lk (mMsk 178) 562 = none := by decide +kernel
theorem i178_563 : decode (mCd 178) 563 = .ok (.invokevirtual 72, 3) ∧ lk (mMsk 178) 563 = none := by decide +kernel
theorem c178_72 : cvOk 178 72 85 1 0 = true := by decide +kernel
theorem i178_566 : decode (mCd 178) 566 = .ok (.aload_n 2, 1) ∧ lk (mMsk 178) 566 = none := by decide +kernel
theorem i178_567 : decode (mCd 178) 567 = .ok (.aload_n 0, 1) ∧ lk (mMsk 178) 567 = none := by decide +kernel
theorem i178_568 : decode (mCd 178) 568 = .ok (.iload_n 3, 1) ∧ lk (mMsk 178) 568 = none := by decide +kernel
theorem i178_569 : decode (mCd 178) 569 = .ok (.iconst 1, 1) ∧ lk (mMsk 178) 569 = none := by decide +kernel
theorem i178_570 : decode (mCd 178) 570 = .ok (.iadd, 1) ∧ lk (mMsk 178) 570 = none := by decide +kernel
theorem i178_571 : decode (mCd 178) 571 = .ok (.iaload, 1) ∧ lk (mMsk 178) 571 = none := by decide +kernel
theorem i178_572 : decode (mCd 178) 572 = .ok (.invokevirtual 75, 3) ∧ lk (mMsk 178) 572 = none := by decide +kernel
theorem c178_75 : cvOk 178 75 137 1 0 = true := by decide +kernel
theorem i178_575 : decode (mCd 178) 575 = .ok (.if_icmp .eq 259, 3) ∧ lk (mMsk 178) 575 = none := by decide +kernel
theorem i178_578 : decode (mCd 178) 578 = .ok (.iconst 0, 1) ∧ lk (mMsk 178) 578 = none := by decide +kernel
theorem i178_579 : decode (mCd 178) 579 = .ok (.ireturn, 1) ∧ lk (mMsk 178) 579 = none := by decide +kernel
theorem i178_580 : decode (mCd 178) 580 = .ok (.aload_n 1, 1) ∧ lk (mMsk 178) 580 = none := by decide +kernel
theorem i178_581 : decode (mCd 178) 581 = .ok (.aload_n 0, 1) ∧ lk (mMsk 178) 581 = none := by decide +kernel
theorem i178_582 : decode (mCd 178) 582 = .ok (.iload_n 3, 1) ∧ lk (mMsk 178) 582 = none := by decide +kernel
theorem i178_583 : decode (mCd 178) 583 = .ok (.iconst 1, 1) ∧ lk (mMsk 178) 583 = none := by decide +kernel
theorem i178_584 : decode (mCd 178) 584 = .ok (.iadd, 1) ∧ lk (mMsk 178) 584 = none := by decide +kernel
theorem i178_585 : decode (mCd 178) 585 = .ok (.iaload, 1) ∧ lk (mMsk 178) 585 = none := by decide +kernel
theorem i178_586 : decode (mCd 178) 586 = .ok (.invokevirtual 76, 3) ∧ lk (mMsk 178) 586 = none := by decide +kernel
theorem c178_76 : cvOk 178 76 86 1 0 = true := by decide +kernel
theorem i178_589 : decode (mCd 178) 589 = .ok (.aload_n 2, 1) ∧ lk (mMsk 178) 589 = none := by decide +kernel
theorem i178_590 : decode (mCd 178) 590 = .ok (.aload_n 0, 1) ∧ lk (mMsk 178) 590 = none := by decide +kernel
theorem i178_591 : decode (mCd 178) 591 = .ok (.iload_n 3, 1) ∧ lk (mMsk 178) 591 = none := by decide +kernel
theorem i178_592 : decode (mCd 178) 592 = .ok (.iconst 1, 1) ∧ lk (mMsk 178) 592 = none := by decide +kernel
theorem i178_593 : decode (mCd 178) 593 = .ok (.iadd, 1) ∧ lk (mMsk 178) 593 = none := by decide +kernel
theorem i178_594 : decode (mCd 178) 594 = .ok (.iaload, 1) ∧ lk (mMsk 178) 594 = none := by decide +kernel
theorem i178_595 : decode (mCd 178) 595 = .ok (.invokevirtual 79, 3) ∧ lk (mMsk 178) 595 = none := by decide +kernel
theorem c178_79 : cvOk 178 79 143 1 0 = true := by decide +kernel
theorem i178_598 : decode (mCd 178) 598 = .ok (.if_icmp .eq 236, 3) ∧ lk (mMsk 178) 598 = none := by decide +kernel
theorem i178_601 : decode (mCd 178) 601 = .ok (.iconst 0, 1) ∧ lk (mMsk 178) 601 = none := by decide +kernel
theorem i178_602 : decode (mCd 178) 602 = .ok (.ireturn, 1) ∧ lk (mMsk 178) 602 = none := by decide +kernel
theorem i178_603 : decode (mCd 178) 603 = .ok (.aload_n 1, 1) ∧ lk (mMsk 178) 603 = none := by decide +kernel
theorem i178_604 : decode (mCd 178) 604 = .ok (.aload_n 0, 1) ∧ lk (mMsk 178) 604 = none := by decide +kernel
theorem i178_605 : decode (mCd 178) 605 = .ok (.iload_n 3, 1) ∧ lk (mMsk 178) 605 = none := by decide +kernel
theorem i178_606 : decode (mCd 178) 606 = .ok (.iconst 1, 1) ∧ lk (mMsk 178) 606 = none := by decide +kernel
theorem i178_607 : decode (mCd 178) 607 = .ok (.iadd, 1) ∧ lk (mMsk 178) 607 = none := by decide +kernel
theorem i178_608 : decode (mCd 178) 608 = .ok (.iaload, 1) ∧ lk (mMsk 178) 608 = none := by decide +kernel
theorem i178_609 : decode (mCd 178) 609 = .ok (.invokevirtual 80, 3) ∧ lk (mMsk 178) 609 = none := by decide +kernel
theorem c178_80 : cvOk 178 80 87 1 0 = true := by decide +kernel
theorem i178_612 : decode (mCd 178) 612 = .ok (.aload_n 2, 1) ∧ lk (mMsk 178) 612 = none := by decide +kernel
theorem i178_613 : decode (mCd 178) 613 = .ok (.aload_n 0, 1) ∧ lk (mMsk 178) 613 = none := by decide +kernel
theorem i178_614 : decode (mCd 178) 614 = .ok (.iload_n 3, 1) ∧ lk (mMsk 178) 614 = none := by decide +kernel
theorem i178_615 : decode (mCd 178) 615 = .ok (.iconst 1, 1) ∧ lk (mMsk 178) 615 = none := by decide +kernel
theorem i178_616 : decode (mCd 178) 616 = .ok (.iadd, 1) ∧ lk (mMsk 178) 616 = none := by decide +kernel
theorem i178_617 : decode (mCd 178) 617 = .ok (.iaload, 1) ∧ lk (mMsk 178) 617 = none := by decide +kernel
theorem i178_618 : decode (mCd 178) 618 = .ok (.invokevirtual 83, 3) ∧ lk (mMsk 178) 618 = none := by decide +kernel
theorem c178_83 : cvOk 178 83 150 1 0 = true := by decide +kernel
theorem i178_621 : decode (mCd 178) 621 = .ok (.if_icmp .eq 213, 3) ∧ lk (mMsk 178) 621 = none := by decide +kernel
theorem i178_624 : decode (mCd 178) 624 = .ok (.iconst 0, 1) ∧ lk (mMsk 178) 624 = none := by decide +kernel
theorem i178_625 : decode (mCd 178) 625 = .ok (.ireturn, 1) ∧ lk (mMsk 178) 625 = none := by decide +kernel
theorem i178_626 : decode (mCd 178) 626 = .ok (.aload_n 1, 1) ∧ lk (mMsk 178) 626 = none := by decide +kernel
theorem i178_627 : decode (mCd 178) 627 = .ok (.aload_n 0, 1) ∧ lk (mMsk 178) 627 = none := by decide +kernel
theorem i178_628 : decode (mCd 178) 628 = .ok (.iload_n 3, 1) ∧ lk (mMsk 178) 628 = none := by decide +kernel
theorem i178_629 : decode (mCd 178) 629 = .ok (.iconst 1, 1) ∧ lk (mMsk 178) 629 = none := by decide +kernel
theorem i178_630 : decode (mCd 178) 630 = .ok (.iadd, 1) ∧ lk (mMsk 178) 630 = none := by decide +kernel
theorem i178_631 : decode (mCd 178) 631 = .ok (.iaload, 1) ∧ lk (mMsk 178) 631 = none := by decide +kernel
theorem i178_632 : decode (mCd 178) 632 = .ok (.invokevirtual 84, 3) ∧ lk (mMsk 178) 632 = none := by decide +kernel
theorem c178_84 : cvOk 178 84 88 1 0 = true := by decide +kernel
theorem i178_635 : decode (mCd 178) 635 = .ok (.aload_n 2, 1) ∧ lk (mMsk 178) 635 = none := by decide +kernel
theorem i178_636 : decode (mCd 178) 636 = .ok (.aload_n 0, 1) ∧ lk (mMsk 178) 636 = none := by decide +kernel
theorem i178_637 : decode (mCd 178) 637 = .ok (.iload_n 3, 1) ∧ lk (mMsk 178) 637 = none := by decide +kernel
theorem i178_638 : decode (mCd 178) 638 = .ok (.iconst 1, 1) ∧ lk (mMsk 178) 638 = none := by decide +kernel
theorem i178_639 : decode (mCd 178) 639 = .ok (.iadd, 1) ∧ lk (mMsk 178) 639 = none := by decide +kernel
theorem i178_640 : decode (mCd 178) 640 = .ok (.iaload, 1) ∧ lk (mMsk 178) 640 = none := by decide +kernel
theorem i178_641 : decode (mCd 178) 641 = .ok (.invokevirtual 87, 3) ∧ lk (mMsk 178) 641 = none := by decide +kernel
theorem c178_87 : cvOk 178 87 152 1 0 = true := by decide +kernel
theorem i178_644 : decode (mCd 178) 644 = .ok (.if_icmp .eq 190, 3) ∧ lk (mMsk 178) 644 = none := by decide +kernel
theorem i178_647 : decode (mCd 178) 647 = .ok (.iconst 0, 1) ∧ lk (mMsk 178) 647 = none := by decide +kernel
theorem i178_648 : decode (mCd 178) 648 = .ok (.ireturn, 1) ∧ lk (mMsk 178) 648 = none := by decide +kernel
theorem i178_649 : decode (mCd 178) 649 = .ok (.aload_n 1, 1) ∧ lk (mMsk 178) 649 = none := by decide +kernel
theorem i178_650 : decode (mCd 178) 650 = .ok (.aload_n 0, 1) ∧ lk (mMsk 178) 650 = none := by decide +kernel
theorem i178_651 : decode (mCd 178) 651 = .ok (.iload_n 3, 1) ∧ lk (mMsk 178) 651 = none := by decide +kernel
theorem i178_652 : decode (mCd 178) 652 = .ok (.iconst 1, 1) ∧ lk (mMsk 178) 652 = none := by decide +kernel
theorem i178_653 : decode (mCd 178) 653 = .ok (.iadd, 1) ∧ lk (mMsk 178) 653 = none := by decide +kernel
theorem i178_654 : decode (mCd 178) 654 = .ok (.iaload, 1) ∧ lk (mMsk 178) 654 = none := by decide +kernel
theorem i178_655 : decode (mCd 178) 655 = .ok (.invokevirtual 88, 3) ∧ lk (mMsk 178) 655 = none := by decide +kernel
theorem c178_88 : cvOk 178 88 89 1 0 = true := by decide +kernel
theorem i178_658 : decode (mCd 178) 658 = .ok (.aload_n 2, 1) ∧ lk (mMsk 178) 658 = none := by decide +kernel
theorem i178_659 : decode (mCd 178) 659 = .ok (.aload_n 0, 1) ∧ lk (mMsk 178) 659 = none := by decide +kernel
theorem i178_660 : decode (mCd 178) 660 = .ok (.iload_n 3, 1) ∧ lk (mMsk 178) 660 = none := by decide +kernel
theorem i178_661 : decode (mCd 178) 661 = .ok (.iconst 1, 1) ∧ lk (mMsk 178) 661 = none := by decide +kernel
theorem i178_662 : decode (mCd 178) 662 = .ok (.iadd, 1) ∧ lk (mMsk 178) 662 = none := by decide +kernel
theorem i178_663 : decode (mCd 178) 663 = .ok (.iaload, 1) ∧ lk (mMsk 178) 663 = none := by decide +kernel
theorem i178_664 : decode (mCd 178) 664 = .ok (.invokevirtual 91, 3) ∧ lk (mMsk 178) 664 = none := by decide +kernel
theorem c178_91 : cvOk 178 91 154 1 0 = true := by decide +kernel
theorem i178_667 : decode (mCd 178) 667 = .ok (.if_icmp .eq 167, 3) ∧ lk (mMsk 178) 667 = none := by decide +kernel
theorem i178_670 : decode (mCd 178) 670 = .ok (.iconst 0, 1) ∧ lk (mMsk 178) 670 = none := by decide +kernel
theorem i178_671 : decode (mCd 178) 671 = .ok (.ireturn, 1) ∧ lk (mMsk 178) 671 = none := by decide +kernel
theorem i178_672 : decode (mCd 178) 672 = .ok (.aload_n 1, 1) ∧ lk (mMsk 178) 672 = none := by decide +kernel
theorem i178_673 : decode (mCd 178) 673 = .ok (.aload_n 0, 1) ∧ lk (mMsk 178) 673 = none := by decide +kernel
theorem i178_674 : decode (mCd 178) 674 = .ok (.iload_n 3, 1) ∧ lk (mMsk 178) 674 = none := by decide +kernel
theorem i178_675 : decode (mCd 178) 675 = .ok (.iconst 1, 1) ∧ lk (mMsk 178) 675 = none := by decide +kernel
theorem i178_676 : decode (mCd 178) 676 = .ok (.iadd, 1) ∧ lk (mMsk 178) 676 = none := by decide +kernel
theorem i178_677 : decode (mCd 178) 677 = .ok (.iaload, 1) ∧ lk (mMsk 178) 677 = none := by decide +kernel
theorem i178_678 : decode (mCd 178) 678 = .ok (.invokevirtual 92, 3) ∧ lk (mMsk 178) 678 = none := by decide +kernel
theorem c178_92 : cvOk 178 92 90 1 0 = true := by decide +kernel
theorem i178_681 : decode (mCd 178) 681 = .ok (.aload_n 2, 1) ∧ lk (mMsk 178) 681 = none := by decide +kernel
theorem i178_682 : decode (mCd 178) 682 = .ok (.aload_n 0, 1) ∧ lk (mMsk 178) 682 = none := by decide +kernel
theorem i178_683 : decode (mCd 178) 683 = .ok (.iload_n 3, 1) ∧ lk (mMsk 178) 683 = none := by decide +kernel
theorem i178_684 : decode (mCd 178) 684 = .ok (.iconst 1, 1) ∧ lk (mMsk 178) 684 = none := by decide +kernel
theorem i178_685 : decode (mCd 178) 685 = .ok (.iadd, 1) ∧ lk (mMsk 178) 685 = none := by decide +kernel
theorem i178_686 : decode (mCd 178) 686 = .ok (.iaload, 1) ∧ lk (mMsk 178) 686 = none := by decide +kernel
theorem i178_687 : decode (mCd 178) 687 = .ok (.invokevirtual 95, 3) ∧ lk (mMsk 178) 687 = none := by decide +kernel
theorem c178_95 : cvOk 178 95 158 1 0 = true := by decide +kernel
theorem i178_690 : decode (mCd 178) 690 = .ok (.if_icmp .eq 144, 3) ∧ lk (mMsk 178) 690 = none := by decide +kernel
theorem i178_693 : decode (mCd 178) 693 = .ok (.iconst 0, 1) ∧ lk (mMsk 178) 693 = none := by decide +kernel
theorem i178_694 : decode (mCd 178) 694 = .ok (.ireturn, 1) ∧ lk (mMsk 178) 694 = none := by decide +kernel
theorem i178_695 : decode (mCd 178) 695 = .ok (.aload_n 1, 1) ∧ lk (mMsk 178) 695 = none := by decide +kernel
theorem i178_696 : decode (mCd 178) 696 = .ok (.aload_n 0, 1) ∧ lk (mMsk 178) 696 = none := by decide +kernel
theorem i178_697 : decode (mCd 178) 697 = .ok (.iload_n 3, 1) ∧ lk (mMsk 178) 697 = none := by decide +kernel
theorem i178_698 : decode (mCd 178) 698 = .ok (.iconst 1, 1) ∧ lk (mMsk 178) 698 = none := by decide +kernel
theorem i178_699 : decode (mCd 178) 699 = .ok (.iadd, 1) ∧ lk (mMsk 178) 699 = none := by decide +kernel
theorem i178_700 : decode (mCd 178) 700 = .ok (.iaload, 1) ∧ lk (mMsk 178) 700 = none := by decide +kernel
theorem i178_701 : decode (mCd 178) 701 = .ok (.aload_n 0, 1) ∧ lk (mMsk 178) 701 = none := by decide +kernel
theorem i178_702 : decode (mCd 178) 702 = .ok (.iload_n 3, 1) ∧ lk (mMsk 178) 702 = none := by decide +kernel
theorem i178_703 : decode (mCd 178) 703 = .ok (.iconst 2, 1) ∧ lk (mMsk 178) 703 = none := by decide +kernel
theorem i178_704 : decode (mCd 178) 704 = .ok (.iadd, 1) ∧ lk (mMsk 178) 704 = none := by decide +kernel
theorem i178_705 : decode (mCd 178) 705 = .ok (.iaload, 1) ∧ lk (mMsk 178) 705 = none := by decide +kernel
theorem i178_706 : decode (mCd 178) 706 = .ok (.invokevirtual 96, 3) ∧ lk (mMsk 178) 706 = none := by decide +kernel
theorem c178_96 : cvOk 178 96 91 2 0 = true := by decide +kernel
theorem i178_709 : decode (mCd 178) 709 = .ok (.aload_n 2, 1) ∧ lk (mMsk 178) 709 = none := by decide +kernel
theorem i178_710 : decode (mCd 178) 710 = .ok (.aload_n 0, 1) ∧ lk (mMsk 178) 710 = none := by decide +kernel
theorem i178_711 : decode (mCd 178) 711 = .ok (.iload_n 3, 1) ∧ lk (mMsk 178) 711 = none := by decide +kernel
theorem i178_712 : decode (mCd 178) 712 = .ok (.iconst 1, 1) ∧ lk (mMsk 178) 712 = none := by decide +kernel
theorem i178_713 : decode (mCd 178) 713 = .ok (.iadd, 1) ∧ lk (mMsk 178) 713 = none := by decide +kernel
theorem i178_714 : decode (mCd 178) 714 = .ok (.iaload, 1) ∧ lk (mMsk 178) 714 = none := by decide +kernel
theorem i178_715 : decode (mCd 178) 715 = .ok (.aload_n 0, 1) ∧ lk (mMsk 178) 715 = none := by decide +kernel
theorem i178_716 : decode (mCd 178) 716 = .ok (.iload_n 3, 1) ∧ lk (mMsk 178) 716 = none := by decide +kernel
theorem i178_717 : decode (mCd 178) 717 = .ok (.iconst 2, 1) ∧ lk (mMsk 178) 717 = none := by decide +kernel
theorem i178_718 : decode (mCd 178) 718 = .ok (.iadd, 1) ∧ lk (mMsk 178) 718 = none := by decide +kernel
theorem i178_719 : decode (mCd 178) 719 = .ok (.iaload, 1) ∧ lk (mMsk 178) 719 = none := by decide +kernel
theorem i178_720 : decode (mCd 178) 720 = .ok (.invokevirtual 99, 3) ∧ lk (mMsk 178) 720 = none := by decide +kernel
theorem c178_99 : cvOk 178 99 160 2 0 = true := by decide +kernel
theorem i178_723 : decode (mCd 178) 723 = .ok (.if_icmp .eq 111, 3) ∧ lk (mMsk 178) 723 = none := by decide +kernel
theorem i178_726 : decode (mCd 178) 726 = .ok (.iconst 0, 1) ∧ lk (mMsk 178) 726 = none := by decide +kernel
theorem i178_727 : decode (mCd 178) 727 = .ok (.ireturn, 1) ∧ lk (mMsk 178) 727 = none := by decide +kernel
theorem i178_728 : decode (mCd 178) 728 = .ok (.aload_n 1, 1) ∧ lk (mMsk 178) 728 = none := by decide +kernel
theorem i178_729 : decode (mCd 178) 729 = .ok (.aload_n 0, 1) ∧ lk (mMsk 178) 729 = none := by decide +kernel
theorem i178_730 : decode (mCd 178) 730 = .ok (.iload_n 3, 1) ∧ lk (mMsk 178) 730 = none := by decide +kernel
theorem i178_731 : decode (mCd 178) 731 = .ok (.iconst 1, 1) ∧ lk (mMsk 178) 731 = none := by decide +kernel
theorem i178_732 : decode (mCd 178) 732 = .ok (.iadd, 1) ∧ lk (mMsk 178) 732 = none := by decide +kernel
theorem i178_733 : decode (mCd 178) 733 = .ok (.iaload, 1) ∧ lk (mMsk 178) 733 = none := by decide +kernel
theorem i178_734 : decode (mCd 178) 734 = .ok (.aload_n 0, 1) ∧ lk (mMsk 178) 734 = none := by decide +kernel
theorem i178_735 : decode (mCd 178) 735 = .ok (.iload_n 3, 1) ∧ lk (mMsk 178) 735 = none := by decide +kernel
theorem i178_736 : decode (mCd 178) 736 = .ok (.iconst 2, 1) ∧ lk (mMsk 178) 736 = none := by decide +kernel
theorem i178_737 : decode (mCd 178) 737 = .ok (.iadd, 1) ∧ lk (mMsk 178) 737 = none := by decide +kernel
theorem i178_738 : decode (mCd 178) 738 = .ok (.iaload, 1) ∧ lk (mMsk 178) 738 = none := by decide +kernel
theorem i178_739 : decode (mCd 178) 739 = .ok (.aload_n 0, 1) ∧ lk (mMsk 178) 739 = none := by decide +kernel
theorem i178_740 : decode (mCd 178) 740 = .ok (.iload_n 3, 1) ∧ lk (mMsk 178) 740 = none := by decide +kernel
theorem i178_741 : decode (mCd 178) 741 = .ok (.iconst 3, 1) ∧ lk (mMsk 178) 741 = none := by decide +kernel
theorem i178_742 : decode (mCd 178) 742 = .ok (.iadd, 1) ∧ lk (mMsk 178) 742 = none := by decide +kernel
theorem i178_743 : decode (mCd 178) 743 = .ok (.iaload, 1) ∧ lk (mMsk 178) 743 = none := by decide +kernel
theorem i178_744 : decode (mCd 178) 744 = .ok (.invokevirtual 100, 3) ∧ lk (mMsk 178) 744 = none := by decide +kernel
theorem c178_100 : cvOk 178 100 92 3 0 = true := by decide +kernel
theorem i178_747 : decode (mCd 178) 747 = .ok (.aload_n 2, 1) ∧ lk (mMsk 178) 747 = none := by decide +kernel
theorem i178_748 : decode (mCd 178) 748 = .ok (.aload_n 0, 1) ∧ lk (mMsk 178) 748 = none := by decide +kernel
theorem i178_749 : decode (mCd 178) 749 = .ok (.iload_n 3, 1) ∧ lk (mMsk 178) 749 = none := by decide +kernel
theorem i178_750 : decode (mCd 178) 750 = .ok (.iconst 1, 1) ∧ lk (mMsk 178) 750 = none := by decide +kernel
theorem i178_751 : decode (mCd 178) 751 = .ok (.iadd, 1) ∧ lk (mMsk 178) 751 = none := by decide +kernel
theorem i178_752 : decode (mCd 178) 752 = .ok (.iaload, 1) ∧ lk (mMsk 178) 752 = none := by decide +kernel
theorem i178_753 : decode (mCd 178) 753 = .ok (.aload_n 0, 1) ∧ lk (mMsk 178) 753 = none := by decide +kernel
theorem i178_754 : decode (mCd 178) 754 = .ok (.iload_n 3, 1) ∧ lk (mMsk 178) 754 = none := by decide +kernel
theorem i178_755 : decode (mCd 178) 755 = .ok (.iconst 2, 1) ∧ lk (mMsk 178) 755 = none := by decide +kernel
theorem i178_756 : decode (mCd 178) 756 = .ok (.iadd, 1) ∧ lk (mMsk 178) 756 = none := by decide +kernel
theorem i178_757 : decode (mCd 178) 757 = .ok (.iaload, 1) ∧ lk (mMsk 178) 757 = none := by decide +kernel
theorem i178_758 : decode (mCd 178) 758 = .ok (.aload_n 0, 1) ∧ lk (mMsk 178) 758 = none := by decide +kernel
theorem i178_759 : decode (mCd 178) 759 = .ok (.iload_n 3, 1) ∧ lk (mMsk 178) 759 = none := by decide +kernel
theorem i178_760 : decode (mCd 178) 760 = .ok (.iconst 3, 1) ∧ lk (mMsk 178) 760 = none := by decide +kernel
theorem i178_761 : decode (mCd 178) 761 = .ok (.iadd, 1) ∧ lk (mMsk 178) 761 = none := by decide +kernel
theorem i178_762 : decode (mCd 178) 762 = .ok (.iaload, 1) ∧ lk (mMsk 178) 762 = none := by decide +kernel
theorem i178_763 : decode (mCd 178) 763 = .ok (.invokevirtual 104, 3) ∧ lk (mMsk 178) 763 = none := by decide +kernel
theorem c178_104 : cvOk 178 104 166 3 0 = true := by decide +kernel
theorem i178_766 : decode (mCd 178) 766 = .ok (.if_icmp .eq 68, 3) ∧ lk (mMsk 178) 766 = none := by decide +kernel
theorem i178_769 : decode (mCd 178) 769 = .ok (.iconst 0, 1) ∧ lk (mMsk 178) 769 = none := by decide +kernel
theorem i178_770 : decode (mCd 178) 770 = .ok (.ireturn, 1) ∧ lk (mMsk 178) 770 = none := by decide +kernel
theorem i178_771 : decode (mCd 178) 771 = .ok (.aload_n 1, 1) ∧ lk (mMsk 178) 771 = none := by decide +kernel
theorem i178_772 : decode (mCd 178) 772 = .ok (.invokevirtual 105, 3) ∧ lk (mMsk 178) 772 = none := by decide +kernel
theorem c178_105 : cvOk 178 105 93 0 0 = true := by decide +kernel
theorem i178_775 : decode (mCd 178) 775 = .ok (.aload_n 2, 1) ∧ lk (mMsk 178) 775 = none := by decide +kernel
theorem i178_776 : decode (mCd 178) 776 = .ok (.invokevirtual 108, 3) ∧ lk (mMsk 178) 776 = none := by decide +kernel
theorem c178_108 : cvOk 178 108 167 0 0 = true := by decide +kernel
theorem i178_779 : decode (mCd 178) 779 = .ok (.if_icmp .eq 55, 3) ∧ lk (mMsk 178) 779 = none := by decide +kernel
theorem i178_782 : decode (mCd 178) 782 = .ok (.iconst 0, 1) ∧ lk (mMsk 178) 782 = none := by decide +kernel
theorem i178_783 : decode (mCd 178) 783 = .ok (.ireturn, 1) ∧ lk (mMsk 178) 783 = none := by decide +kernel
theorem i178_784 : decode (mCd 178) 784 = .ok (.aload_n 1, 1) ∧ lk (mMsk 178) 784 = none := by decide +kernel
theorem i178_785 : decode (mCd 178) 785 = .ok (.invokevirtual 109, 3) ∧ lk (mMsk 178) 785 = none := by decide +kernel
theorem c178_109 : cvOk 178 109 94 0 0 = true := by decide +kernel
theorem i178_788 : decode (mCd 178) 788 = .ok (.aload_n 2, 1) ∧ lk (mMsk 178) 788 = none := by decide +kernel
theorem i178_789 : decode (mCd 178) 789 = .ok (.invokevirtual 112, 3) ∧ lk (mMsk 178) 789 = none := by decide +kernel
theorem c178_112 : cvOk 178 112 168 0 0 = true := by decide +kernel
theorem i178_792 : decode (mCd 178) 792 = .ok (.if_icmp .eq 42, 3) ∧ lk (mMsk 178) 792 = none := by decide +kernel
theorem i178_795 : decode (mCd 178) 795 = .ok (.iconst 0, 1) ∧ lk (mMsk 178) 795 = none := by decide +kernel
theorem i178_796 : decode (mCd 178) 796 = .ok (.ireturn, 1) ∧ lk (mMsk 178) 796 = none := by decide +kernel
theorem i178_797 : decode (mCd 178) 797 = .ok (.aload_n 1, 1) ∧ lk (mMsk 178) 797 = none := by decide +kernel
theorem i178_798 : decode (mCd 178) 798 = .ok (.aload_n 0, 1) ∧ lk (mMsk 178) 798 = none := by decide +kernel
theorem i178_799 : decode (mCd 178) 799 = .ok (.iload_n 3, 1) ∧ lk (mMsk 178) 799 = none := by decide +kernel
theorem i178_800 : decode (mCd 178) 800 = .ok (.iconst 1, 1) ∧ lk (mMsk 178) 800 = none := by decide +kernel
theorem i178_801 : decode (mCd 178) 801 = .ok (.iadd, 1) ∧ lk (mMsk 178) 801 = none := by decide +kernel
theorem i178_802 : decode (mCd 178) 802 = .ok (.iaload, 1) ∧ lk (mMsk 178) 802 = none := by decide +kernel
theorem i178_803 : decode (mCd 178) 803 = .ok (.invokevirtual 113, 3) ∧ lk (mMsk 178) 803 = none := by decide +kernel
theorem c178_113 : cvOk 178 113 95 1 0 = true := by decide +kernel
theorem i178_806 : decode (mCd 178) 806 = .ok (.aload_n 2, 1) ∧ lk (mMsk 178) 806 = none := by decide +kernel
theorem i178_807 : decode (mCd 178) 807 = .ok (.aload_n 0, 1) ∧ lk (mMsk 178) 807 = none := by decide +kernel
theorem i178_808 : decode (mCd 178) 808 = .ok (.iload_n 3, 1) ∧ lk (mMsk 178) 808 = none := by decide +kernel
theorem i178_809 : decode (mCd 178) 809 = .ok (.iconst 1, 1) ∧ lk (mMsk 178) 809 = none := by decide +kernel
theorem i178_810 : decode (mCd 178) 810 = .ok (.iadd, 1) ∧ lk (mMsk 178) 810 = none := by decide +kernel
theorem i178_811 : decode (mCd 178) 811 = .ok (.iaload, 1) ∧ lk (mMsk 178) 811 = none := by decide +kernel
theorem i178_812 : decode (mCd 178) 812 = .ok (.invokevirtual 116, 3) ∧ lk (mMsk 178) 812 = none := by decide +kernel
theorem c178_116 : cvOk 178 116 171 1 0 = true := by decide +kernel
theorem i178_815 : decode (mCd 178) 815 = .ok (.if_icmp .eq 19, 3) ∧ lk (mMsk 178) 815 = none := by decide +kernel
theorem i178_818 : decode (mCd 178) 818 = .ok (.iconst 0, 1) ∧ lk (mMsk 178) 818 = none := by decide +kernel
theorem i178_819 : decode (mCd 178) 819 = .ok (.ireturn, 1) ∧ lk (mMsk 178) 819 = none := by decide +kernel
theorem i178_820 : decode (mCd 178) 820 = .ok (.aload_n 1, 1) ∧ lk (mMsk 178) 820 = none := by decide +kernel
theorem i178_821 : decode (mCd 178) 821 = .ok (.invokevirtual 117, 3) ∧ lk (mMsk 178) 821 = none := by decide +kernel
theorem c178_117 : cvOk 178 117 96 0 1 = true := by decide +kernel
theorem i178_824 : decode (mCd 178) 824 = .ok (.aload_n 2, 1) ∧ lk (mMsk 178) 824 = none := by decide +kernel
theorem i178_825 : decode (mCd 178) 825 = .ok (.invokevirtual 121, 3) ∧ lk (mMsk 178) 825 = none := by decide +kernel
theorem c178_121 : cvOk 178 121 174 0 1 = true := by decide +kernel
theorem i178_828 : decode (mCd 178) 828 = .ok (.lcmp, 1) ∧ lk (mMsk 178) 828 = none := by decide +kernel
theorem i178_829 : decode (mCd 178) 829 = .ok (.ifCond .eq 5, 3) ∧ lk (mMsk 178) 829 = none := by decide +kernel
theorem i178_832 : decode (mCd 178) 832 = .ok (.iconst 0, 1) ∧ lk (mMsk 178) 832 = none := by decide +kernel
theorem i178_833 : decode (mCd 178) 833 = .ok (.ireturn, 1) ∧ lk (mMsk 178) 833 = none := by decide +kernel
theorem i178_837 : decode (mCd 178) 837 = .ok (.goto (-819), 3) ∧ lk (mMsk 178) 837 = none := by decide +kernel
theorem k_Law_law_18_eq (X : mX) {x3 : Int32} (hX : ¬ X.1 = 0) {S : Mem} : k_Law_law_18 X x3 S = if ((Int32.ofNat (X.1 - 1)) - 5) < x3 then some (1, S) else if inb x3 (X.1 - 1) = true then if ((X.2 x3.toNatClampNeg) &&& 31) = 0 then if inb (x3 + 1) (X.1 - 1) = true then if inb (x3 + 2) (X.1 - 1) = true then bI (gI X 72 [some (.ref 0), some (.long ((((X.2 (x3 + 1).toNatClampNeg).toInt64) <<< ((32 : Int32).toInt64 &&& 63)) ||| (((X.2 (x3 + 2).toNatClampNeg).toInt64) &&& 4294967295))), none, none] S) (fun r102 S101 => if inb (x3 + 1) (X.1 - 1) = true then if inb (x3 + 2) (X.1 - 1) = true then bI (gI X 109 [some (.ref 55), some (.long ((((X.2 (x3 + 1).toNatClampNeg).toInt64) <<< ((32 : Int32).toInt64 &&& 63)) ||| (((X.2 (x3 + 2).toNatClampNeg).toInt64) &&& 4294967295))), none, none, none, none, none] S101) (fun r104 S103 => if r102 = r104 then k_Law_law_834 X x3 S103 else some (0, S103)) else none else none) else none else none else if ((X.2 x3.toNatClampNeg) &&& 31) = 1 then bI (gI X 73 [some (.ref 0), none] S) (fun r106 S105 => bI (gI X 110 [some (.ref 55), none] S105) (fun r108 S107 => if r106 = r108 then k_Law_law_834 X x3 S107 else some (0, S107))) else if ((X.2 x3.toNatClampNeg) &&& 31) = 2 then if inb (x3 + 1) (X.1 - 1) = true then bI (gI X 74 [some (.ref 0), some (.int (X.2 (x3 + 1).toNatClampNeg))] S) (fun r110 S109 => if inb (x3 + 1) (X.1 - 1) = true then bI (gI X 116 [some (.ref 55), some (.int (X.2 (x3 + 1).toNatClampNeg))] S109) (fun r112 S111 => if r110 = r112 then k_Law_law_834 X x3 S111 else some (0, S111)) else none) else none else if ((X.2 x3.toNatClampNeg) &&& 31) = 3 then bI (gI X 75 [some (.ref 0)] S) (fun r114 S113 => bI (gI X 117 [some (.ref 55), none] S113) (fun r116 S115 => if r114 = r116 then k_Law_law_834 X x3 S115 else some (0, S115))) else if ((X.2 x3.toNatClampNeg) &&& 31) = 4 then if inb (x3 + 1) (X.1 - 1) = true then if inb (x3 + 2) (X.1 - 1) = true then bI (gI X 76 [some (.ref 0), some (.int (X.2 (x3 + 1).toNatClampNeg)), some (.int (X.2 (x3 + 2).toNatClampNeg))] S) (fun r118 S117 => if inb (x3 + 1) (X.1 - 1) = true then if inb (x3 + 2) (X.1 - 1) = true then bI (gI X 119 [some (.ref 55), some (.int (X.2 (x3 + 1).toNatClampNeg)), some (.int (X.2 (x3 + 2).toNatClampNeg))] S117) (fun r120 S119 => if r118 = r120 then k_Law_law_834 X x3 S119 else some (0, S119)) else none else none) else none else none else if ((X.2 x3.toNatClampNeg) &&& 31) = 5 then if inb (x3 + 1) (X.1 - 1) = true then if inb (x3 + 2) (X.1 - 1) = true then if inb (x3 + 3) (X.1 - 1) = true then if inb (x3 + 4) (X.1 - 1) = true then bI (gI X 77 [some (.ref 0), some (.int (X.2 (x3 + 1).toNatClampNeg)), some (.int (X.2 (x3 + 2).toNatClampNeg)), some (.int (X.2 (x3 + 3).toNatClampNeg)), some (.int (X.2 (x3 + 4).toNatClampNeg))] S) (fun r122 S121 => if inb (x3 + 1) (X.1 - 1) = true then if inb (x3 + 2) (X.1 - 1) = true then if inb (x3 + 3) (X.1 - 1) = true then if inb (x3 + 4) (X.1 - 1) = true then bI (gI X 122 [some (.ref 55), some (.int (X.2 (x3 + 1).toNatClampNeg)), some (.int (X.2 (x3 + 2).toNatClampNeg)), some (.int (X.2 (x3 + 3).toNatClampNeg)), some (.int (X.2 (x3 + 4).toNatClampNeg))] S121) (fun r124 S123 => if r122 = r124 then k_Law_law_834 X x3 S123 else some (0, S123)) else none else none else none else none) else none else none else none else none else if ((X.2 x3.toNatClampNeg) &&& 31) = 6 then if inb (x3 + 1) (X.1 - 1) = true then if inb (x3 + 2) (X.1 - 1) = true then bI (gI X 78 [some (.ref 0), some (.int (X.2 (x3 + 1).toNatClampNeg)), some (.int (X.2 (x3 + 2).toNatClampNeg)), none] S) (fun r126 S125 => if inb (x3 + 1) (X.1 - 1) = true then if inb (x3 + 2) (X.1 - 1) = true then bI (gI X 126 [some (.ref 55), some (.int (X.2 (x3 + 1).toNatClampNeg)), some (.int (X.2 (x3 + 2).toNatClampNeg))] S125) (fun r128 S127 => if r126 = r128 then k_Law_law_834 X x3 S127 else some (0, S127)) else none else none) else none else none else if ((X.2 x3.toNatClampNeg) &&& 31) = 7 then if inb (x3 + 1) (X.1 - 1) = true then if inb (x3 + 2) (X.1 - 1) = true then bI (gI X 79 [some (.ref 0), some (.int (X.2 (x3 + 1).toNatClampNeg)), some (.int (X.2 (x3 + 2).toNatClampNeg)), none] S) (fun r130 S129 => if inb (x3 + 1) (X.1 - 1) = true then if inb (x3 + 2) (X.1 - 1) = true then bI (gI X 127 [some (.ref 55), some (.int (X.2 (x3 + 1).toNatClampNeg)), some (.int (X.2 (x3 + 2).toNatClampNeg)), none] S129) (fun r132 S131 => if r130 = r132 then k_Law_law_834 X x3 S131 else some (0, S131)) else none else none) else none else none else if ((X.2 x3.toNatClampNeg) &&& 31) = 8 then if inb (x3 + 1) (X.1 - 1) = true then bI (gI X 80 [some (.ref 0), some (.int (X.2 (x3 + 1).toNatClampNeg)), none] S) (fun r134 S133 => if inb (x3 + 1) (X.1 - 1) = true then bI (gI X 128 [some (.ref 55), some (.int (X.2 (x3 + 1).toNatClampNeg)), none, none, none, none] S133) (fun r136 S135 => if r134 = r136 then k_Law_law_834 X x3 S135 else some (0, S135)) else none) else none else if ((X.2 x3.toNatClampNeg) &&& 31) = 9 then if inb (x3 + 1) (X.1 - 1) = true then if inb (x3 + 2) (X.1 - 1) = true then bI (gI X 81 [some (.ref 0), some (.int (X.2 (x3 + 1).toNatClampNeg)), some (.int (X.2 (x3 + 2).toNatClampNeg)), none, none] S) (fun r138 S137 => if inb (x3 + 1) (X.1 - 1) = true then if inb (x3 + 2) (X.1 - 1) = true then bI (gI X 129 [some (.ref 55), some (.int (X.2 (x3 + 1).toNatClampNeg)), some (.int (X.2 (x3 + 2).toNatClampNeg)), none] S137) (fun r140 S139 => if r138 = r140 then k_Law_law_834 X x3 S139 else some (0, S139)) else none else none) else none else none else if ((X.2 x3.toNatClampNeg) &&& 31) = 10 then if inb (x3 + 1) (X.1 - 1) = true then if inb (x3 + 2) (X.1 - 1) = true then bI (gI X 82 [some (.ref 0), some (.int (X.2 (x3 + 1).toNatClampNeg)), some (.int (X.2 (x3 + 2).toNatClampNeg))] S) (fun r142 S141 => if inb (x3 + 1) (X.1 - 1) = true then if inb (x3 + 2) (X.1 - 1) = true then bI (gI X 131 [some (.ref 55), some (.int (X.2 (x3 + 1).toNatClampNeg)), some (.int (X.2 (x3 + 2).toNatClampNeg))] S141) (fun r144 S143 => if r142 = r144 then k_Law_law_834 X x3 S143 else some (0, S143)) else none else none) else none else none else if ((X.2 x3.toNatClampNeg) &&& 31) = 11 then if inb (x3 + 1) (X.1 - 1) = true then if inb (x3 + 2) (X.1 - 1) = true then bI (gI X 83 [some (.ref 0), some (.int (X.2 (x3 + 1).toNatClampNeg)), some (.int (X.2 (x3 + 2).toNatClampNeg)), none] S) (fun r146 S145 => if inb (x3 + 1) (X.1 - 1) = true then if inb (x3 + 2) (X.1 - 1) = true then bI (gI X 132 [some (.ref 55), some (.int (X.2 (x3 + 1).toNatClampNeg)), some (.int (X.2 (x3 + 2).toNatClampNeg)), none] S145) (fun r148 S147 => if r146 = r148 then k_Law_law_834 X x3 S147 else some (0, S147)) else none else none) else none else none else if ((X.2 x3.toNatClampNeg) &&& 31) = 12 then if inb (x3 + 1) (X.1 - 1) = true then if inb (x3 + 2) (X.1 - 1) = true then bI (gI X 84 [some (.ref 0), some (.int (X.2 (x3 + 1).toNatClampNeg)), some (.int (X.2 (x3 + 2).toNatClampNeg)), none, none, none] S) (fun r150 S149 => if inb (x3 + 1) (X.1 - 1) = true then if inb (x3 + 2) (X.1 - 1) = true then bI (gI X 133 [some (.ref 55), some (.int (X.2 (x3 + 1).toNatClampNeg)), some (.int (X.2 (x3 + 2).toNatClampNeg)), none, none] S149) (fun r152 S151 => if r150 = r152 then k_Law_law_834 X x3 S151 else some (0, S151)) else none else none) else none else none else if ((X.2 x3.toNatClampNeg) &&& 31) = 13 then if inb (x3 + 1) (X.1 - 1) = true then bI (gI X 85 [some (.ref 0), some (.int (X.2 (x3 + 1).toNatClampNeg)), none, none] S) (fun r154 S153 => if inb (x3 + 1) (X.1 - 1) = true then bI (gI X 137 [some (.ref 55), some (.int (X.2 (x3 + 1).toNatClampNeg)), none, none] S153) (fun r156 S155 => if r154 = r156 then k_Law_law_834 X x3 S155 else some (0, S155)) else none) else none else if ((X.2 x3.toNatClampNeg) &&& 31) = 14 then if inb (x3 + 1) (X.1 - 1) = true then bI (gI X 86 [some (.ref 0), some (.int (X.2 (x3 + 1).toNatClampNeg)), none] S) (fun r158 S157 => if inb (x3 + 1) (X.1 - 1) = true then bI (gI X 143 [some (.ref 55), some (.int (X.2 (x3 + 1).toNatClampNeg))] S157) (fun r160 S159 => if r158 = r160 then k_Law_law_834 X x3 S159 else some (0, S159)) else none) else none else if ((X.2 x3.toNatClampNeg) &&& 31) = 15 then if inb (x3 + 1) (X.1 - 1) = true then bI (gI X 87 [some (.ref 0), some (.int (X.2 (x3 + 1).toNatClampNeg)), none] S) (fun r162 S161 => if inb (x3 + 1) (X.1 - 1) = true then bI (gI X 150 [some (.ref 55), some (.int (X.2 (x3 + 1).toNatClampNeg))] S161) (fun r164 S163 => if r162 = r164 then k_Law_law_834 X x3 S163 else some (0, S163)) else none) else none else if ((X.2 x3.toNatClampNeg) &&& 31) = 16 then if inb (x3 + 1) (X.1 - 1) = true then bI (gI X 88 [some (.ref 0), some (.int (X.2 (x3 + 1).toNatClampNeg))] S) (fun r166 S165 => if inb (x3 + 1) (X.1 - 1) = true then bI (gI X 152 [some (.ref 55), some (.int (X.2 (x3 + 1).toNatClampNeg))] S165) (fun r168 S167 => if r166 = r168 then k_Law_law_834 X x3 S167 else some (0, S167)) else none) else none else if ((X.2 x3.toNatClampNeg) &&& 31) = 17 then if inb (x3 + 1) (X.1 - 1) = true then bI (gI X 89 [some (.ref 0), some (.int (X.2 (x3 + 1).toNatClampNeg))] S) (fun r170 S169 => if inb (x3 + 1) (X.1 - 1) = true then bI (gI X 154 [some (.ref 55), some (.int (X.2 (x3 + 1).toNatClampNeg))] S169) (fun r172 S171 => if r170 = r172 then k_Law_law_834 X x3 S171 else some (0, S171)) else none) else none else if ((X.2 x3.toNatClampNeg) &&& 31) = 18 then if inb (x3 + 1) (X.1 - 1) = true then bI (gI X 90 [some (.ref 0), some (.int (X.2 (x3 + 1).toNatClampNeg))] S) (fun r174 S173 => if inb (x3 + 1) (X.1 - 1) = true then bI (gI X 158 [some (.ref 55), some (.int (X.2 (x3 + 1).toNatClampNeg))] S173) (fun r176 S175 => if r174 = r176 then k_Law_law_834 X x3 S175 else some (0, S175)) else none) else none else if ((X.2 x3.toNatClampNeg) &&& 31) = 19 then if inb (x3 + 1) (X.1 - 1) = true then if inb (x3 + 2) (X.1 - 1) = true then bI (gI X 91 [some (.ref 0), some (.int (X.2 (x3 + 1).toNatClampNeg)), some (.int (X.2 (x3 + 2).toNatClampNeg))] S) (fun r178 S177 => if inb (x3 + 1) (X.1 - 1) = true then if inb (x3 + 2) (X.1 - 1) = true then bI (gI X 160 [some (.ref 55), some (.int (X.2 (x3 + 1).toNatClampNeg)), some (.int (X.2 (x3 + 2).toNatClampNeg))] S177) (fun r180 S179 => if r178 = r180 then k_Law_law_834 X x3 S179 else some (0, S179)) else none else none) else none else none else if ((X.2 x3.toNatClampNeg) &&& 31) = 20 then if inb (x3 + 1) (X.1 - 1) = true then if inb (x3 + 2) (X.1 - 1) = true then if inb (x3 + 3) (X.1 - 1) = true then bI (gI X 92 [some (.ref 0), some (.int (X.2 (x3 + 1).toNatClampNeg)), some (.int (X.2 (x3 + 2).toNatClampNeg)), some (.int (X.2 (x3 + 3).toNatClampNeg)), none, none] S) (fun r182 S181 => if inb (x3 + 1) (X.1 - 1) = true then if inb (x3 + 2) (X.1 - 1) = true then if inb (x3 + 3) (X.1 - 1) = true then bI (gI X 166 [some (.ref 55), some (.int (X.2 (x3 + 1).toNatClampNeg)), some (.int (X.2 (x3 + 2).toNatClampNeg)), some (.int (X.2 (x3 + 3).toNatClampNeg))] S181) (fun r184 S183 => if r182 = r184 then k_Law_law_834 X x3 S183 else some (0, S183)) else none else none else none) else none else none else none else if ((X.2 x3.toNatClampNeg) &&& 31) = 21 then bI (gI X 93 [some (.ref 0)] S) (fun r186 S185 => bI (gI X 167 [some (.ref 55), none] S185) (fun r188 S187 => if r186 = r188 then k_Law_law_834 X x3 S187 else some (0, S187))) else if ((X.2 x3.toNatClampNeg) &&& 31) = 22 then bI (gI X 94 [some (.ref 0)] S) (fun r190 S189 => bI (gI X 168 [some (.ref 55), none] S189) (fun r192 S191 => if r190 = r192 then k_Law_law_834 X x3 S191 else some (0, S191))) else if ((X.2 x3.toNatClampNeg) &&& 31) = 23 then if inb (x3 + 1) (X.1 - 1) = true then bI (gI X 95 [some (.ref 0), some (.int (X.2 (x3 + 1).toNatClampNeg))] S) (fun r194 S193 => if inb (x3 + 1) (X.1 - 1) = true then bI (gI X 171 [some (.ref 55), some (.int (X.2 (x3 + 1).toNatClampNeg))] S193) (fun r196 S195 => if r194 = r196 then k_Law_law_834 X x3 S195 else some (0, S195)) else none) else none else if ((X.2 x3.toNatClampNeg) &&& 31) = 24 then bJ (gJ X 96 [some (.ref 0), none, none, none, none] S) (fun r198 S197 => bJ (gJ X 174 [some (.ref 55), none, none] S197) (fun r200 S199 => if (lg_cmp r198 r200) = 0 then k_Law_law_834 X x3 S199 else some (0, S199))) else k_Law_law_834 X x3 S else none := by
  show cI (mV oS X 178 18 [some (.ref mSid), some (.ref 0), some (.ref 55), some (.int x3)] [] S) = _
  refine V_iload_n (c := cI) i178_18.1 (mM_s i178_18.2 rfl) rfl ?_
  refine V_aload_n (c := cI) i178_19.1 (mM_n i178_19.2) rfl rfl ?_
  refine V_slen (c := cI) i178_20.1 (mM_n i178_20.2) hX rfl ?_
  refine V_iconst (c := cI) i178_21.1 (mM_n i178_21.2) (v := 5) rfl ?_
  refine V_isub (c := cI) i178_22.1 (mM_n i178_22.2)  ?_
  refine V_icmp_gt (c := cI) i178_23.1 (mM_n i178_23.2) rfl (fun _ => ?_) (fun _ => ?_)
  · refine V_iconst (c := cI) i178_840.1 (mM_n i178_840.2) (v := 1) rfl ?_
    exact V_iret i178_841.1 (mM_n i178_841.2) rfl
  · refine V_aload_n (c := cI) i178_26.1 (mM_n i178_26.2) rfl rfl ?_
    refine V_iload_n (c := cI) i178_27.1 (mM_n i178_27.2) rfl ?_
    refine V_sload (c := cI) i178_28.1 (mM_n i178_28.2) rfl (fun _ => ?_)
    refine V_bipush (c := cI) i178_29.1 (mM_n i178_29.2) (v := 31) rfl ?_
    refine V_iand (c := cI) i178_31.1 (mM_n i178_31.2)  ?_
    refine V_ite (fun hc0 => ?_) (fun hc0 => ?_)
    · refine V_sw (c := cI) i178_32.1 (mM_n i178_32.2) (o := 116) (by rw [hc0]; rfl) rfl ?_
      refine V_aload_n (c := cI) i178_148.1 (mM_n i178_148.2) rfl rfl ?_
      refine V_aload_n (c := cI) i178_149.1 (mM_n i178_149.2) rfl rfl ?_
      refine V_iload_n (c := cI) i178_150.1 (mM_n i178_150.2) rfl ?_
      refine V_iconst (c := cI) i178_151.1 (mM_n i178_151.2) (v := 1) rfl ?_
      refine V_iadd (c := cI) i178_152.1 (mM_n i178_152.2)  ?_
      refine V_sload (c := cI) i178_153.1 (mM_n i178_153.2) rfl (fun _ => ?_)
      refine V_i2l (c := cI) i178_154.1 (mM_n i178_154.2)  ?_
      refine V_bipush (c := cI) i178_155.1 (mM_n i178_155.2) (v := 32) rfl ?_
      refine V_lshl (c := cI) i178_157.1 (mM_n i178_157.2)  ?_
      refine V_aload_n (c := cI) i178_158.1 (mM_n i178_158.2) rfl rfl ?_
      refine V_iload_n (c := cI) i178_159.1 (mM_n i178_159.2) rfl ?_
      refine V_iconst (c := cI) i178_160.1 (mM_n i178_160.2) (v := 2) rfl ?_
      refine V_iadd (c := cI) i178_161.1 (mM_n i178_161.2)  ?_
      refine V_sload (c := cI) i178_162.1 (mM_n i178_162.2) rfl (fun _ => ?_)
      refine V_i2l (c := cI) i178_163.1 (mM_n i178_163.2)  ?_
      refine V_ldc2_w (c := cI) i178_164.1 (mM_n i178_164.2) q178_13 ?_
      refine V_land (c := cI) i178_167.1 (mM_n i178_167.2)  ?_
      refine V_lor (c := cI) i178_168.1 (mM_n i178_168.2)  ?_
      refine V_cvI (c := cI) (As := [.long ((((X.2 (x3 + 1).toNatClampNeg).toInt64) <<< ((32 : Int32).toInt64 &&& 63)) ||| (((X.2 (x3 + 2).toNatClampNeg).toInt64) &&& 4294967295))]) (rest := []) i178_169.1 (mM_n i178_169.2) c178_15 rfl rfl rfl rfl (Nat.le_of_ble_eq_true rfl) rfl (fun r102 S101 => ?_)
      refine V_aload_n (c := cI) i178_172.1 (mM_n i178_172.2) rfl rfl ?_
      refine V_aload_n (c := cI) i178_173.1 (mM_n i178_173.2) rfl rfl ?_
      refine V_iload_n (c := cI) i178_174.1 (mM_n i178_174.2) rfl ?_
      refine V_iconst (c := cI) i178_175.1 (mM_n i178_175.2) (v := 1) rfl ?_
      refine V_iadd (c := cI) i178_176.1 (mM_n i178_176.2)  ?_
      refine V_sload (c := cI) i178_177.1 (mM_n i178_177.2) rfl (fun _ => ?_)
      refine V_i2l (c := cI) i178_178.1 (mM_n i178_178.2)  ?_
      refine V_bipush (c := cI) i178_179.1 (mM_n i178_179.2) (v := 32) rfl ?_
      refine V_lshl (c := cI) i178_181.1 (mM_n i178_181.2)  ?_
      refine V_aload_n (c := cI) i178_182.1 (mM_n i178_182.2) rfl rfl ?_
      refine V_iload_n (c := cI) i178_183.1 (mM_n i178_183.2) rfl ?_
      refine V_iconst (c := cI) i178_184.1 (mM_n i178_184.2) (v := 2) rfl ?_
      refine V_iadd (c := cI) i178_185.1 (mM_n i178_185.2)  ?_
      refine V_sload (c := cI) i178_186.1 (mM_n i178_186.2) rfl (fun _ => ?_)
      refine V_i2l (c := cI) i178_187.1 (mM_n i178_187.2)  ?_
      refine V_ldc2_w (c := cI) i178_188.1 (mM_n i178_188.2) q178_13 ?_
      refine V_land (c := cI) i178_191.1 (mM_n i178_191.2)  ?_
      refine V_lor (c := cI) i178_192.1 (mM_n i178_192.2)  ?_
      refine V_cvI (c := cI) (As := [.long ((((X.2 (x3 + 1).toNatClampNeg).toInt64) <<< ((32 : Int32).toInt64 &&& 63)) ||| (((X.2 (x3 + 2).toNatClampNeg).toInt64) &&& 4294967295))]) (rest := [.int r102]) i178_193.1 (mM_n i178_193.2) c178_19 rfl rfl rfl rfl (Nat.le_of_ble_eq_true rfl) rfl (fun r104 S103 => ?_)
      refine V_icmp_eq (c := cI) i178_196.1 (mM_n i178_196.2) rfl (fun _ => ?_) (fun _ => ?_)
      · exact V_msk (l1 := [some (.ref mSid), some (.ref 0), some (.ref 55), some (.int x3)]) i178_834.2 rfl rfl
      · refine V_iconst (c := cI) i178_199.1 (mM_n i178_199.2) (v := 0) rfl ?_
        exact V_iret i178_200.1 (mM_n i178_200.2) rfl
    ·
      refine V_ite (fun hc1 => ?_) (fun hc1 => ?_)
      · refine V_sw (c := cI) i178_32.1 (mM_n i178_32.2) (o := 169) (by rw [hc1]; rfl) rfl ?_
        refine V_aload_n (c := cI) i178_201.1 (mM_n i178_201.2) rfl rfl ?_
        refine V_cvI (c := cI) (As := []) (rest := []) i178_202.1 (mM_n i178_202.2) c178_20 rfl rfl rfl rfl (Nat.le_of_ble_eq_true rfl) rfl (fun r106 S105 => ?_)
        refine V_aload_n (c := cI) i178_205.1 (mM_n i178_205.2) rfl rfl ?_
        refine V_cvI (c := cI) (As := []) (rest := [.int r106]) i178_206.1 (mM_n i178_206.2) c178_24 rfl rfl rfl rfl (Nat.le_of_ble_eq_true rfl) rfl (fun r108 S107 => ?_)
        refine V_icmp_eq (c := cI) i178_209.1 (mM_n i178_209.2) rfl (fun _ => ?_) (fun _ => ?_)
        · exact V_msk (l1 := [some (.ref mSid), some (.ref 0), some (.ref 55), some (.int x3)]) i178_834.2 rfl rfl
        · refine V_iconst (c := cI) i178_212.1 (mM_n i178_212.2) (v := 0) rfl ?_
          exact V_iret i178_213.1 (mM_n i178_213.2) rfl
      ·
        refine V_ite (fun hc2 => ?_) (fun hc2 => ?_)
        · refine V_sw (c := cI) i178_32.1 (mM_n i178_32.2) (o := 182) (by rw [hc2]; rfl) rfl ?_
          refine V_aload_n (c := cI) i178_214.1 (mM_n i178_214.2) rfl rfl ?_
          refine V_aload_n (c := cI) i178_215.1 (mM_n i178_215.2) rfl rfl ?_
          refine V_iload_n (c := cI) i178_216.1 (mM_n i178_216.2) rfl ?_
          refine V_iconst (c := cI) i178_217.1 (mM_n i178_217.2) (v := 1) rfl ?_
          refine V_iadd (c := cI) i178_218.1 (mM_n i178_218.2)  ?_
          refine V_sload (c := cI) i178_219.1 (mM_n i178_219.2) rfl (fun _ => ?_)
          refine V_cvI (c := cI) (As := [.int (X.2 (x3 + 1).toNatClampNeg)]) (rest := []) i178_220.1 (mM_n i178_220.2) c178_25 rfl rfl rfl rfl (Nat.le_of_ble_eq_true rfl) rfl (fun r110 S109 => ?_)
          refine V_aload_n (c := cI) i178_223.1 (mM_n i178_223.2) rfl rfl ?_
          refine V_aload_n (c := cI) i178_224.1 (mM_n i178_224.2) rfl rfl ?_
          refine V_iload_n (c := cI) i178_225.1 (mM_n i178_225.2) rfl ?_
          refine V_iconst (c := cI) i178_226.1 (mM_n i178_226.2) (v := 1) rfl ?_
          refine V_iadd (c := cI) i178_227.1 (mM_n i178_227.2)  ?_
          refine V_sload (c := cI) i178_228.1 (mM_n i178_228.2) rfl (fun _ => ?_)
          refine V_cvI (c := cI) (As := [.int (X.2 (x3 + 1).toNatClampNeg)]) (rest := [.int r110]) i178_229.1 (mM_n i178_229.2) c178_29 rfl rfl rfl rfl (Nat.le_of_ble_eq_true rfl) rfl (fun r112 S111 => ?_)
          refine V_icmp_eq (c := cI) i178_232.1 (mM_n i178_232.2) rfl (fun _ => ?_) (fun _ => ?_)
          · exact V_msk (l1 := [some (.ref mSid), some (.ref 0), some (.ref 55), some (.int x3)]) i178_834.2 rfl rfl
          · refine V_iconst (c := cI) i178_235.1 (mM_n i178_235.2) (v := 0) rfl ?_
            exact V_iret i178_236.1 (mM_n i178_236.2) rfl
        ·
          refine V_ite (fun hc3 => ?_) (fun hc3 => ?_)
          · refine V_sw (c := cI) i178_32.1 (mM_n i178_32.2) (o := 205) (by rw [hc3]; rfl) rfl ?_
            refine V_aload_n (c := cI) i178_237.1 (mM_n i178_237.2) rfl rfl ?_
            refine V_cvI (c := cI) (As := []) (rest := []) i178_238.1 (mM_n i178_238.2) c178_30 rfl rfl rfl rfl (Nat.le_of_ble_eq_true rfl) rfl (fun r114 S113 => ?_)
            refine V_aload_n (c := cI) i178_241.1 (mM_n i178_241.2) rfl rfl ?_
            refine V_cvI (c := cI) (As := []) (rest := [.int r114]) i178_242.1 (mM_n i178_242.2) c178_33 rfl rfl rfl rfl (Nat.le_of_ble_eq_true rfl) rfl (fun r116 S115 => ?_)
            refine V_icmp_eq (c := cI) i178_245.1 (mM_n i178_245.2) rfl (fun _ => ?_) (fun _ => ?_)
            · exact V_msk (l1 := [some (.ref mSid), some (.ref 0), some (.ref 55), some (.int x3)]) i178_834.2 rfl rfl
            · refine V_iconst (c := cI) i178_248.1 (mM_n i178_248.2) (v := 0) rfl ?_
              exact V_iret i178_249.1 (mM_n i178_249.2) rfl
          ·
            refine V_ite (fun hc4 => ?_) (fun hc4 => ?_)
            · refine V_sw (c := cI) i178_32.1 (mM_n i178_32.2) (o := 218) (by rw [hc4]; rfl) rfl ?_
              refine V_aload_n (c := cI) i178_250.1 (mM_n i178_250.2) rfl rfl ?_
              refine V_aload_n (c := cI) i178_251.1 (mM_n i178_251.2) rfl rfl ?_
              refine V_iload_n (c := cI) i178_252.1 (mM_n i178_252.2) rfl ?_
              refine V_iconst (c := cI) i178_253.1 (mM_n i178_253.2) (v := 1) rfl ?_
              refine V_iadd (c := cI) i178_254.1 (mM_n i178_254.2)  ?_
              refine V_sload (c := cI) i178_255.1 (mM_n i178_255.2) rfl (fun _ => ?_)
              refine V_aload_n (c := cI) i178_256.1 (mM_n i178_256.2) rfl rfl ?_
              refine V_iload_n (c := cI) i178_257.1 (mM_n i178_257.2) rfl ?_
              refine V_iconst (c := cI) i178_258.1 (mM_n i178_258.2) (v := 2) rfl ?_
              refine V_iadd (c := cI) i178_259.1 (mM_n i178_259.2)  ?_
              refine V_sload (c := cI) i178_260.1 (mM_n i178_260.2) rfl (fun _ => ?_)
              refine V_cvI (c := cI) (As := [.int (X.2 (x3 + 1).toNatClampNeg), .int (X.2 (x3 + 2).toNatClampNeg)]) (rest := []) i178_261.1 (mM_n i178_261.2) c178_34 rfl rfl rfl rfl (Nat.le_of_ble_eq_true rfl) rfl (fun r118 S117 => ?_)
              refine V_aload_n (c := cI) i178_264.1 (mM_n i178_264.2) rfl rfl ?_
              refine V_aload_n (c := cI) i178_265.1 (mM_n i178_265.2) rfl rfl ?_
              refine V_iload_n (c := cI) i178_266.1 (mM_n i178_266.2) rfl ?_
              refine V_iconst (c := cI) i178_267.1 (mM_n i178_267.2) (v := 1) rfl ?_
              refine V_iadd (c := cI) i178_268.1 (mM_n i178_268.2)  ?_
              refine V_sload (c := cI) i178_269.1 (mM_n i178_269.2) rfl (fun _ => ?_)
              refine V_aload_n (c := cI) i178_270.1 (mM_n i178_270.2) rfl rfl ?_
              refine V_iload_n (c := cI) i178_271.1 (mM_n i178_271.2) rfl ?_
              refine V_iconst (c := cI) i178_272.1 (mM_n i178_272.2) (v := 2) rfl ?_
              refine V_iadd (c := cI) i178_273.1 (mM_n i178_273.2)  ?_
              refine V_sload (c := cI) i178_274.1 (mM_n i178_274.2) rfl (fun _ => ?_)
              refine V_cvI (c := cI) (As := [.int (X.2 (x3 + 1).toNatClampNeg), .int (X.2 (x3 + 2).toNatClampNeg)]) (rest := [.int r118]) i178_275.1 (mM_n i178_275.2) c178_38 rfl rfl rfl rfl (Nat.le_of_ble_eq_true rfl) rfl (fun r120 S119 => ?_)
              refine V_icmp_eq (c := cI) i178_278.1 (mM_n i178_278.2) rfl (fun _ => ?_) (fun _ => ?_)
              · exact V_msk (l1 := [some (.ref mSid), some (.ref 0), some (.ref 55), some (.int x3)]) i178_834.2 rfl rfl
              · refine V_iconst (c := cI) i178_281.1 (mM_n i178_281.2) (v := 0) rfl ?_
                exact V_iret i178_282.1 (mM_n i178_282.2) rfl
            ·
              refine V_ite (fun hc5 => ?_) (fun hc5 => ?_)
              · refine V_sw (c := cI) i178_32.1 (mM_n i178_32.2) (o := 251) (by rw [hc5]; rfl) rfl ?_
                refine V_aload_n (c := cI) i178_283.1 (mM_n i178_283.2) rfl rfl ?_
                refine V_aload_n (c := cI) i178_284.1 (mM_n i178_284.2) rfl rfl ?_
                refine V_iload_n (c := cI) i178_285.1 (mM_n i178_285.2) rfl ?_
                refine V_iconst (c := cI) i178_286.1 (mM_n i178_286.2) (v := 1) rfl ?_
                refine V_iadd (c := cI) i178_287.1 (mM_n i178_287.2)  ?_
                refine V_sload (c := cI) i178_288.1 (mM_n i178_288.2) rfl (fun _ => ?_)
                refine V_aload_n (c := cI) i178_289.1 (mM_n i178_289.2) rfl rfl ?_
                refine V_iload_n (c := cI) i178_290.1 (mM_n i178_290.2) rfl ?_
                refine V_iconst (c := cI) i178_291.1 (mM_n i178_291.2) (v := 2) rfl ?_
                refine V_iadd (c := cI) i178_292.1 (mM_n i178_292.2)  ?_
                refine V_sload (c := cI) i178_293.1 (mM_n i178_293.2) rfl (fun _ => ?_)
                refine V_aload_n (c := cI) i178_294.1 (mM_n i178_294.2) rfl rfl ?_
                refine V_iload_n (c := cI) i178_295.1 (mM_n i178_295.2) rfl ?_
                refine V_iconst (c := cI) i178_296.1 (mM_n i178_296.2) (v := 3) rfl ?_
                refine V_iadd (c := cI) i178_297.1 (mM_n i178_297.2)  ?_
                refine V_sload (c := cI) i178_298.1 (mM_n i178_298.2) rfl (fun _ => ?_)
                refine V_aload_n (c := cI) i178_299.1 (mM_n i178_299.2) rfl rfl ?_
                refine V_iload_n (c := cI) i178_300.1 (mM_n i178_300.2) rfl ?_
                refine V_iconst (c := cI) i178_301.1 (mM_n i178_301.2) (v := 4) rfl ?_
                refine V_iadd (c := cI) i178_302.1 (mM_n i178_302.2)  ?_
                refine V_sload (c := cI) i178_303.1 (mM_n i178_303.2) rfl (fun _ => ?_)
                refine V_cvI (c := cI) (As := [.int (X.2 (x3 + 1).toNatClampNeg), .int (X.2 (x3 + 2).toNatClampNeg), .int (X.2 (x3 + 3).toNatClampNeg), .int (X.2 (x3 + 4).toNatClampNeg)]) (rest := []) i178_304.1 (mM_n i178_304.2) c178_39 rfl rfl rfl rfl (Nat.le_of_ble_eq_true rfl) rfl (fun r122 S121 => ?_)
                refine V_aload_n (c := cI) i178_307.1 (mM_n i178_307.2) rfl rfl ?_
                refine V_aload_n (c := cI) i178_308.1 (mM_n i178_308.2) rfl rfl ?_
                refine V_iload_n (c := cI) i178_309.1 (mM_n i178_309.2) rfl ?_
                refine V_iconst (c := cI) i178_310.1 (mM_n i178_310.2) (v := 1) rfl ?_
                refine V_iadd (c := cI) i178_311.1 (mM_n i178_311.2)  ?_
                refine V_sload (c := cI) i178_312.1 (mM_n i178_312.2) rfl (fun _ => ?_)
                refine V_aload_n (c := cI) i178_313.1 (mM_n i178_313.2) rfl rfl ?_
                refine V_iload_n (c := cI) i178_314.1 (mM_n i178_314.2) rfl ?_
                refine V_iconst (c := cI) i178_315.1 (mM_n i178_315.2) (v := 2) rfl ?_
                refine V_iadd (c := cI) i178_316.1 (mM_n i178_316.2)  ?_
                refine V_sload (c := cI) i178_317.1 (mM_n i178_317.2) rfl (fun _ => ?_)
                refine V_aload_n (c := cI) i178_318.1 (mM_n i178_318.2) rfl rfl ?_
                refine V_iload_n (c := cI) i178_319.1 (mM_n i178_319.2) rfl ?_
                refine V_iconst (c := cI) i178_320.1 (mM_n i178_320.2) (v := 3) rfl ?_
                refine V_iadd (c := cI) i178_321.1 (mM_n i178_321.2)  ?_
                refine V_sload (c := cI) i178_322.1 (mM_n i178_322.2) rfl (fun _ => ?_)
                refine V_aload_n (c := cI) i178_323.1 (mM_n i178_323.2) rfl rfl ?_
                refine V_iload_n (c := cI) i178_324.1 (mM_n i178_324.2) rfl ?_
                refine V_iconst (c := cI) i178_325.1 (mM_n i178_325.2) (v := 4) rfl ?_
                refine V_iadd (c := cI) i178_326.1 (mM_n i178_326.2)  ?_
                refine V_sload (c := cI) i178_327.1 (mM_n i178_327.2) rfl (fun _ => ?_)
                refine V_cvI (c := cI) (As := [.int (X.2 (x3 + 1).toNatClampNeg), .int (X.2 (x3 + 2).toNatClampNeg), .int (X.2 (x3 + 3).toNatClampNeg), .int (X.2 (x3 + 4).toNatClampNeg)]) (rest := [.int r122]) i178_328.1 (mM_n i178_328.2) c178_43 rfl rfl rfl rfl (Nat.le_of_ble_eq_true rfl) rfl (fun r124 S123 => ?_)
                refine V_icmp_eq (c := cI) i178_331.1 (mM_n i178_331.2) rfl (fun _ => ?_) (fun _ => ?_)
                · exact V_msk (l1 := [some (.ref mSid), some (.ref 0), some (.ref 55), some (.int x3)]) i178_834.2 rfl rfl
                · refine V_iconst (c := cI) i178_334.1 (mM_n i178_334.2) (v := 0) rfl ?_
                  exact V_iret i178_335.1 (mM_n i178_335.2) rfl
              ·
                refine V_ite (fun hc6 => ?_) (fun hc6 => ?_)
                · refine V_sw (c := cI) i178_32.1 (mM_n i178_32.2) (o := 304) (by rw [hc6]; rfl) rfl ?_
                  refine V_aload_n (c := cI) i178_336.1 (mM_n i178_336.2) rfl rfl ?_
                  refine V_aload_n (c := cI) i178_337.1 (mM_n i178_337.2) rfl rfl ?_
                  refine V_iload_n (c := cI) i178_338.1 (mM_n i178_338.2) rfl ?_
                  refine V_iconst (c := cI) i178_339.1 (mM_n i178_339.2) (v := 1) rfl ?_
                  refine V_iadd (c := cI) i178_340.1 (mM_n i178_340.2)  ?_
                  refine V_sload (c := cI) i178_341.1 (mM_n i178_341.2) rfl (fun _ => ?_)
                  refine V_aload_n (c := cI) i178_342.1 (mM_n i178_342.2) rfl rfl ?_
                  refine V_iload_n (c := cI) i178_343.1 (mM_n i178_343.2) rfl ?_
                  refine V_iconst (c := cI) i178_344.1 (mM_n i178_344.2) (v := 2) rfl ?_
                  refine V_iadd (c := cI) i178_345.1 (mM_n i178_345.2)  ?_
                  refine V_sload (c := cI) i178_346.1 (mM_n i178_346.2) rfl (fun _ => ?_)
                  refine V_cvI (c := cI) (As := [.int (X.2 (x3 + 1).toNatClampNeg), .int (X.2 (x3 + 2).toNatClampNeg)]) (rest := []) i178_347.1 (mM_n i178_347.2) c178_44 rfl rfl rfl rfl (Nat.le_of_ble_eq_true rfl) rfl (fun r126 S125 => ?_)
                  refine V_aload_n (c := cI) i178_350.1 (mM_n i178_350.2) rfl rfl ?_
                  refine V_aload_n (c := cI) i178_351.1 (mM_n i178_351.2) rfl rfl ?_
                  refine V_iload_n (c := cI) i178_352.1 (mM_n i178_352.2) rfl ?_
                  refine V_iconst (c := cI) i178_353.1 (mM_n i178_353.2) (v := 1) rfl ?_
                  refine V_iadd (c := cI) i178_354.1 (mM_n i178_354.2)  ?_
                  refine V_sload (c := cI) i178_355.1 (mM_n i178_355.2) rfl (fun _ => ?_)
                  refine V_aload_n (c := cI) i178_356.1 (mM_n i178_356.2) rfl rfl ?_
                  refine V_iload_n (c := cI) i178_357.1 (mM_n i178_357.2) rfl ?_
                  refine V_iconst (c := cI) i178_358.1 (mM_n i178_358.2) (v := 2) rfl ?_
                  refine V_iadd (c := cI) i178_359.1 (mM_n i178_359.2)  ?_
                  refine V_sload (c := cI) i178_360.1 (mM_n i178_360.2) rfl (fun _ => ?_)
                  refine V_cvI (c := cI) (As := [.int (X.2 (x3 + 1).toNatClampNeg), .int (X.2 (x3 + 2).toNatClampNeg)]) (rest := [.int r126]) i178_361.1 (mM_n i178_361.2) c178_47 rfl rfl rfl rfl (Nat.le_of_ble_eq_true rfl) rfl (fun r128 S127 => ?_)
                  refine V_icmp_eq (c := cI) i178_364.1 (mM_n i178_364.2) rfl (fun _ => ?_) (fun _ => ?_)
                  · exact V_msk (l1 := [some (.ref mSid), some (.ref 0), some (.ref 55), some (.int x3)]) i178_834.2 rfl rfl
                  · refine V_iconst (c := cI) i178_367.1 (mM_n i178_367.2) (v := 0) rfl ?_
                    exact V_iret i178_368.1 (mM_n i178_368.2) rfl
                ·
                  refine V_ite (fun hc7 => ?_) (fun hc7 => ?_)
                  · refine V_sw (c := cI) i178_32.1 (mM_n i178_32.2) (o := 337) (by rw [hc7]; rfl) rfl ?_
                    refine V_aload_n (c := cI) i178_369.1 (mM_n i178_369.2) rfl rfl ?_
                    refine V_aload_n (c := cI) i178_370.1 (mM_n i178_370.2) rfl rfl ?_
                    refine V_iload_n (c := cI) i178_371.1 (mM_n i178_371.2) rfl ?_
                    refine V_iconst (c := cI) i178_372.1 (mM_n i178_372.2) (v := 1) rfl ?_
                    refine V_iadd (c := cI) i178_373.1 (mM_n i178_373.2)  ?_
                    refine V_sload (c := cI) i178_374.1 (mM_n i178_374.2) rfl (fun _ => ?_)
                    refine V_aload_n (c := cI) i178_375.1 (mM_n i178_375.2) rfl rfl ?_
                    refine V_iload_n (c := cI) i178_376.1 (mM_n i178_376.2) rfl ?_
                    refine V_iconst (c := cI) i178_377.1 (mM_n i178_377.2) (v := 2) rfl ?_
                    refine V_iadd (c := cI) i178_378.1 (mM_n i178_378.2)  ?_
                    refine V_sload (c := cI) i178_379.1 (mM_n i178_379.2) rfl (fun _ => ?_)
                    refine V_cvI (c := cI) (As := [.int (X.2 (x3 + 1).toNatClampNeg), .int (X.2 (x3 + 2).toNatClampNeg)]) (rest := []) i178_380.1 (mM_n i178_380.2) c178_48 rfl rfl rfl rfl (Nat.le_of_ble_eq_true rfl) rfl (fun r130 S129 => ?_)
                    refine V_aload_n (c := cI) i178_383.1 (mM_n i178_383.2) rfl rfl ?_
                    refine V_aload_n (c := cI) i178_384.1 (mM_n i178_384.2) rfl rfl ?_
                    refine V_iload_n (c := cI) i178_385.1 (mM_n i178_385.2) rfl ?_
                    refine V_iconst (c := cI) i178_386.1 (mM_n i178_386.2) (v := 1) rfl ?_
                    refine V_iadd (c := cI) i178_387.1 (mM_n i178_387.2)  ?_
                    refine V_sload (c := cI) i178_388.1 (mM_n i178_388.2) rfl (fun _ => ?_)
                    refine V_aload_n (c := cI) i178_389.1 (mM_n i178_389.2) rfl rfl ?_
                    refine V_iload_n (c := cI) i178_390.1 (mM_n i178_390.2) rfl ?_
                    refine V_iconst (c := cI) i178_391.1 (mM_n i178_391.2) (v := 2) rfl ?_
                    refine V_iadd (c := cI) i178_392.1 (mM_n i178_392.2)  ?_
                    refine V_sload (c := cI) i178_393.1 (mM_n i178_393.2) rfl (fun _ => ?_)
                    refine V_cvI (c := cI) (As := [.int (X.2 (x3 + 1).toNatClampNeg), .int (X.2 (x3 + 2).toNatClampNeg)]) (rest := [.int r130]) i178_394.1 (mM_n i178_394.2) c178_51 rfl rfl rfl rfl (Nat.le_of_ble_eq_true rfl) rfl (fun r132 S131 => ?_)
                    refine V_icmp_eq (c := cI) i178_397.1 (mM_n i178_397.2) rfl (fun _ => ?_) (fun _ => ?_)
                    · exact V_msk (l1 := [some (.ref mSid), some (.ref 0), some (.ref 55), some (.int x3)]) i178_834.2 rfl rfl
                    · refine V_iconst (c := cI) i178_400.1 (mM_n i178_400.2) (v := 0) rfl ?_
                      exact V_iret i178_401.1 (mM_n i178_401.2) rfl
                  ·
                    refine V_ite (fun hc8 => ?_) (fun hc8 => ?_)
                    · refine V_sw (c := cI) i178_32.1 (mM_n i178_32.2) (o := 370) (by rw [hc8]; rfl) rfl ?_
                      refine V_aload_n (c := cI) i178_402.1 (mM_n i178_402.2) rfl rfl ?_
                      refine V_aload_n (c := cI) i178_403.1 (mM_n i178_403.2) rfl rfl ?_
                      refine V_iload_n (c := cI) i178_404.1 (mM_n i178_404.2) rfl ?_
                      refine V_iconst (c := cI) i178_405.1 (mM_n i178_405.2) (v := 1) rfl ?_
                      refine V_iadd (c := cI) i178_406.1 (mM_n i178_406.2)  ?_
                      refine V_sload (c := cI) i178_407.1 (mM_n i178_407.2) rfl (fun _ => ?_)
                      refine V_cvI (c := cI) (As := [.int (X.2 (x3 + 1).toNatClampNeg)]) (rest := []) i178_408.1 (mM_n i178_408.2) c178_52 rfl rfl rfl rfl (Nat.le_of_ble_eq_true rfl) rfl (fun r134 S133 => ?_)
                      refine V_aload_n (c := cI) i178_411.1 (mM_n i178_411.2) rfl rfl ?_
                      refine V_aload_n (c := cI) i178_412.1 (mM_n i178_412.2) rfl rfl ?_
                      refine V_iload_n (c := cI) i178_413.1 (mM_n i178_413.2) rfl ?_
                      refine V_iconst (c := cI) i178_414.1 (mM_n i178_414.2) (v := 1) rfl ?_
                      refine V_iadd (c := cI) i178_415.1 (mM_n i178_415.2)  ?_
                      refine V_sload (c := cI) i178_416.1 (mM_n i178_416.2) rfl (fun _ => ?_)
                      refine V_cvI (c := cI) (As := [.int (X.2 (x3 + 1).toNatClampNeg)]) (rest := [.int r134]) i178_417.1 (mM_n i178_417.2) c178_55 rfl rfl rfl rfl (Nat.le_of_ble_eq_true rfl) rfl (fun r136 S135 => ?_)
                      refine V_icmp_eq (c := cI) i178_420.1 (mM_n i178_420.2) rfl (fun _ => ?_) (fun _ => ?_)
                      · exact V_msk (l1 := [some (.ref mSid), some (.ref 0), some (.ref 55), some (.int x3)]) i178_834.2 rfl rfl
                      · refine V_iconst (c := cI) i178_423.1 (mM_n i178_423.2) (v := 0) rfl ?_
                        exact V_iret i178_424.1 (mM_n i178_424.2) rfl
                    ·
                      refine V_ite (fun hc9 => ?_) (fun hc9 => ?_)
                      · refine V_sw (c := cI) i178_32.1 (mM_n i178_32.2) (o := 393) (by rw [hc9]; rfl) rfl ?_
                        refine V_aload_n (c := cI) i178_425.1 (mM_n i178_425.2) rfl rfl ?_
                        refine V_aload_n (c := cI) i178_426.1 (mM_n i178_426.2) rfl rfl ?_
                        refine V_iload_n (c := cI) i178_427.1 (mM_n i178_427.2) rfl ?_
                        refine V_iconst (c := cI) i178_428.1 (mM_n i178_428.2) (v := 1) rfl ?_
                        refine V_iadd (c := cI) i178_429.1 (mM_n i178_429.2)  ?_
                        refine V_sload (c := cI) i178_430.1 (mM_n i178_430.2) rfl (fun _ => ?_)
                        refine V_aload_n (c := cI) i178_431.1 (mM_n i178_431.2) rfl rfl ?_
                        refine V_iload_n (c := cI) i178_432.1 (mM_n i178_432.2) rfl ?_
                        refine V_iconst (c := cI) i178_433.1 (mM_n i178_433.2) (v := 2) rfl ?_
                        refine V_iadd (c := cI) i178_434.1 (mM_n i178_434.2)  ?_
                        refine V_sload (c := cI) i178_435.1 (mM_n i178_435.2) rfl (fun _ => ?_)
                        refine V_cvI (c := cI) (As := [.int (X.2 (x3 + 1).toNatClampNeg), .int (X.2 (x3 + 2).toNatClampNeg)]) (rest := []) i178_436.1 (mM_n i178_436.2) c178_56 rfl rfl rfl rfl (Nat.le_of_ble_eq_true rfl) rfl (fun r138 S137 => ?_)
                        refine V_aload_n (c := cI) i178_439.1 (mM_n i178_439.2) rfl rfl ?_
                        refine V_aload_n (c := cI) i178_440.1 (mM_n i178_440.2) rfl rfl ?_
                        refine V_iload_n (c := cI) i178_441.1 (mM_n i178_441.2) rfl ?_
                        refine V_iconst (c := cI) i178_442.1 (mM_n i178_442.2) (v := 1) rfl ?_
                        refine V_iadd (c := cI) i178_443.1 (mM_n i178_443.2)  ?_
                        refine V_sload (c := cI) i178_444.1 (mM_n i178_444.2) rfl (fun _ => ?_)
                        refine V_aload_n (c := cI) i178_445.1 (mM_n i178_445.2) rfl rfl ?_
                        refine V_iload_n (c := cI) i178_446.1 (mM_n i178_446.2) rfl ?_
                        refine V_iconst (c := cI) i178_447.1 (mM_n i178_447.2) (v := 2) rfl ?_
                        refine V_iadd (c := cI) i178_448.1 (mM_n i178_448.2)  ?_
                        refine V_sload (c := cI) i178_449.1 (mM_n i178_449.2) rfl (fun _ => ?_)
                        refine V_cvI (c := cI) (As := [.int (X.2 (x3 + 1).toNatClampNeg), .int (X.2 (x3 + 2).toNatClampNeg)]) (rest := [.int r138]) i178_450.1 (mM_n i178_450.2) c178_59 rfl rfl rfl rfl (Nat.le_of_ble_eq_true rfl) rfl (fun r140 S139 => ?_)
                        refine V_icmp_eq (c := cI) i178_453.1 (mM_n i178_453.2) rfl (fun _ => ?_) (fun _ => ?_)
                        · exact V_msk (l1 := [some (.ref mSid), some (.ref 0), some (.ref 55), some (.int x3)]) i178_834.2 rfl rfl
                        · refine V_iconst (c := cI) i178_456.1 (mM_n i178_456.2) (v := 0) rfl ?_
                          exact V_iret i178_457.1 (mM_n i178_457.2) rfl
                      ·
                        refine V_ite (fun hc10 => ?_) (fun hc10 => ?_)
                        · refine V_sw (c := cI) i178_32.1 (mM_n i178_32.2) (o := 426) (by rw [hc10]; rfl) rfl ?_
                          refine V_aload_n (c := cI) i178_458.1 (mM_n i178_458.2) rfl rfl ?_
                          refine V_aload_n (c := cI) i178_459.1 (mM_n i178_459.2) rfl rfl ?_
                          refine V_iload_n (c := cI) i178_460.1 (mM_n i178_460.2) rfl ?_
                          refine V_iconst (c := cI) i178_461.1 (mM_n i178_461.2) (v := 1) rfl ?_
                          refine V_iadd (c := cI) i178_462.1 (mM_n i178_462.2)  ?_
                          refine V_sload (c := cI) i178_463.1 (mM_n i178_463.2) rfl (fun _ => ?_)
                          refine V_aload_n (c := cI) i178_464.1 (mM_n i178_464.2) rfl rfl ?_
                          refine V_iload_n (c := cI) i178_465.1 (mM_n i178_465.2) rfl ?_
                          refine V_iconst (c := cI) i178_466.1 (mM_n i178_466.2) (v := 2) rfl ?_
                          refine V_iadd (c := cI) i178_467.1 (mM_n i178_467.2)  ?_
                          refine V_sload (c := cI) i178_468.1 (mM_n i178_468.2) rfl (fun _ => ?_)
                          refine V_cvI (c := cI) (As := [.int (X.2 (x3 + 1).toNatClampNeg), .int (X.2 (x3 + 2).toNatClampNeg)]) (rest := []) i178_469.1 (mM_n i178_469.2) c178_60 rfl rfl rfl rfl (Nat.le_of_ble_eq_true rfl) rfl (fun r142 S141 => ?_)
                          refine V_aload_n (c := cI) i178_472.1 (mM_n i178_472.2) rfl rfl ?_
                          refine V_aload_n (c := cI) i178_473.1 (mM_n i178_473.2) rfl rfl ?_
                          refine V_iload_n (c := cI) i178_474.1 (mM_n i178_474.2) rfl ?_
                          refine V_iconst (c := cI) i178_475.1 (mM_n i178_475.2) (v := 1) rfl ?_
                          refine V_iadd (c := cI) i178_476.1 (mM_n i178_476.2)  ?_
                          refine V_sload (c := cI) i178_477.1 (mM_n i178_477.2) rfl (fun _ => ?_)
                          refine V_aload_n (c := cI) i178_478.1 (mM_n i178_478.2) rfl rfl ?_
                          refine V_iload_n (c := cI) i178_479.1 (mM_n i178_479.2) rfl ?_
                          refine V_iconst (c := cI) i178_480.1 (mM_n i178_480.2) (v := 2) rfl ?_
                          refine V_iadd (c := cI) i178_481.1 (mM_n i178_481.2)  ?_
                          refine V_sload (c := cI) i178_482.1 (mM_n i178_482.2) rfl (fun _ => ?_)
                          refine V_cvI (c := cI) (As := [.int (X.2 (x3 + 1).toNatClampNeg), .int (X.2 (x3 + 2).toNatClampNeg)]) (rest := [.int r142]) i178_483.1 (mM_n i178_483.2) c178_63 rfl rfl rfl rfl (Nat.le_of_ble_eq_true rfl) rfl (fun r144 S143 => ?_)
                          refine V_icmp_eq (c := cI) i178_486.1 (mM_n i178_486.2) rfl (fun _ => ?_) (fun _ => ?_)
                          · exact V_msk (l1 := [some (.ref mSid), some (.ref 0), some (.ref 55), some (.int x3)]) i178_834.2 rfl rfl
                          · refine V_iconst (c := cI) i178_489.1 (mM_n i178_489.2) (v := 0) rfl ?_
                            exact V_iret i178_490.1 (mM_n i178_490.2) rfl
                        ·
                          refine V_ite (fun hc11 => ?_) (fun hc11 => ?_)
                          · refine V_sw (c := cI) i178_32.1 (mM_n i178_32.2) (o := 459) (by rw [hc11]; rfl) rfl ?_
                            refine V_aload_n (c := cI) i178_491.1 (mM_n i178_491.2) rfl rfl ?_
                            refine V_aload_n (c := cI) i178_492.1 (mM_n i178_492.2) rfl rfl ?_
                            refine V_iload_n (c := cI) i178_493.1 (mM_n i178_493.2) rfl ?_
                            refine V_iconst (c := cI) i178_494.1 (mM_n i178_494.2) (v := 1) rfl ?_
                            refine V_iadd (c := cI) i178_495.1 (mM_n i178_495.2)  ?_
                            refine V_sload (c := cI) i178_496.1 (mM_n i178_496.2) rfl (fun _ => ?_)
                            refine V_aload_n (c := cI) i178_497.1 (mM_n i178_497.2) rfl rfl ?_
                            refine V_iload_n (c := cI) i178_498.1 (mM_n i178_498.2) rfl ?_
                            refine V_iconst (c := cI) i178_499.1 (mM_n i178_499.2) (v := 2) rfl ?_
                            refine V_iadd (c := cI) i178_500.1 (mM_n i178_500.2)  ?_
                            refine V_sload (c := cI) i178_501.1 (mM_n i178_501.2) rfl (fun _ => ?_)
                            refine V_cvI (c := cI) (As := [.int (X.2 (x3 + 1).toNatClampNeg), .int (X.2 (x3 + 2).toNatClampNeg)]) (rest := []) i178_502.1 (mM_n i178_502.2) c178_64 rfl rfl rfl rfl (Nat.le_of_ble_eq_true rfl) rfl (fun r146 S145 => ?_)
                            refine V_aload_n (c := cI) i178_505.1 (mM_n i178_505.2) rfl rfl ?_
                            refine V_aload_n (c := cI) i178_506.1 (mM_n i178_506.2) rfl rfl ?_
                            refine V_iload_n (c := cI) i178_507.1 (mM_n i178_507.2) rfl ?_
                            refine V_iconst (c := cI) i178_508.1 (mM_n i178_508.2) (v := 1) rfl ?_
                            refine V_iadd (c := cI) i178_509.1 (mM_n i178_509.2)  ?_
                            refine V_sload (c := cI) i178_510.1 (mM_n i178_510.2) rfl (fun _ => ?_)
                            refine V_aload_n (c := cI) i178_511.1 (mM_n i178_511.2) rfl rfl ?_
                            refine V_iload_n (c := cI) i178_512.1 (mM_n i178_512.2) rfl ?_
                            refine V_iconst (c := cI) i178_513.1 (mM_n i178_513.2) (v := 2) rfl ?_
                            refine V_iadd (c := cI) i178_514.1 (mM_n i178_514.2)  ?_
                            refine V_sload (c := cI) i178_515.1 (mM_n i178_515.2) rfl (fun _ => ?_)
                            refine V_cvI (c := cI) (As := [.int (X.2 (x3 + 1).toNatClampNeg), .int (X.2 (x3 + 2).toNatClampNeg)]) (rest := [.int r146]) i178_516.1 (mM_n i178_516.2) c178_67 rfl rfl rfl rfl (Nat.le_of_ble_eq_true rfl) rfl (fun r148 S147 => ?_)
                            refine V_icmp_eq (c := cI) i178_519.1 (mM_n i178_519.2) rfl (fun _ => ?_) (fun _ => ?_)
                            · exact V_msk (l1 := [some (.ref mSid), some (.ref 0), some (.ref 55), some (.int x3)]) i178_834.2 rfl rfl
                            · refine V_iconst (c := cI) i178_522.1 (mM_n i178_522.2) (v := 0) rfl ?_
                              exact V_iret i178_523.1 (mM_n i178_523.2) rfl
                          ·
                            refine V_ite (fun hc12 => ?_) (fun hc12 => ?_)
                            · refine V_sw (c := cI) i178_32.1 (mM_n i178_32.2) (o := 492) (by rw [hc12]; rfl) rfl ?_
                              refine V_aload_n (c := cI) i178_524.1 (mM_n i178_524.2) rfl rfl ?_
                              refine V_aload_n (c := cI) i178_525.1 (mM_n i178_525.2) rfl rfl ?_
                              refine V_iload_n (c := cI) i178_526.1 (mM_n i178_526.2) rfl ?_
                              refine V_iconst (c := cI) i178_527.1 (mM_n i178_527.2) (v := 1) rfl ?_
                              refine V_iadd (c := cI) i178_528.1 (mM_n i178_528.2)  ?_
                              refine V_sload (c := cI) i178_529.1 (mM_n i178_529.2) rfl (fun _ => ?_)
                              refine V_aload_n (c := cI) i178_530.1 (mM_n i178_530.2) rfl rfl ?_
                              refine V_iload_n (c := cI) i178_531.1 (mM_n i178_531.2) rfl ?_
                              refine V_iconst (c := cI) i178_532.1 (mM_n i178_532.2) (v := 2) rfl ?_
                              refine V_iadd (c := cI) i178_533.1 (mM_n i178_533.2)  ?_
                              refine V_sload (c := cI) i178_534.1 (mM_n i178_534.2) rfl (fun _ => ?_)
                              refine V_cvI (c := cI) (As := [.int (X.2 (x3 + 1).toNatClampNeg), .int (X.2 (x3 + 2).toNatClampNeg)]) (rest := []) i178_535.1 (mM_n i178_535.2) c178_68 rfl rfl rfl rfl (Nat.le_of_ble_eq_true rfl) rfl (fun r150 S149 => ?_)
                              refine V_aload_n (c := cI) i178_538.1 (mM_n i178_538.2) rfl rfl ?_
                              refine V_aload_n (c := cI) i178_539.1 (mM_n i178_539.2) rfl rfl ?_
                              refine V_iload_n (c := cI) i178_540.1 (mM_n i178_540.2) rfl ?_
                              refine V_iconst (c := cI) i178_541.1 (mM_n i178_541.2) (v := 1) rfl ?_
                              refine V_iadd (c := cI) i178_542.1 (mM_n i178_542.2)  ?_
                              refine V_sload (c := cI) i178_543.1 (mM_n i178_543.2) rfl (fun _ => ?_)
                              refine V_aload_n (c := cI) i178_544.1 (mM_n i178_544.2) rfl rfl ?_
                              refine V_iload_n (c := cI) i178_545.1 (mM_n i178_545.2) rfl ?_
                              refine V_iconst (c := cI) i178_546.1 (mM_n i178_546.2) (v := 2) rfl ?_
                              refine V_iadd (c := cI) i178_547.1 (mM_n i178_547.2)  ?_
                              refine V_sload (c := cI) i178_548.1 (mM_n i178_548.2) rfl (fun _ => ?_)
                              refine V_cvI (c := cI) (As := [.int (X.2 (x3 + 1).toNatClampNeg), .int (X.2 (x3 + 2).toNatClampNeg)]) (rest := [.int r150]) i178_549.1 (mM_n i178_549.2) c178_71 rfl rfl rfl rfl (Nat.le_of_ble_eq_true rfl) rfl (fun r152 S151 => ?_)
                              refine V_icmp_eq (c := cI) i178_552.1 (mM_n i178_552.2) rfl (fun _ => ?_) (fun _ => ?_)
                              · exact V_msk (l1 := [some (.ref mSid), some (.ref 0), some (.ref 55), some (.int x3)]) i178_834.2 rfl rfl
                              · refine V_iconst (c := cI) i178_555.1 (mM_n i178_555.2) (v := 0) rfl ?_
                                exact V_iret i178_556.1 (mM_n i178_556.2) rfl
                            ·
                              refine V_ite (fun hc13 => ?_) (fun hc13 => ?_)
                              · refine V_sw (c := cI) i178_32.1 (mM_n i178_32.2) (o := 525) (by rw [hc13]; rfl) rfl ?_
                                refine V_aload_n (c := cI) i178_557.1 (mM_n i178_557.2) rfl rfl ?_
                                refine V_aload_n (c := cI) i178_558.1 (mM_n i178_558.2) rfl rfl ?_
                                refine V_iload_n (c := cI) i178_559.1 (mM_n i178_559.2) rfl ?_
                                refine V_iconst (c := cI) i178_560.1 (mM_n i178_560.2) (v := 1) rfl ?_
                                refine V_iadd (c := cI) i178_561.1 (mM_n i178_561.2)  ?_
                                refine V_sload (c := cI) i178_562.1 (mM_n i178_562.2) rfl (fun _ => ?_)
                                refine V_cvI (c := cI) (As := [.int (X.2 (x3 + 1).toNatClampNeg)]) (rest := []) i178_563.1 (mM_n i178_563.2) c178_72 rfl rfl rfl rfl (Nat.le_of_ble_eq_true rfl) rfl (fun r154 S153 => ?_)
                                refine V_aload_n (c := cI) i178_566.1 (mM_n i178_566.2) rfl rfl ?_
                                refine V_aload_n (c := cI) i178_567.1 (mM_n i178_567.2) rfl rfl ?_
                                refine V_iload_n (c := cI) i178_568.1 (mM_n i178_568.2) rfl ?_
                                refine V_iconst (c := cI) i178_569.1 (mM_n i178_569.2) (v := 1) rfl ?_
                                refine V_iadd (c := cI) i178_570.1 (mM_n i178_570.2)  ?_
                                refine V_sload (c := cI) i178_571.1 (mM_n i178_571.2) rfl (fun _ => ?_)
                                refine V_cvI (c := cI) (As := [.int (X.2 (x3 + 1).toNatClampNeg)]) (rest := [.int r154]) i178_572.1 (mM_n i178_572.2) c178_75 rfl rfl rfl rfl (Nat.le_of_ble_eq_true rfl) rfl (fun r156 S155 => ?_)
                                refine V_icmp_eq (c := cI) i178_575.1 (mM_n i178_575.2) rfl (fun _ => ?_) (fun _ => ?_)
                                · exact V_msk (l1 := [some (.ref mSid), some (.ref 0), some (.ref 55), some (.int x3)]) i178_834.2 rfl rfl
                                · refine V_iconst (c := cI) i178_578.1 (mM_n i178_578.2) (v := 0) rfl ?_
                                  exact V_iret i178_579.1 (mM_n i178_579.2) rfl
                              ·
                                refine V_ite (fun hc14 => ?_) (fun hc14 => ?_)
                                · refine V_sw (c := cI) i178_32.1 (mM_n i178_32.2) (o := 548) (by rw [hc14]; rfl) rfl ?_
                                  refine V_aload_n (c := cI) i178_580.1 (mM_n i178_580.2) rfl rfl ?_
                                  refine V_aload_n (c := cI) i178_581.1 (mM_n i178_581.2) rfl rfl ?_
                                  refine V_iload_n (c := cI) i178_582.1 (mM_n i178_582.2) rfl ?_
                                  refine V_iconst (c := cI) i178_583.1 (mM_n i178_583.2) (v := 1) rfl ?_
                                  refine V_iadd (c := cI) i178_584.1 (mM_n i178_584.2)  ?_
                                  refine V_sload (c := cI) i178_585.1 (mM_n i178_585.2) rfl (fun _ => ?_)
                                  refine V_cvI (c := cI) (As := [.int (X.2 (x3 + 1).toNatClampNeg)]) (rest := []) i178_586.1 (mM_n i178_586.2) c178_76 rfl rfl rfl rfl (Nat.le_of_ble_eq_true rfl) rfl (fun r158 S157 => ?_)
                                  refine V_aload_n (c := cI) i178_589.1 (mM_n i178_589.2) rfl rfl ?_
                                  refine V_aload_n (c := cI) i178_590.1 (mM_n i178_590.2) rfl rfl ?_
                                  refine V_iload_n (c := cI) i178_591.1 (mM_n i178_591.2) rfl ?_
                                  refine V_iconst (c := cI) i178_592.1 (mM_n i178_592.2) (v := 1) rfl ?_
                                  refine V_iadd (c := cI) i178_593.1 (mM_n i178_593.2)  ?_
                                  refine V_sload (c := cI) i178_594.1 (mM_n i178_594.2) rfl (fun _ => ?_)
                                  refine V_cvI (c := cI) (As := [.int (X.2 (x3 + 1).toNatClampNeg)]) (rest := [.int r158]) i178_595.1 (mM_n i178_595.2) c178_79 rfl rfl rfl rfl (Nat.le_of_ble_eq_true rfl) rfl (fun r160 S159 => ?_)
                                  refine V_icmp_eq (c := cI) i178_598.1 (mM_n i178_598.2) rfl (fun _ => ?_) (fun _ => ?_)
                                  · exact V_msk (l1 := [some (.ref mSid), some (.ref 0), some (.ref 55), some (.int x3)]) i178_834.2 rfl rfl
                                  · refine V_iconst (c := cI) i178_601.1 (mM_n i178_601.2) (v := 0) rfl ?_
                                    exact V_iret i178_602.1 (mM_n i178_602.2) rfl
                                ·
                                  refine V_ite (fun hc15 => ?_) (fun hc15 => ?_)
                                  · refine V_sw (c := cI) i178_32.1 (mM_n i178_32.2) (o := 571) (by rw [hc15]; rfl) rfl ?_
                                    refine V_aload_n (c := cI) i178_603.1 (mM_n i178_603.2) rfl rfl ?_
                                    refine V_aload_n (c := cI) i178_604.1 (mM_n i178_604.2) rfl rfl ?_
                                    refine V_iload_n (c := cI) i178_605.1 (mM_n i178_605.2) rfl ?_
                                    refine V_iconst (c := cI) i178_606.1 (mM_n i178_606.2) (v := 1) rfl ?_
                                    refine V_iadd (c := cI) i178_607.1 (mM_n i178_607.2)  ?_
                                    refine V_sload (c := cI) i178_608.1 (mM_n i178_608.2) rfl (fun _ => ?_)
                                    refine V_cvI (c := cI) (As := [.int (X.2 (x3 + 1).toNatClampNeg)]) (rest := []) i178_609.1 (mM_n i178_609.2) c178_80 rfl rfl rfl rfl (Nat.le_of_ble_eq_true rfl) rfl (fun r162 S161 => ?_)
                                    refine V_aload_n (c := cI) i178_612.1 (mM_n i178_612.2) rfl rfl ?_
                                    refine V_aload_n (c := cI) i178_613.1 (mM_n i178_613.2) rfl rfl ?_
                                    refine V_iload_n (c := cI) i178_614.1 (mM_n i178_614.2) rfl ?_
                                    refine V_iconst (c := cI) i178_615.1 (mM_n i178_615.2) (v := 1) rfl ?_
                                    refine V_iadd (c := cI) i178_616.1 (mM_n i178_616.2)  ?_
                                    refine V_sload (c := cI) i178_617.1 (mM_n i178_617.2) rfl (fun _ => ?_)
                                    refine V_cvI (c := cI) (As := [.int (X.2 (x3 + 1).toNatClampNeg)]) (rest := [.int r162]) i178_618.1 (mM_n i178_618.2) c178_83 rfl rfl rfl rfl (Nat.le_of_ble_eq_true rfl) rfl (fun r164 S163 => ?_)
                                    refine V_icmp_eq (c := cI) i178_621.1 (mM_n i178_621.2) rfl (fun _ => ?_) (fun _ => ?_)
                                    · exact V_msk (l1 := [some (.ref mSid), some (.ref 0), some (.ref 55), some (.int x3)]) i178_834.2 rfl rfl
                                    · refine V_iconst (c := cI) i178_624.1 (mM_n i178_624.2) (v := 0) rfl ?_
                                      exact V_iret i178_625.1 (mM_n i178_625.2) rfl
                                  ·
                                    refine V_ite (fun hc16 => ?_) (fun hc16 => ?_)
                                    · refine V_sw (c := cI) i178_32.1 (mM_n i178_32.2) (o := 594) (by rw [hc16]; rfl) rfl ?_
                                      refine V_aload_n (c := cI) i178_626.1 (mM_n i178_626.2) rfl rfl ?_
                                      refine V_aload_n (c := cI) i178_627.1 (mM_n i178_627.2) rfl rfl ?_
                                      refine V_iload_n (c := cI) i178_628.1 (mM_n i178_628.2) rfl ?_
                                      refine V_iconst (c := cI) i178_629.1 (mM_n i178_629.2) (v := 1) rfl ?_
                                      refine V_iadd (c := cI) i178_630.1 (mM_n i178_630.2)  ?_
                                      refine V_sload (c := cI) i178_631.1 (mM_n i178_631.2) rfl (fun _ => ?_)
                                      refine V_cvI (c := cI) (As := [.int (X.2 (x3 + 1).toNatClampNeg)]) (rest := []) i178_632.1 (mM_n i178_632.2) c178_84 rfl rfl rfl rfl (Nat.le_of_ble_eq_true rfl) rfl (fun r166 S165 => ?_)
                                      refine V_aload_n (c := cI) i178_635.1 (mM_n i178_635.2) rfl rfl ?_
                                      refine V_aload_n (c := cI) i178_636.1 (mM_n i178_636.2) rfl rfl ?_
                                      refine V_iload_n (c := cI) i178_637.1 (mM_n i178_637.2) rfl ?_
                                      refine V_iconst (c := cI) i178_638.1 (mM_n i178_638.2) (v := 1) rfl ?_
                                      refine V_iadd (c := cI) i178_639.1 (mM_n i178_639.2)  ?_
                                      refine V_sload (c := cI) i178_640.1 (mM_n i178_640.2) rfl (fun _ => ?_)
                                      refine V_cvI (c := cI) (As := [.int (X.2 (x3 + 1).toNatClampNeg)]) (rest := [.int r166]) i178_641.1 (mM_n i178_641.2) c178_87 rfl rfl rfl rfl (Nat.le_of_ble_eq_true rfl) rfl (fun r168 S167 => ?_)
                                      refine V_icmp_eq (c := cI) i178_644.1 (mM_n i178_644.2) rfl (fun _ => ?_) (fun _ => ?_)
                                      · exact V_msk (l1 := [some (.ref mSid), some (.ref 0), some (.ref 55), some (.int x3)]) i178_834.2 rfl rfl
                                      · refine V_iconst (c := cI) i178_647.1 (mM_n i178_647.2) (v := 0) rfl ?_
                                        exact V_iret i178_648.1 (mM_n i178_648.2) rfl
                                    ·
                                      refine V_ite (fun hc17 => ?_) (fun hc17 => ?_)
                                      · refine V_sw (c := cI) i178_32.1 (mM_n i178_32.2) (o := 617) (by rw [hc17]; rfl) rfl ?_
                                        refine V_aload_n (c := cI) i178_649.1 (mM_n i178_649.2) rfl rfl ?_
                                        refine V_aload_n (c := cI) i178_650.1 (mM_n i178_650.2) rfl rfl ?_
                                        refine V_iload_n (c := cI) i178_651.1 (mM_n i178_651.2) rfl ?_
                                        refine V_iconst (c := cI) i178_652.1 (mM_n i178_652.2) (v := 1) rfl ?_
                                        refine V_iadd (c := cI) i178_653.1 (mM_n i178_653.2)  ?_
                                        refine V_sload (c := cI) i178_654.1 (mM_n i178_654.2) rfl (fun _ => ?_)
                                        refine V_cvI (c := cI) (As := [.int (X.2 (x3 + 1).toNatClampNeg)]) (rest := []) i178_655.1 (mM_n i178_655.2) c178_88 rfl rfl rfl rfl (Nat.le_of_ble_eq_true rfl) rfl (fun r170 S169 => ?_)
                                        refine V_aload_n (c := cI) i178_658.1 (mM_n i178_658.2) rfl rfl ?_
                                        refine V_aload_n (c := cI) i178_659.1 (mM_n i178_659.2) rfl rfl ?_
                                        refine V_iload_n (c := cI) i178_660.1 (mM_n i178_660.2) rfl ?_
                                        refine V_iconst (c := cI) i178_661.1 (mM_n i178_661.2) (v := 1) rfl ?_
                                        refine V_iadd (c := cI) i178_662.1 (mM_n i178_662.2)  ?_
                                        refine V_sload (c := cI) i178_663.1 (mM_n i178_663.2) rfl (fun _ => ?_)
                                        refine V_cvI (c := cI) (As := [.int (X.2 (x3 + 1).toNatClampNeg)]) (rest := [.int r170]) i178_664.1 (mM_n i178_664.2) c178_91 rfl rfl rfl rfl (Nat.le_of_ble_eq_true rfl) rfl (fun r172 S171 => ?_)
                                        refine V_icmp_eq (c := cI) i178_667.1 (mM_n i178_667.2) rfl (fun _ => ?_) (fun _ => ?_)
                                        · exact V_msk (l1 := [some (.ref mSid), some (.ref 0), some (.ref 55), some (.int x3)]) i178_834.2 rfl rfl
                                        · refine V_iconst (c := cI) i178_670.1 (mM_n i178_670.2) (v := 0) rfl ?_
                                          exact V_iret i178_671.1 (mM_n i178_671.2) rfl
                                      ·
                                        refine V_ite (fun hc18 => ?_) (fun hc18 => ?_)
                                        · refine V_sw (c := cI) i178_32.1 (mM_n i178_32.2) (o := 640) (by rw [hc18]; rfl) rfl ?_
                                          refine V_aload_n (c := cI) i178_672.1 (mM_n i178_672.2) rfl rfl ?_
                                          refine V_aload_n (c := cI) i178_673.1 (mM_n i178_673.2) rfl rfl ?_
                                          refine V_iload_n (c := cI) i178_674.1 (mM_n i178_674.2) rfl ?_
                                          refine V_iconst (c := cI) i178_675.1 (mM_n i178_675.2) (v := 1) rfl ?_
                                          refine V_iadd (c := cI) i178_676.1 (mM_n i178_676.2)  ?_
                                          refine V_sload (c := cI) i178_677.1 (mM_n i178_677.2) rfl (fun _ => ?_)
                                          refine V_cvI (c := cI) (As := [.int (X.2 (x3 + 1).toNatClampNeg)]) (rest := []) i178_678.1 (mM_n i178_678.2) c178_92 rfl rfl rfl rfl (Nat.le_of_ble_eq_true rfl) rfl (fun r174 S173 => ?_)
                                          refine V_aload_n (c := cI) i178_681.1 (mM_n i178_681.2) rfl rfl ?_
                                          refine V_aload_n (c := cI) i178_682.1 (mM_n i178_682.2) rfl rfl ?_
                                          refine V_iload_n (c := cI) i178_683.1 (mM_n i178_683.2) rfl ?_
                                          refine V_iconst (c := cI) i178_684.1 (mM_n i178_684.2) (v := 1) rfl ?_
                                          refine V_iadd (c := cI) i178_685.1 (mM_n i178_685.2)  ?_
                                          refine V_sload (c := cI) i178_686.1 (mM_n i178_686.2) rfl (fun _ => ?_)
                                          refine V_cvI (c := cI) (As := [.int (X.2 (x3 + 1).toNatClampNeg)]) (rest := [.int r174]) i178_687.1 (mM_n i178_687.2) c178_95 rfl rfl rfl rfl (Nat.le_of_ble_eq_true rfl) rfl (fun r176 S175 => ?_)
                                          refine V_icmp_eq (c := cI) i178_690.1 (mM_n i178_690.2) rfl (fun _ => ?_) (fun _ => ?_)
                                          · exact V_msk (l1 := [some (.ref mSid), some (.ref 0), some (.ref 55), some (.int x3)]) i178_834.2 rfl rfl
                                          · refine V_iconst (c := cI) i178_693.1 (mM_n i178_693.2) (v := 0) rfl ?_
                                            exact V_iret i178_694.1 (mM_n i178_694.2) rfl
                                        ·
                                          refine V_ite (fun hc19 => ?_) (fun hc19 => ?_)
                                          · refine V_sw (c := cI) i178_32.1 (mM_n i178_32.2) (o := 663) (by rw [hc19]; rfl) rfl ?_
                                            refine V_aload_n (c := cI) i178_695.1 (mM_n i178_695.2) rfl rfl ?_
                                            refine V_aload_n (c := cI) i178_696.1 (mM_n i178_696.2) rfl rfl ?_
                                            refine V_iload_n (c := cI) i178_697.1 (mM_n i178_697.2) rfl ?_
                                            refine V_iconst (c := cI) i178_698.1 (mM_n i178_698.2) (v := 1) rfl ?_
                                            refine V_iadd (c := cI) i178_699.1 (mM_n i178_699.2)  ?_
                                            refine V_sload (c := cI) i178_700.1 (mM_n i178_700.2) rfl (fun _ => ?_)
                                            refine V_aload_n (c := cI) i178_701.1 (mM_n i178_701.2) rfl rfl ?_
                                            refine V_iload_n (c := cI) i178_702.1 (mM_n i178_702.2) rfl ?_
                                            refine V_iconst (c := cI) i178_703.1 (mM_n i178_703.2) (v := 2) rfl ?_
                                            refine V_iadd (c := cI) i178_704.1 (mM_n i178_704.2)  ?_
                                            refine V_sload (c := cI) i178_705.1 (mM_n i178_705.2) rfl (fun _ => ?_)
                                            refine V_cvI (c := cI) (As := [.int (X.2 (x3 + 1).toNatClampNeg), .int (X.2 (x3 + 2).toNatClampNeg)]) (rest := []) i178_706.1 (mM_n i178_706.2) c178_96 rfl rfl rfl rfl (Nat.le_of_ble_eq_true rfl) rfl (fun r178 S177 => ?_)
                                            refine V_aload_n (c := cI) i178_709.1 (mM_n i178_709.2) rfl rfl ?_
                                            refine V_aload_n (c := cI) i178_710.1 (mM_n i178_710.2) rfl rfl ?_
                                            refine V_iload_n (c := cI) i178_711.1 (mM_n i178_711.2) rfl ?_
                                            refine V_iconst (c := cI) i178_712.1 (mM_n i178_712.2) (v := 1) rfl ?_
                                            refine V_iadd (c := cI) i178_713.1 (mM_n i178_713.2)  ?_
                                            refine V_sload (c := cI) i178_714.1 (mM_n i178_714.2) rfl (fun _ => ?_)
                                            refine V_aload_n (c := cI) i178_715.1 (mM_n i178_715.2) rfl rfl ?_
                                            refine V_iload_n (c := cI) i178_716.1 (mM_n i178_716.2) rfl ?_
                                            refine V_iconst (c := cI) i178_717.1 (mM_n i178_717.2) (v := 2) rfl ?_
                                            refine V_iadd (c := cI) i178_718.1 (mM_n i178_718.2)  ?_
                                            refine V_sload (c := cI) i178_719.1 (mM_n i178_719.2) rfl (fun _ => ?_)
                                            refine V_cvI (c := cI) (As := [.int (X.2 (x3 + 1).toNatClampNeg), .int (X.2 (x3 + 2).toNatClampNeg)]) (rest := [.int r178]) i178_720.1 (mM_n i178_720.2) c178_99 rfl rfl rfl rfl (Nat.le_of_ble_eq_true rfl) rfl (fun r180 S179 => ?_)
                                            refine V_icmp_eq (c := cI) i178_723.1 (mM_n i178_723.2) rfl (fun _ => ?_) (fun _ => ?_)
                                            · exact V_msk (l1 := [some (.ref mSid), some (.ref 0), some (.ref 55), some (.int x3)]) i178_834.2 rfl rfl
                                            · refine V_iconst (c := cI) i178_726.1 (mM_n i178_726.2) (v := 0) rfl ?_
                                              exact V_iret i178_727.1 (mM_n i178_727.2) rfl
                                          ·
                                            refine V_ite (fun hc20 => ?_) (fun hc20 => ?_)
                                            · refine V_sw (c := cI) i178_32.1 (mM_n i178_32.2) (o := 696) (by rw [hc20]; rfl) rfl ?_
                                              refine V_aload_n (c := cI) i178_728.1 (mM_n i178_728.2) rfl rfl ?_
                                              refine V_aload_n (c := cI) i178_729.1 (mM_n i178_729.2) rfl rfl ?_
                                              refine V_iload_n (c := cI) i178_730.1 (mM_n i178_730.2) rfl ?_
                                              refine V_iconst (c := cI) i178_731.1 (mM_n i178_731.2) (v := 1) rfl ?_
                                              refine V_iadd (c := cI) i178_732.1 (mM_n i178_732.2)  ?_
                                              refine V_sload (c := cI) i178_733.1 (mM_n i178_733.2) rfl (fun _ => ?_)
                                              refine V_aload_n (c := cI) i178_734.1 (mM_n i178_734.2) rfl rfl ?_
                                              refine V_iload_n (c := cI) i178_735.1 (mM_n i178_735.2) rfl ?_
                                              refine V_iconst (c := cI) i178_736.1 (mM_n i178_736.2) (v := 2) rfl ?_
                                              refine V_iadd (c := cI) i178_737.1 (mM_n i178_737.2)  ?_
                                              refine V_sload (c := cI) i178_738.1 (mM_n i178_738.2) rfl (fun _ => ?_)
                                              refine V_aload_n (c := cI) i178_739.1 (mM_n i178_739.2) rfl rfl ?_
                                              refine V_iload_n (c := cI) i178_740.1 (mM_n i178_740.2) rfl ?_
                                              refine V_iconst (c := cI) i178_741.1 (mM_n i178_741.2) (v := 3) rfl ?_
                                              refine V_iadd (c := cI) i178_742.1 (mM_n i178_742.2)  ?_
                                              refine V_sload (c := cI) i178_743.1 (mM_n i178_743.2) rfl (fun _ => ?_)
                                              refine V_cvI (c := cI) (As := [.int (X.2 (x3 + 1).toNatClampNeg), .int (X.2 (x3 + 2).toNatClampNeg), .int (X.2 (x3 + 3).toNatClampNeg)]) (rest := []) i178_744.1 (mM_n i178_744.2) c178_100 rfl rfl rfl rfl (Nat.le_of_ble_eq_true rfl) rfl (fun r182 S181 => ?_)
                                              refine V_aload_n (c := cI) i178_747.1 (mM_n i178_747.2) rfl rfl ?_
                                              refine V_aload_n (c := cI) i178_748.1 (mM_n i178_748.2) rfl rfl ?_
                                              refine V_iload_n (c := cI) i178_749.1 (mM_n i178_749.2) rfl ?_
                                              refine V_iconst (c := cI) i178_750.1 (mM_n i178_750.2) (v := 1) rfl ?_
                                              refine V_iadd (c := cI) i178_751.1 (mM_n i178_751.2)  ?_
                                              refine V_sload (c := cI) i178_752.1 (mM_n i178_752.2) rfl (fun _ => ?_)
                                              refine V_aload_n (c := cI) i178_753.1 (mM_n i178_753.2) rfl rfl ?_
                                              refine V_iload_n (c := cI) i178_754.1 (mM_n i178_754.2) rfl ?_
                                              refine V_iconst (c := cI) i178_755.1 (mM_n i178_755.2) (v := 2) rfl ?_
                                              refine V_iadd (c := cI) i178_756.1 (mM_n i178_756.2)  ?_
                                              refine V_sload (c := cI) i178_757.1 (mM_n i178_757.2) rfl (fun _ => ?_)
                                              refine V_aload_n (c := cI) i178_758.1 (mM_n i178_758.2) rfl rfl ?_
                                              refine V_iload_n (c := cI) i178_759.1 (mM_n i178_759.2) rfl ?_
                                              refine V_iconst (c := cI) i178_760.1 (mM_n i178_760.2) (v := 3) rfl ?_
                                              refine V_iadd (c := cI) i178_761.1 (mM_n i178_761.2)  ?_
                                              refine V_sload (c := cI) i178_762.1 (mM_n i178_762.2) rfl (fun _ => ?_)
                                              refine V_cvI (c := cI) (As := [.int (X.2 (x3 + 1).toNatClampNeg), .int (X.2 (x3 + 2).toNatClampNeg), .int (X.2 (x3 + 3).toNatClampNeg)]) (rest := [.int r182]) i178_763.1 (mM_n i178_763.2) c178_104 rfl rfl rfl rfl (Nat.le_of_ble_eq_true rfl) rfl (fun r184 S183 => ?_)
                                              refine V_icmp_eq (c := cI) i178_766.1 (mM_n i178_766.2) rfl (fun _ => ?_) (fun _ => ?_)
                                              · exact V_msk (l1 := [some (.ref mSid), some (.ref 0), some (.ref 55), some (.int x3)]) i178_834.2 rfl rfl
                                              · refine V_iconst (c := cI) i178_769.1 (mM_n i178_769.2) (v := 0) rfl ?_
                                                exact V_iret i178_770.1 (mM_n i178_770.2) rfl
                                            ·
                                              refine V_ite (fun hc21 => ?_) (fun hc21 => ?_)
                                              · refine V_sw (c := cI) i178_32.1 (mM_n i178_32.2) (o := 739) (by rw [hc21]; rfl) rfl ?_
                                                refine V_aload_n (c := cI) i178_771.1 (mM_n i178_771.2) rfl rfl ?_
                                                refine V_cvI (c := cI) (As := []) (rest := []) i178_772.1 (mM_n i178_772.2) c178_105 rfl rfl rfl rfl (Nat.le_of_ble_eq_true rfl) rfl (fun r186 S185 => ?_)
                                                refine V_aload_n (c := cI) i178_775.1 (mM_n i178_775.2) rfl rfl ?_
                                                refine V_cvI (c := cI) (As := []) (rest := [.int r186]) i178_776.1 (mM_n i178_776.2) c178_108 rfl rfl rfl rfl (Nat.le_of_ble_eq_true rfl) rfl (fun r188 S187 => ?_)
                                                refine V_icmp_eq (c := cI) i178_779.1 (mM_n i178_779.2) rfl (fun _ => ?_) (fun _ => ?_)
                                                · exact V_msk (l1 := [some (.ref mSid), some (.ref 0), some (.ref 55), some (.int x3)]) i178_834.2 rfl rfl
                                                · refine V_iconst (c := cI) i178_782.1 (mM_n i178_782.2) (v := 0) rfl ?_
                                                  exact V_iret i178_783.1 (mM_n i178_783.2) rfl
                                              ·
                                                refine V_ite (fun hc22 => ?_) (fun hc22 => ?_)
                                                · refine V_sw (c := cI) i178_32.1 (mM_n i178_32.2) (o := 752) (by rw [hc22]; rfl) rfl ?_
                                                  refine V_aload_n (c := cI) i178_784.1 (mM_n i178_784.2) rfl rfl ?_
                                                  refine V_cvI (c := cI) (As := []) (rest := []) i178_785.1 (mM_n i178_785.2) c178_109 rfl rfl rfl rfl (Nat.le_of_ble_eq_true rfl) rfl (fun r190 S189 => ?_)
                                                  refine V_aload_n (c := cI) i178_788.1 (mM_n i178_788.2) rfl rfl ?_
                                                  refine V_cvI (c := cI) (As := []) (rest := [.int r190]) i178_789.1 (mM_n i178_789.2) c178_112 rfl rfl rfl rfl (Nat.le_of_ble_eq_true rfl) rfl (fun r192 S191 => ?_)
                                                  refine V_icmp_eq (c := cI) i178_792.1 (mM_n i178_792.2) rfl (fun _ => ?_) (fun _ => ?_)
                                                  · exact V_msk (l1 := [some (.ref mSid), some (.ref 0), some (.ref 55), some (.int x3)]) i178_834.2 rfl rfl
                                                  · refine V_iconst (c := cI) i178_795.1 (mM_n i178_795.2) (v := 0) rfl ?_
                                                    exact V_iret i178_796.1 (mM_n i178_796.2) rfl
                                                ·
                                                  refine V_ite (fun hc23 => ?_) (fun hc23 => ?_)
                                                  · refine V_sw (c := cI) i178_32.1 (mM_n i178_32.2) (o := 765) (by rw [hc23]; rfl) rfl ?_
                                                    refine V_aload_n (c := cI) i178_797.1 (mM_n i178_797.2) rfl rfl ?_
                                                    refine V_aload_n (c := cI) i178_798.1 (mM_n i178_798.2) rfl rfl ?_
                                                    refine V_iload_n (c := cI) i178_799.1 (mM_n i178_799.2) rfl ?_
                                                    refine V_iconst (c := cI) i178_800.1 (mM_n i178_800.2) (v := 1) rfl ?_
                                                    refine V_iadd (c := cI) i178_801.1 (mM_n i178_801.2)  ?_
                                                    refine V_sload (c := cI) i178_802.1 (mM_n i178_802.2) rfl (fun _ => ?_)
                                                    refine V_cvI (c := cI) (As := [.int (X.2 (x3 + 1).toNatClampNeg)]) (rest := []) i178_803.1 (mM_n i178_803.2) c178_113 rfl rfl rfl rfl (Nat.le_of_ble_eq_true rfl) rfl (fun r194 S193 => ?_)
                                                    refine V_aload_n (c := cI) i178_806.1 (mM_n i178_806.2) rfl rfl ?_
                                                    refine V_aload_n (c := cI) i178_807.1 (mM_n i178_807.2) rfl rfl ?_
                                                    refine V_iload_n (c := cI) i178_808.1 (mM_n i178_808.2) rfl ?_
                                                    refine V_iconst (c := cI) i178_809.1 (mM_n i178_809.2) (v := 1) rfl ?_
                                                    refine V_iadd (c := cI) i178_810.1 (mM_n i178_810.2)  ?_
                                                    refine V_sload (c := cI) i178_811.1 (mM_n i178_811.2) rfl (fun _ => ?_)
                                                    refine V_cvI (c := cI) (As := [.int (X.2 (x3 + 1).toNatClampNeg)]) (rest := [.int r194]) i178_812.1 (mM_n i178_812.2) c178_116 rfl rfl rfl rfl (Nat.le_of_ble_eq_true rfl) rfl (fun r196 S195 => ?_)
                                                    refine V_icmp_eq (c := cI) i178_815.1 (mM_n i178_815.2) rfl (fun _ => ?_) (fun _ => ?_)
                                                    · exact V_msk (l1 := [some (.ref mSid), some (.ref 0), some (.ref 55), some (.int x3)]) i178_834.2 rfl rfl
                                                    · refine V_iconst (c := cI) i178_818.1 (mM_n i178_818.2) (v := 0) rfl ?_
                                                      exact V_iret i178_819.1 (mM_n i178_819.2) rfl
                                                  ·
                                                    refine V_ite (fun hc24 => ?_) (fun hc24 => ?_)
                                                    · refine V_sw (c := cI) i178_32.1 (mM_n i178_32.2) (o := 788) (by rw [hc24]; rfl) rfl ?_
                                                      refine V_aload_n (c := cI) i178_820.1 (mM_n i178_820.2) rfl rfl ?_
                                                      refine V_cvJ (c := cI) (As := []) (rest := []) i178_821.1 (mM_n i178_821.2) c178_117 rfl rfl rfl rfl (Nat.le_of_ble_eq_true rfl) rfl (fun r198 S197 => ?_)
                                                      refine V_aload_n (c := cI) i178_824.1 (mM_n i178_824.2) rfl rfl ?_
                                                      refine V_cvJ (c := cI) (As := []) (rest := [.long r198]) i178_825.1 (mM_n i178_825.2) c178_121 rfl rfl rfl rfl (Nat.le_of_ble_eq_true rfl) rfl (fun r200 S199 => ?_)
                                                      refine V_lcmp (c := cI) i178_828.1 (mM_n i178_828.2)  ?_
                                                      refine V_if_eq (c := cI) i178_829.1 (mM_n i178_829.2) rfl (fun _ => ?_) (fun _ => ?_)
                                                      · exact V_msk (l1 := [some (.ref mSid), some (.ref 0), some (.ref 55), some (.int x3)]) i178_834.2 rfl rfl
                                                      · refine V_iconst (c := cI) i178_832.1 (mM_n i178_832.2) (v := 0) rfl ?_
                                                        exact V_iret i178_833.1 (mM_n i178_833.2) rfl
                                                    ·
                                                      refine V_sw (c := cI) i178_32.1 (mM_n i178_32.2) (sw_o (n := 25) (by decide) (lt_s (lt_s (lt_s (lt_s (lt_s (lt_s (lt_s (lt_s (lt_s (lt_s (lt_s (lt_s (lt_s (lt_s (lt_s (lt_s (lt_s (lt_s (lt_s (lt_s (lt_s (lt_s (lt_s (lt_s (lt_s lt_0 hc0) hc1) hc2) hc3) hc4) hc5) hc6) hc7) hc8) hc9) hc10) hc11) hc12) hc13) hc14) hc15) hc16) hc17) hc18) hc19) hc20) hc21) hc22) hc23) hc24)) rfl ?_
                                                      exact V_msk (l1 := [some (.ref mSid), some (.ref 0), some (.ref 55), some (.int x3)]) i178_834.2 rfl rfl
theorem k_Law_law_834_eq (X : mX) {x3 : Int32} (hX : ¬ X.1 = 0) {S : Mem} : k_Law_law_834 X x3 S = k_Law_law_18 X (x3 + 5) S := by
  show cI (mV oS X 178 834 [some (.ref mSid), some (.ref 0), some (.ref 55), some (.int x3)] [] S) = _
  refine V_iinc (c := cI) i178_834.1 (mM_s i178_834.2 rfl) (l1 := [some (.ref mSid), some (.ref 0), some (.ref 55), some (.int (x3 + 5))]) rfl rfl rfl ?_
  refine V_goto (c := cI) i178_837.1 (mM_n i178_837.2) rfl ?_
  exact V_msk (l1 := [some (.ref mSid), some (.ref 0), some (.ref 55), some (.int (x3 + 5))]) i178_18.2 rfl rfl
