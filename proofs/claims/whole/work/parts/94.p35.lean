/-! ===== the law's cases ===== -/
abbrev RR : Room := { frames := 10, cells := 600000, slots := 7302250, locals := 370 }
abbrev LNG (x y : Int32) : Int64 := (x.toInt64 <<< ((nI 32).toInt64 &&& 63)) ||| (y.toInt64 &&& 4294967295)
theorem cmp_self (v : Int64) : lg_cmp v v = 0 := by simp [lg_cmp]
theorem GInv.ref {X i : Nat} {N : NT} {I : MI} {L : ML} (h : GInv X i N I L) : N.2.1 (X + 111 + 0) = (11, 36) := by
  obtain ⟨ng, nt, ns, mem, nth, sc, nl, r, rl, n, q, S, k, kl, LA, hV⟩ := h
  exact (hV.1.2.1.sh (o := 0) rfl (by decide)).1
/-- what comes behind a call of the law -/
def NextR (g : GT) (X b len i : Nat) (I : MI) : Prop := ∀ I2 L2 N2 kc' ks', GInv X (i + 1) N2 I2 L2 → N2.2.1 b = (20, len) → kc' ≤ 137 + 26 * (i + 1) → ks' ≤ 11254 + 182 * (i + 1) → I2 b = I b → g 1108 [some (vr (some b)), some (vr (some X)), some (vr (some (X + 111 + 0))), some (vi (nI (2 + 8 * i)))] [] I2 L2 N2 kc' ks'
section LAW
variable {mn : String} {l : Launch} {D : va_G} {B X b len i kc ks : Nat} {g : GT} {N : NT} {I : MI} {L : ML}
theorem w_grid (hC : Cx l D B RL cL_law 4 mn RR g) (hG : GInv X i N I L) (hi : i ≤ 520) (hs : N.2.1 b = (20, len)) (hb : b < X) (hl : 2 + 8 * i + 8 ≤ len) (hln : len < 2 ^ 31) (hk : kc ≤ 137 + 26 * i) (hks : ks ≤ 11254 + 182 * i) (next : NextR g X b len i I) : g 160 [some (vr (some b)), some (vr (some X)), some (vr (some (X + 111 + 0))), some (vi (nI (2 + 8 * i)))] [] I L N kc ks := by
  refine G_zero hC (fun hZ => ?_)
  obtain ⟨ng, nt, ns, mem, nth, sc, nl, r, rl, n, q, S, k, kl, LA, hV⟩ := hG
  have hsX : N.2.1 X = (10, 6) := hV.1.1.1.sh
  obtain ⟨v, mc, ms, I1, L1, N1, I2, L2, h1, h2, h3, h4, h5, h6⟩ := j_grid (l := l) (D := D) (B := B) (kd := (I b (2 + 8 * i + 1))) (x := (I b (2 + 8 * i + 2))) (y := (I b (2 + 8 * i + 3))) hV hZ hi
  have e1 : I1 b = I b := (h3 b hb).1
  have e2 : I2 b = I b := (h3 b hb).2.1
  have e3 : N1.2.1 b = (20, len) := (h3 b hb).2.2.trans hs
  have hsR : N1.2.1 (X + 111 + 0) = (11, 36) := GInv.ref h6
  refine G_aload_n 160 hC rfl dL_law_160 ?_
  refine G_aload_n 161 hC rfl dL_law_161 ?_
  refine G_iload_n 162 hC rfl dL_law_162 ?_
  refine G_iconst 163 hC (nI 1) (by decide) dL_law_163 ?_
  refine G_iaddN 164 hC dL_law_164 ?_
  refine G_iald 165 hC hs (Or.inr rfl) rfl (by omega) hln dL_law_165 ?_
  refine G_aload_n 166 hC rfl dL_law_166 ?_
  refine G_iload_n 167 hC rfl dL_law_167 ?_
  refine G_iconst 168 hC (nI 2) (by decide) dL_law_168 ?_
  refine G_iaddN 169 hC dL_law_169 ?_
  refine G_iald 170 hC hs (Or.inr rfl) rfl (by omega) hln dL_law_170 ?_
  refine G_aload_n 171 hC rfl dL_law_171 ?_
  refine G_iload_n 172 hC rfl dL_law_172 ?_
  refine G_iconst 173 hC (nI 3) (by decide) dL_law_173 ?_
  refine G_iaddN 174 hC dL_law_174 ?_
  refine G_iald 175 hC hs (Or.inr rfl) rfl (by omega) hln dL_law_175 ?_
  refine G_callVn 176 hC h4 okX11_grid lk_L_21 hsX rfl rfl rfl rfl (Nat.le_of_ble_eq_true rfl) ⟨by decide, by decide⟩ ⟨Nat.le_trans (Nat.add_le_add hk h1) (show 137 + 26 * i + 26 ≤ 600000 by omega), Nat.le_trans (Nat.add_le_add hks h2) (show 11254 + 182 * i + 182 ≤ 7302250 by omega)⟩ dL_law_176 ?_
  refine G_aload_n 179 hC rfl dL_law_179 ?_
  refine G_aload_n 180 hC rfl dL_law_180 ?_
  refine G_iload_n 181 hC rfl dL_law_181 ?_
  refine G_iconst 182 hC (nI 1) (by decide) dL_law_182 ?_
  refine G_iaddN 183 hC dL_law_183 ?_
  refine G_iald 184 hC e3 (Or.inr rfl) rfl (by omega) hln dL_law_184 ?_
  rw [e1]
  refine G_aload_n 185 hC rfl dL_law_185 ?_
  refine G_iload_n 186 hC rfl dL_law_186 ?_
  refine G_iconst 187 hC (nI 2) (by decide) dL_law_187 ?_
  refine G_iaddN 188 hC dL_law_188 ?_
  refine G_iald 189 hC e3 (Or.inr rfl) rfl (by omega) hln dL_law_189 ?_
  rw [e1]
  refine G_aload_n 190 hC rfl dL_law_190 ?_
  refine G_iload_n 191 hC rfl dL_law_191 ?_
  refine G_iconst 192 hC (nI 3) (by decide) dL_law_192 ?_
  refine G_iaddN 193 hC dL_law_193 ?_
  refine G_iald 194 hC e3 (Or.inr rfl) rfl (by omega) hln dL_law_194 ?_
  rw [e1]
  refine G_callV1 195 hC h5 okX12_grid lk_L_25 hsR rfl rfl rfl rfl (Nat.le_of_ble_eq_true rfl) ⟨by decide, by decide⟩ ⟨Nat.le_trans (Nat.add_le_add hk h1) (show 137 + 26 * i + 26 ≤ 600000 by omega), Nat.le_trans (Nat.add_le_add hks h2) (show 11254 + 182 * i + 182 ≤ 7302250 by omega)⟩ dL_law_195 ?_
  refine G_icmp_eq 198 1108 hC dL_law_198 (by decide) (fun _ => ?_) (fun hne => absurd rfl hne)
  exact next I2 L2 N1 _ _ h6 e3 (by omega) (by omega) e2
theorem w_line (hC : Cx l D B RL cL_law 4 mn RR g) (hG : GInv X i N I L) (hi : i ≤ 520) (hs : N.2.1 b = (20, len)) (hb : b < X) (hl : 2 + 8 * i + 8 ≤ len) (hln : len < 2 ^ 31) (hk : kc ≤ 137 + 26 * i) (hks : ks ≤ 11254 + 182 * i) (next : NextR g X b len i I) : g 203 [some (vr (some b)), some (vr (some X)), some (vr (some (X + 111 + 0))), some (vi (nI (2 + 8 * i)))] [] I L N kc ks := by
  refine G_zero hC (fun hZ => ?_)
  obtain ⟨ng, nt, ns, mem, nth, sc, nl, r, rl, n, q, S, k, kl, LA, hV⟩ := hG
  have hsX : N.2.1 X = (10, 6) := hV.1.1.1.sh
  obtain ⟨v, mc, ms, I1, L1, N1, I2, L2, h1, h2, h3, h4, h5, h6⟩ := j_line (l := l) (D := D) (B := B) (x := (I b (2 + 8 * i + 1))) (y := (I b (2 + 8 * i + 2))) (w := (I b (2 + 8 * i + 3))) hV hZ hi
  have e1 : I1 b = I b := (h3 b hb).1
  have e2 : I2 b = I b := (h3 b hb).2.1
  have e3 : N1.2.1 b = (20, len) := (h3 b hb).2.2.trans hs
  have hsR : N1.2.1 (X + 111 + 0) = (11, 36) := GInv.ref h6
  refine G_aload_n 203 hC rfl dL_law_203 ?_
  refine G_aload_n 204 hC rfl dL_law_204 ?_
  refine G_iload_n 205 hC rfl dL_law_205 ?_
  refine G_iconst 206 hC (nI 1) (by decide) dL_law_206 ?_
  refine G_iaddN 207 hC dL_law_207 ?_
  refine G_iald 208 hC hs (Or.inr rfl) rfl (by omega) hln dL_law_208 ?_
  refine G_aload_n 209 hC rfl dL_law_209 ?_
  refine G_iload_n 210 hC rfl dL_law_210 ?_
  refine G_iconst 211 hC (nI 2) (by decide) dL_law_211 ?_
  refine G_iaddN 212 hC dL_law_212 ?_
  refine G_iald 213 hC hs (Or.inr rfl) rfl (by omega) hln dL_law_213 ?_
  refine G_aload_n 214 hC rfl dL_law_214 ?_
  refine G_iload_n 215 hC rfl dL_law_215 ?_
  refine G_iconst 216 hC (nI 3) (by decide) dL_law_216 ?_
  refine G_iaddN 217 hC dL_law_217 ?_
  refine G_iald 218 hC hs (Or.inr rfl) rfl (by omega) hln dL_law_218 ?_
  refine G_callVn 219 hC h4 okX11_line lk_L_26 hsX rfl rfl rfl rfl (Nat.le_of_ble_eq_true rfl) ⟨by decide, by decide⟩ ⟨Nat.le_trans (Nat.add_le_add hk h1) (show 137 + 26 * i + 26 ≤ 600000 by omega), Nat.le_trans (Nat.add_le_add hks h2) (show 11254 + 182 * i + 182 ≤ 7302250 by omega)⟩ dL_law_219 ?_
  refine G_aload_n 222 hC rfl dL_law_222 ?_
  refine G_aload_n 223 hC rfl dL_law_223 ?_
  refine G_iload_n 224 hC rfl dL_law_224 ?_
  refine G_iconst 225 hC (nI 1) (by decide) dL_law_225 ?_
  refine G_iaddN 226 hC dL_law_226 ?_
  refine G_iald 227 hC e3 (Or.inr rfl) rfl (by omega) hln dL_law_227 ?_
  rw [e1]
  refine G_aload_n 228 hC rfl dL_law_228 ?_
  refine G_iload_n 229 hC rfl dL_law_229 ?_
  refine G_iconst 230 hC (nI 2) (by decide) dL_law_230 ?_
  refine G_iaddN 231 hC dL_law_231 ?_
  refine G_iald 232 hC e3 (Or.inr rfl) rfl (by omega) hln dL_law_232 ?_
  rw [e1]
  refine G_aload_n 233 hC rfl dL_law_233 ?_
  refine G_iload_n 234 hC rfl dL_law_234 ?_
  refine G_iconst 235 hC (nI 3) (by decide) dL_law_235 ?_
  refine G_iaddN 236 hC dL_law_236 ?_
  refine G_iald 237 hC e3 (Or.inr rfl) rfl (by omega) hln dL_law_237 ?_
  rw [e1]
  refine G_callV1 238 hC h5 okX12_line lk_L_29 hsR rfl rfl rfl rfl (Nat.le_of_ble_eq_true rfl) ⟨by decide, by decide⟩ ⟨Nat.le_trans (Nat.add_le_add hk h1) (show 137 + 26 * i + 26 ≤ 600000 by omega), Nat.le_trans (Nat.add_le_add hks h2) (show 11254 + 182 * i + 182 ≤ 7302250 by omega)⟩ dL_law_238 ?_
  refine G_icmp_eq 241 1108 hC dL_law_241 (by decide) (fun _ => ?_) (fun hne => absurd rfl hne)
  exact next I2 L2 N1 _ _ h6 e3 (by omega) (by omega) e2
theorem w_put (hC : Cx l D B RL cL_law 4 mn RR g) (hG : GInv X i N I L) (hi : i ≤ 520) (hs : N.2.1 b = (20, len)) (hb : b < X) (hl : 2 + 8 * i + 8 ≤ len) (hln : len < 2 ^ 31) (hk : kc ≤ 137 + 26 * i) (hks : ks ≤ 11254 + 182 * i) (next : NextR g X b len i I) : g 246 [some (vr (some b)), some (vr (some X)), some (vr (some (X + 111 + 0))), some (vi (nI (2 + 8 * i)))] [] I L N kc ks := by
  refine G_zero hC (fun hZ => ?_)
  obtain ⟨ng, nt, ns, mem, nth, sc, nl, r, rl, n, q, S, k, kl, LA, hV⟩ := hG
  have hsX : N.2.1 X = (10, 6) := hV.1.1.1.sh
  obtain ⟨v, mc, ms, I1, L1, N1, I2, L2, h1, h2, h3, h4, h5, h6⟩ := j_put (l := l) (D := D) (B := B) (x := (I b (2 + 8 * i + 1))) (y := (I b (2 + 8 * i + 2))) (w := (I b (2 + 8 * i + 3))) (v := LNG (I b (2 + 8 * i + 4)) (I b (2 + 8 * i + 5))) hV (by omega)
  have e1 : I1 b = I b := (h3 b hb).1
  have e2 : I2 b = I b := (h3 b hb).2.1
  have e3 : N1.2.1 b = (20, len) := (h3 b hb).2.2.trans hs
  have hsR : N1.2.1 (X + 111 + 0) = (11, 36) := GInv.ref h6
  refine G_aload_n 246 hC rfl dL_law_246 ?_
  refine G_aload_n 247 hC rfl dL_law_247 ?_
  refine G_iload_n 248 hC rfl dL_law_248 ?_
  refine G_iconst 249 hC (nI 1) (by decide) dL_law_249 ?_
  refine G_iaddN 250 hC dL_law_250 ?_
  refine G_iald 251 hC hs (Or.inr rfl) rfl (by omega) hln dL_law_251 ?_
  refine G_aload_n 252 hC rfl dL_law_252 ?_
  refine G_iload_n 253 hC rfl dL_law_253 ?_
  refine G_iconst 254 hC (nI 2) (by decide) dL_law_254 ?_
  refine G_iaddN 255 hC dL_law_255 ?_
  refine G_iald 256 hC hs (Or.inr rfl) rfl (by omega) hln dL_law_256 ?_
  refine G_aload_n 257 hC rfl dL_law_257 ?_
  refine G_iload_n 258 hC rfl dL_law_258 ?_
  refine G_iconst 259 hC (nI 3) (by decide) dL_law_259 ?_
  refine G_iaddN 260 hC dL_law_260 ?_
  refine G_iald 261 hC hs (Or.inr rfl) rfl (by omega) hln dL_law_261 ?_
  refine G_aload_n 262 hC rfl dL_law_262 ?_
  refine G_iload_n 263 hC rfl dL_law_263 ?_
  refine G_iconst 264 hC (nI 4) (by decide) dL_law_264 ?_
  refine G_iaddN 265 hC dL_law_265 ?_
  refine G_iald 266 hC hs (Or.inr rfl) rfl (by omega) hln dL_law_266 ?_
  refine G_i2l 267 hC dL_law_267 ?_
  refine G_bipush 268 hC (nI 32) (by decide) dL_law_268 ?_
  refine G_lshl 270 hC dL_law_270 ?_
  refine G_aload_n 271 hC rfl dL_law_271 ?_
  refine G_iload_n 272 hC rfl dL_law_272 ?_
  refine G_iconst 273 hC (nI 5) (by decide) dL_law_273 ?_
  refine G_iaddN 274 hC dL_law_274 ?_
  refine G_iald 275 hC hs (Or.inr rfl) rfl (by omega) hln dL_law_275 ?_
  refine G_i2l 276 hC dL_law_276 ?_
  refine G_ldc2 277 hC kc_L_30 dL_law_277 ?_
  refine G_land 280 hC dL_law_280 ?_
  refine G_lor 281 hC dL_law_281 ?_
  refine G_callVn 282 hC h4 okX11_put lk_L_32 hsX rfl rfl rfl rfl (Nat.le_of_ble_eq_true rfl) ⟨by decide, by decide⟩ ⟨Nat.le_trans (Nat.add_le_add hk h1) (show 137 + 26 * i + 26 ≤ 600000 by omega), Nat.le_trans (Nat.add_le_add hks h2) (show 11254 + 182 * i + 182 ≤ 7302250 by omega)⟩ dL_law_282 ?_
  refine G_aload_n 285 hC rfl dL_law_285 ?_
  refine G_aload_n 286 hC rfl dL_law_286 ?_
  refine G_iload_n 287 hC rfl dL_law_287 ?_
  refine G_iconst 288 hC (nI 1) (by decide) dL_law_288 ?_
  refine G_iaddN 289 hC dL_law_289 ?_
  refine G_iald 290 hC e3 (Or.inr rfl) rfl (by omega) hln dL_law_290 ?_
  rw [e1]
  refine G_aload_n 291 hC rfl dL_law_291 ?_
  refine G_iload_n 292 hC rfl dL_law_292 ?_
  refine G_iconst 293 hC (nI 2) (by decide) dL_law_293 ?_
  refine G_iaddN 294 hC dL_law_294 ?_
  refine G_iald 295 hC e3 (Or.inr rfl) rfl (by omega) hln dL_law_295 ?_
  rw [e1]
  refine G_aload_n 296 hC rfl dL_law_296 ?_
  refine G_iload_n 297 hC rfl dL_law_297 ?_
  refine G_iconst 298 hC (nI 3) (by decide) dL_law_298 ?_
  refine G_iaddN 299 hC dL_law_299 ?_
  refine G_iald 300 hC e3 (Or.inr rfl) rfl (by omega) hln dL_law_300 ?_
  rw [e1]
  refine G_aload_n 301 hC rfl dL_law_301 ?_
  refine G_iload_n 302 hC rfl dL_law_302 ?_
  refine G_iconst 303 hC (nI 4) (by decide) dL_law_303 ?_
  refine G_iaddN 304 hC dL_law_304 ?_
  refine G_iald 305 hC e3 (Or.inr rfl) rfl (by omega) hln dL_law_305 ?_
  rw [e1]
  refine G_i2l 306 hC dL_law_306 ?_
  refine G_bipush 307 hC (nI 32) (by decide) dL_law_307 ?_
  refine G_lshl 309 hC dL_law_309 ?_
  refine G_aload_n 310 hC rfl dL_law_310 ?_
  refine G_iload_n 311 hC rfl dL_law_311 ?_
  refine G_iconst 312 hC (nI 5) (by decide) dL_law_312 ?_
  refine G_iaddN 313 hC dL_law_313 ?_
  refine G_iald 314 hC e3 (Or.inr rfl) rfl (by omega) hln dL_law_314 ?_
  rw [e1]
  refine G_i2l 315 hC dL_law_315 ?_
  refine G_ldc2 316 hC kc_L_30 dL_law_316 ?_
  refine G_land 319 hC dL_law_319 ?_
  refine G_lor 320 hC dL_law_320 ?_
  refine G_callV1 321 hC h5 okX12_put lk_L_36 hsR rfl rfl rfl rfl (Nat.le_of_ble_eq_true rfl) ⟨by decide, by decide⟩ ⟨Nat.le_trans (Nat.add_le_add hk h1) (show 137 + 26 * i + 26 ≤ 600000 by omega), Nat.le_trans (Nat.add_le_add hks h2) (show 11254 + 182 * i + 182 ≤ 7302250 by omega)⟩ dL_law_321 ?_
  refine G_icmp_eq 324 1108 hC dL_law_324 (by decide) (fun _ => ?_) (fun hne => absurd rfl hne)
  exact next I2 L2 N1 _ _ h6 e3 (by omega) (by omega) e2
theorem w_item (hC : Cx l D B RL cL_law 4 mn RR g) (hG : GInv X i N I L) (hi : i ≤ 520) (hs : N.2.1 b = (20, len)) (hb : b < X) (hl : 2 + 8 * i + 8 ≤ len) (hln : len < 2 ^ 31) (hk : kc ≤ 137 + 26 * i) (hks : ks ≤ 11254 + 182 * i) (next : NextR g X b len i I) : g 329 [some (vr (some b)), some (vr (some X)), some (vr (some (X + 111 + 0))), some (vi (nI (2 + 8 * i)))] [] I L N kc ks := by
  refine G_zero hC (fun hZ => ?_)
  obtain ⟨ng, nt, ns, mem, nth, sc, nl, r, rl, n, q, S, k, kl, LA, hV⟩ := hG
  have hsX : N.2.1 X = (10, 6) := hV.1.1.1.sh
  obtain ⟨v, mc, ms, I1, L1, N1, I2, L2, h1, h2, h3, h4, h5, h6⟩ := j_item (l := l) (D := D) (B := B) (x := (I b (2 + 8 * i + 1))) (kd := (I b (2 + 8 * i + 2))) (y := (I b (2 + 8 * i + 3))) (w := (I b (2 + 8 * i + 4))) hV
  have e1 : I1 b = I b := (h3 b hb).1
  have e2 : I2 b = I b := (h3 b hb).2.1
  have e3 : N1.2.1 b = (20, len) := (h3 b hb).2.2.trans hs
  have hsR : N1.2.1 (X + 111 + 0) = (11, 36) := GInv.ref h6
  refine G_aload_n 329 hC rfl dL_law_329 ?_
  refine G_aload_n 330 hC rfl dL_law_330 ?_
  refine G_iload_n 331 hC rfl dL_law_331 ?_
  refine G_iconst 332 hC (nI 1) (by decide) dL_law_332 ?_
  refine G_iaddN 333 hC dL_law_333 ?_
  refine G_iald 334 hC hs (Or.inr rfl) rfl (by omega) hln dL_law_334 ?_
  refine G_aload_n 335 hC rfl dL_law_335 ?_
  refine G_iload_n 336 hC rfl dL_law_336 ?_
  refine G_iconst 337 hC (nI 2) (by decide) dL_law_337 ?_
  refine G_iaddN 338 hC dL_law_338 ?_
  refine G_iald 339 hC hs (Or.inr rfl) rfl (by omega) hln dL_law_339 ?_
  refine G_aload_n 340 hC rfl dL_law_340 ?_
  refine G_iload_n 341 hC rfl dL_law_341 ?_
  refine G_iconst 342 hC (nI 3) (by decide) dL_law_342 ?_
  refine G_iaddN 343 hC dL_law_343 ?_
  refine G_iald 344 hC hs (Or.inr rfl) rfl (by omega) hln dL_law_344 ?_
  refine G_aload_n 345 hC rfl dL_law_345 ?_
  refine G_iload_n 346 hC rfl dL_law_346 ?_
  refine G_iconst 347 hC (nI 4) (by decide) dL_law_347 ?_
  refine G_iaddN 348 hC dL_law_348 ?_
  refine G_iald 349 hC hs (Or.inr rfl) rfl (by omega) hln dL_law_349 ?_
  refine G_callVn 350 hC h4 okX11_item lk_L_37 hsX rfl rfl rfl rfl (Nat.le_of_ble_eq_true rfl) ⟨by decide, by decide⟩ ⟨Nat.le_trans (Nat.add_le_add hk h1) (show 137 + 26 * i + 26 ≤ 600000 by omega), Nat.le_trans (Nat.add_le_add hks h2) (show 11254 + 182 * i + 182 ≤ 7302250 by omega)⟩ dL_law_350 ?_
  refine G_aload_n 353 hC rfl dL_law_353 ?_
  refine G_aload_n 354 hC rfl dL_law_354 ?_
  refine G_iload_n 355 hC rfl dL_law_355 ?_
  refine G_iconst 356 hC (nI 1) (by decide) dL_law_356 ?_
  refine G_iaddN 357 hC dL_law_357 ?_
  refine G_iald 358 hC e3 (Or.inr rfl) rfl (by omega) hln dL_law_358 ?_
  rw [e1]
  refine G_aload_n 359 hC rfl dL_law_359 ?_
  refine G_iload_n 360 hC rfl dL_law_360 ?_
  refine G_iconst 361 hC (nI 2) (by decide) dL_law_361 ?_
  refine G_iaddN 362 hC dL_law_362 ?_
  refine G_iald 363 hC e3 (Or.inr rfl) rfl (by omega) hln dL_law_363 ?_
  rw [e1]
  refine G_aload_n 364 hC rfl dL_law_364 ?_
  refine G_iload_n 365 hC rfl dL_law_365 ?_
  refine G_iconst 366 hC (nI 3) (by decide) dL_law_366 ?_
  refine G_iaddN 367 hC dL_law_367 ?_
  refine G_iald 368 hC e3 (Or.inr rfl) rfl (by omega) hln dL_law_368 ?_
  rw [e1]
  refine G_aload_n 369 hC rfl dL_law_369 ?_
  refine G_iload_n 370 hC rfl dL_law_370 ?_
  refine G_iconst 371 hC (nI 4) (by decide) dL_law_371 ?_
  refine G_iaddN 372 hC dL_law_372 ?_
  refine G_iald 373 hC e3 (Or.inr rfl) rfl (by omega) hln dL_law_373 ?_
  rw [e1]
  refine G_callV1 374 hC h5 okX12_item lk_L_41 hsR rfl rfl rfl rfl (Nat.le_of_ble_eq_true rfl) ⟨by decide, by decide⟩ ⟨Nat.le_trans (Nat.add_le_add hk h1) (show 137 + 26 * i + 26 ≤ 600000 by omega), Nat.le_trans (Nat.add_le_add hks h2) (show 11254 + 182 * i + 182 ≤ 7302250 by omega)⟩ dL_law_374 ?_
  refine G_lcmp 377 hC dL_law_377 ?_
  rw [cmp_self]
  refine G_if_eq 378 1108 hC dL_law_378 (by decide) (fun _ => ?_) (fun hne => absurd rfl hne)
  exact next I2 L2 N1 _ _ h6 e3 (by omega) (by omega) e2
theorem w_lay (hC : Cx l D B RL cL_law 4 mn RR g) (hG : GInv X i N I L) (hi : i ≤ 520) (hs : N.2.1 b = (20, len)) (hb : b < X) (hl : 2 + 8 * i + 8 ≤ len) (hln : len < 2 ^ 31) (hk : kc ≤ 137 + 26 * i) (hks : ks ≤ 11254 + 182 * i) (next : NextR g X b len i I) : g 383 [some (vr (some b)), some (vr (some X)), some (vr (some (X + 111 + 0))), some (vi (nI (2 + 8 * i)))] [] I L N kc ks := by
  refine G_zero hC (fun hZ => ?_)
  obtain ⟨ng, nt, ns, mem, nth, sc, nl, r, rl, n, q, S, k, kl, LA, hV⟩ := hG
  have hsX : N.2.1 X = (10, 6) := hV.1.1.1.sh
  obtain ⟨v, mc, ms, I1, L1, N1, I2, L2, h1, h2, h3, h4, h5, h6⟩ := j_lay (l := l) (D := D) (B := B) (x := (I b (2 + 8 * i + 1))) (y := (I b (2 + 8 * i + 2))) (f := (I b (2 + 8 * i + 3))) (w := (I b (2 + 8 * i + 4))) hV hZ hi
  have e1 : I1 b = I b := (h3 b hb).1
  have e2 : I2 b = I b := (h3 b hb).2.1
  have e3 : N1.2.1 b = (20, len) := (h3 b hb).2.2.trans hs
  have hsR : N1.2.1 (X + 111 + 0) = (11, 36) := GInv.ref h6
  refine G_aload_n 383 hC rfl dL_law_383 ?_
  refine G_aload_n 384 hC rfl dL_law_384 ?_
  refine G_iload_n 385 hC rfl dL_law_385 ?_
  refine G_iconst 386 hC (nI 1) (by decide) dL_law_386 ?_
  refine G_iaddN 387 hC dL_law_387 ?_
  refine G_iald 388 hC hs (Or.inr rfl) rfl (by omega) hln dL_law_388 ?_
  refine G_aload_n 389 hC rfl dL_law_389 ?_
  refine G_iload_n 390 hC rfl dL_law_390 ?_
  refine G_iconst 391 hC (nI 2) (by decide) dL_law_391 ?_
  refine G_iaddN 392 hC dL_law_392 ?_
  refine G_iald 393 hC hs (Or.inr rfl) rfl (by omega) hln dL_law_393 ?_
  refine G_aload_n 394 hC rfl dL_law_394 ?_
  refine G_iload_n 395 hC rfl dL_law_395 ?_
  refine G_iconst 396 hC (nI 3) (by decide) dL_law_396 ?_
  refine G_iaddN 397 hC dL_law_397 ?_
  refine G_iald 398 hC hs (Or.inr rfl) rfl (by omega) hln dL_law_398 ?_
  refine G_aload_n 399 hC rfl dL_law_399 ?_
  refine G_iload_n 400 hC rfl dL_law_400 ?_
  refine G_iconst 401 hC (nI 4) (by decide) dL_law_401 ?_
  refine G_iaddN 402 hC dL_law_402 ?_
  refine G_iald 403 hC hs (Or.inr rfl) rfl (by omega) hln dL_law_403 ?_
  refine G_callVn 404 hC h4 okX11_lay lk_L_42 hsX rfl rfl rfl rfl (Nat.le_of_ble_eq_true rfl) ⟨by decide, by decide⟩ ⟨Nat.le_trans (Nat.add_le_add hk h1) (show 137 + 26 * i + 26 ≤ 600000 by omega), Nat.le_trans (Nat.add_le_add hks h2) (show 11254 + 182 * i + 182 ≤ 7302250 by omega)⟩ dL_law_404 ?_
  refine G_aload_n 407 hC rfl dL_law_407 ?_
  refine G_aload_n 408 hC rfl dL_law_408 ?_
  refine G_iload_n 409 hC rfl dL_law_409 ?_
  refine G_iconst 410 hC (nI 1) (by decide) dL_law_410 ?_
  refine G_iaddN 411 hC dL_law_411 ?_
  refine G_iald 412 hC e3 (Or.inr rfl) rfl (by omega) hln dL_law_412 ?_
  rw [e1]
  refine G_aload_n 413 hC rfl dL_law_413 ?_
  refine G_iload_n 414 hC rfl dL_law_414 ?_
  refine G_iconst 415 hC (nI 2) (by decide) dL_law_415 ?_
  refine G_iaddN 416 hC dL_law_416 ?_
  refine G_iald 417 hC e3 (Or.inr rfl) rfl (by omega) hln dL_law_417 ?_
  rw [e1]
  refine G_aload_n 418 hC rfl dL_law_418 ?_
  refine G_iload_n 419 hC rfl dL_law_419 ?_
  refine G_iconst 420 hC (nI 3) (by decide) dL_law_420 ?_
  refine G_iaddN 421 hC dL_law_421 ?_
  refine G_iald 422 hC e3 (Or.inr rfl) rfl (by omega) hln dL_law_422 ?_
  rw [e1]
  refine G_aload_n 423 hC rfl dL_law_423 ?_
  refine G_iload_n 424 hC rfl dL_law_424 ?_
  refine G_iconst 425 hC (nI 4) (by decide) dL_law_425 ?_
  refine G_iaddN 426 hC dL_law_426 ?_
  refine G_iald 427 hC e3 (Or.inr rfl) rfl (by omega) hln dL_law_427 ?_
  rw [e1]
  refine G_callV1 428 hC h5 okX12_lay lk_L_46 hsR rfl rfl rfl rfl (Nat.le_of_ble_eq_true rfl) ⟨by decide, by decide⟩ ⟨Nat.le_trans (Nat.add_le_add hk h1) (show 137 + 26 * i + 26 ≤ 600000 by omega), Nat.le_trans (Nat.add_le_add hks h2) (show 11254 + 182 * i + 182 ≤ 7302250 by omega)⟩ dL_law_428 ?_
  refine G_icmp_eq 431 1108 hC dL_law_431 (by decide) (fun _ => ?_) (fun hne => absurd rfl hne)
  exact next I2 L2 N1 _ _ h6 e3 (by omega) (by omega) e2
theorem w_size (hC : Cx l D B RL cL_law 4 mn RR g) (hG : GInv X i N I L) (hi : i ≤ 520) (hs : N.2.1 b = (20, len)) (hb : b < X) (hl : 2 + 8 * i + 8 ≤ len) (hln : len < 2 ^ 31) (hk : kc ≤ 137 + 26 * i) (hks : ks ≤ 11254 + 182 * i) (next : NextR g X b len i I) : g 436 [some (vr (some b)), some (vr (some X)), some (vr (some (X + 111 + 0))), some (vi (nI (2 + 8 * i)))] [] I L N kc ks := by
  refine G_zero hC (fun hZ => ?_)
  obtain ⟨ng, nt, ns, mem, nth, sc, nl, r, rl, n, q, S, k, kl, LA, hV⟩ := hG
  have hsX : N.2.1 X = (10, 6) := hV.1.1.1.sh
  obtain ⟨v, mc, ms, I1, L1, N1, I2, L2, h1, h2, h3, h4, h5, h6⟩ := j_size (l := l) (D := D) (B := B) (x := (I b (2 + 8 * i + 1))) (y := (I b (2 + 8 * i + 2))) hV
  have e1 : I1 b = I b := (h3 b hb).1
  have e2 : I2 b = I b := (h3 b hb).2.1
  have e3 : N1.2.1 b = (20, len) := (h3 b hb).2.2.trans hs
  have hsR : N1.2.1 (X + 111 + 0) = (11, 36) := GInv.ref h6
  refine G_aload_n 436 hC rfl dL_law_436 ?_
  refine G_aload_n 437 hC rfl dL_law_437 ?_
  refine G_iload_n 438 hC rfl dL_law_438 ?_
  refine G_iconst 439 hC (nI 1) (by decide) dL_law_439 ?_
  refine G_iaddN 440 hC dL_law_440 ?_
  refine G_iald 441 hC hs (Or.inr rfl) rfl (by omega) hln dL_law_441 ?_
  refine G_aload_n 442 hC rfl dL_law_442 ?_
  refine G_iload_n 443 hC rfl dL_law_443 ?_
  refine G_iconst 444 hC (nI 2) (by decide) dL_law_444 ?_
  refine G_iaddN 445 hC dL_law_445 ?_
  refine G_iald 446 hC hs (Or.inr rfl) rfl (by omega) hln dL_law_446 ?_
  refine G_callVn 447 hC h4 okX11_size lk_L_47 hsX rfl rfl rfl rfl (Nat.le_of_ble_eq_true rfl) ⟨by decide, by decide⟩ ⟨Nat.le_trans (Nat.add_le_add hk h1) (show 137 + 26 * i + 26 ≤ 600000 by omega), Nat.le_trans (Nat.add_le_add hks h2) (show 11254 + 182 * i + 182 ≤ 7302250 by omega)⟩ dL_law_447 ?_
  refine G_aload_n 450 hC rfl dL_law_450 ?_
  refine G_aload_n 451 hC rfl dL_law_451 ?_
  refine G_iload_n 452 hC rfl dL_law_452 ?_
  refine G_iconst 453 hC (nI 1) (by decide) dL_law_453 ?_
  refine G_iaddN 454 hC dL_law_454 ?_
  refine G_iald 455 hC e3 (Or.inr rfl) rfl (by omega) hln dL_law_455 ?_
  rw [e1]
  refine G_aload_n 456 hC rfl dL_law_456 ?_
  refine G_iload_n 457 hC rfl dL_law_457 ?_
  refine G_iconst 458 hC (nI 2) (by decide) dL_law_458 ?_
  refine G_iaddN 459 hC dL_law_459 ?_
  refine G_iald 460 hC e3 (Or.inr rfl) rfl (by omega) hln dL_law_460 ?_
  rw [e1]
  refine G_callV1 461 hC h5 okX12_size lk_L_51 hsR rfl rfl rfl rfl (Nat.le_of_ble_eq_true rfl) ⟨by decide, by decide⟩ ⟨Nat.le_trans (Nat.add_le_add hk h1) (show 137 + 26 * i + 26 ≤ 600000 by omega), Nat.le_trans (Nat.add_le_add hks h2) (show 11254 + 182 * i + 182 ≤ 7302250 by omega)⟩ dL_law_461 ?_
  refine G_icmp_eq 464 1108 hC dL_law_464 (by decide) (fun _ => ?_) (fun hne => absurd rfl hne)
  exact next I2 L2 N1 _ _ h6 e3 (by omega) (by omega) e2
theorem w_way (hC : Cx l D B RL cL_law 4 mn RR g) (hG : GInv X i N I L) (hi : i ≤ 520) (hs : N.2.1 b = (20, len)) (hb : b < X) (hl : 2 + 8 * i + 8 ≤ len) (hln : len < 2 ^ 31) (hk : kc ≤ 137 + 26 * i) (hks : ks ≤ 11254 + 182 * i) (next : NextR g X b len i I) : g 469 [some (vr (some b)), some (vr (some X)), some (vr (some (X + 111 + 0))), some (vi (nI (2 + 8 * i)))] [] I L N kc ks := by
  refine G_zero hC (fun hZ => ?_)
  obtain ⟨ng, nt, ns, mem, nth, sc, nl, r, rl, n, q, S, k, kl, LA, hV⟩ := hG
  have hsX : N.2.1 X = (10, 6) := hV.1.1.1.sh
  by_cases hz : I b (2 + 8 * i + 1) = 0
  · obtain ⟨v, mc, ms, I1, L1, N1, I2, L2, h1, h2, h3, h4, h5, h6⟩ := j_way (l := l) (D := D) (B := B) (z := nI 0) (p := (I b (2 + 8 * i + 2))) (a := LNG (I b (2 + 8 * i + 3)) (I b (2 + 8 * i + 4))) (f := (I b (2 + 8 * i + 5))) (nd := (I b (2 + 8 * i + 6))) (bd := (I b (2 + 8 * i + 7))) hV hZ
    have e1 : I1 b = I b := (h3 b hb).1
    have e2 : I2 b = I b := (h3 b hb).2.1
    have e3 : N1.2.1 b = (20, len) := (h3 b hb).2.2.trans hs
    have hsR : N1.2.1 (X + 111 + 0) = (11, 36) := GInv.ref h6
    refine G_aload_n 469 hC rfl dL_law_469 ?_
    refine G_aload_n 470 hC rfl dL_law_470 ?_
    refine G_iload_n 471 hC rfl dL_law_471 ?_
    refine G_iconst 472 hC (nI 1) (by decide) dL_law_472 ?_
    refine G_iaddN 473 hC dL_law_473 ?_
    refine G_iald 474 hC hs (Or.inr rfl) rfl (by omega) hln dL_law_474 ?_
    refine G_if_eq 475 482 hC dL_law_475 (by decide) (fun _ => ?_) (fun h => absurd hz h)
    refine G_iconst 482 hC (nI 0) (by decide) dL_law_482 ?_
    refine G_aload_n 483 hC rfl dL_law_483 ?_
    refine G_iload_n 484 hC rfl dL_law_484 ?_
    refine G_iconst 485 hC (nI 2) (by decide) dL_law_485 ?_
    refine G_iaddN 486 hC dL_law_486 ?_
    refine G_iald 487 hC hs (Or.inr rfl) rfl (by omega) hln dL_law_487 ?_
    refine G_aload_n 488 hC rfl dL_law_488 ?_
    refine G_iload_n 489 hC rfl dL_law_489 ?_
    refine G_iconst 490 hC (nI 3) (by decide) dL_law_490 ?_
    refine G_iaddN 491 hC dL_law_491 ?_
    refine G_iald 492 hC hs (Or.inr rfl) rfl (by omega) hln dL_law_492 ?_
    refine G_i2l 493 hC dL_law_493 ?_
    refine G_bipush 494 hC (nI 32) (by decide) dL_law_494 ?_
    refine G_lshl 496 hC dL_law_496 ?_
    refine G_aload_n 497 hC rfl dL_law_497 ?_
    refine G_iload_n 498 hC rfl dL_law_498 ?_
    refine G_iconst 499 hC (nI 4) (by decide) dL_law_499 ?_
    refine G_iaddN 500 hC dL_law_500 ?_
    refine G_iald 501 hC hs (Or.inr rfl) rfl (by omega) hln dL_law_501 ?_
    refine G_i2l 502 hC dL_law_502 ?_
    refine G_ldc2 503 hC kc_L_30 dL_law_503 ?_
    refine G_land 506 hC dL_law_506 ?_
    refine G_lor 507 hC dL_law_507 ?_
    refine G_aload_n 508 hC rfl dL_law_508 ?_
    refine G_iload_n 509 hC rfl dL_law_509 ?_
    refine G_iconst 510 hC (nI 5) (by decide) dL_law_510 ?_
    refine G_iaddN 511 hC dL_law_511 ?_
    refine G_iald 512 hC hs (Or.inr rfl) rfl (by omega) hln dL_law_512 ?_
    refine G_aload_n 513 hC rfl dL_law_513 ?_
    refine G_iload_n 514 hC rfl dL_law_514 ?_
    refine G_bipush 515 hC (nI 6) (by decide) dL_law_515 ?_
    refine G_iaddN 517 hC dL_law_517 ?_
    refine G_iald 518 hC hs (Or.inr rfl) rfl (by omega) hln dL_law_518 ?_
    refine G_aload_n 519 hC rfl dL_law_519 ?_
    refine G_iload_n 520 hC rfl dL_law_520 ?_
    refine G_bipush 521 hC (nI 7) (by decide) dL_law_521 ?_
    refine G_iaddN 523 hC dL_law_523 ?_
    refine G_iald 524 hC hs (Or.inr rfl) rfl (by omega) hln dL_law_524 ?_
    refine G_callVn 525 hC h4 okX11_way lk_L_52 hsX rfl rfl rfl rfl (Nat.le_of_ble_eq_true rfl) ⟨by decide, by decide⟩ ⟨Nat.le_trans (Nat.add_le_add hk h1) (show 137 + 26 * i + 26 ≤ 600000 by omega), Nat.le_trans (Nat.add_le_add hks h2) (show 11254 + 182 * i + 182 ≤ 7302250 by omega)⟩ dL_law_525 ?_
    refine G_aload_n 528 hC rfl dL_law_528 ?_
    refine G_aload_n 529 hC rfl dL_law_529 ?_
    refine G_iload_n 530 hC rfl dL_law_530 ?_
    refine G_iconst 531 hC (nI 1) (by decide) dL_law_531 ?_
    refine G_iaddN 532 hC dL_law_532 ?_
    refine G_iald 533 hC e3 (Or.inr rfl) rfl (by omega) hln dL_law_533 ?_
    rw [e1]
    refine G_if_eq 534 541 hC dL_law_534 (by decide) (fun _ => ?_) (fun h => absurd hz h)
    refine G_iconst 541 hC (nI 0) (by decide) dL_law_541 ?_
    refine G_aload_n 542 hC rfl dL_law_542 ?_
    refine G_iload_n 543 hC rfl dL_law_543 ?_
    refine G_iconst 544 hC (nI 2) (by decide) dL_law_544 ?_
    refine G_iaddN 545 hC dL_law_545 ?_
    refine G_iald 546 hC e3 (Or.inr rfl) rfl (by omega) hln dL_law_546 ?_
    rw [e1]
    refine G_aload_n 547 hC rfl dL_law_547 ?_
    refine G_iload_n 548 hC rfl dL_law_548 ?_
    refine G_iconst 549 hC (nI 3) (by decide) dL_law_549 ?_
    refine G_iaddN 550 hC dL_law_550 ?_
    refine G_iald 551 hC e3 (Or.inr rfl) rfl (by omega) hln dL_law_551 ?_
    rw [e1]
    refine G_i2l 552 hC dL_law_552 ?_
    refine G_bipush 553 hC (nI 32) (by decide) dL_law_553 ?_
    refine G_lshl 555 hC dL_law_555 ?_
    refine G_aload_n 556 hC rfl dL_law_556 ?_
    refine G_iload_n 557 hC rfl dL_law_557 ?_
    refine G_iconst 558 hC (nI 4) (by decide) dL_law_558 ?_
    refine G_iaddN 559 hC dL_law_559 ?_
    refine G_iald 560 hC e3 (Or.inr rfl) rfl (by omega) hln dL_law_560 ?_
    rw [e1]
    refine G_i2l 561 hC dL_law_561 ?_
    refine G_ldc2 562 hC kc_L_30 dL_law_562 ?_
    refine G_land 565 hC dL_law_565 ?_
    refine G_lor 566 hC dL_law_566 ?_
    refine G_aload_n 567 hC rfl dL_law_567 ?_
    refine G_iload_n 568 hC rfl dL_law_568 ?_
    refine G_iconst 569 hC (nI 5) (by decide) dL_law_569 ?_
    refine G_iaddN 570 hC dL_law_570 ?_
    refine G_iald 571 hC e3 (Or.inr rfl) rfl (by omega) hln dL_law_571 ?_
    rw [e1]
    refine G_aload_n 572 hC rfl dL_law_572 ?_
    refine G_iload_n 573 hC rfl dL_law_573 ?_
    refine G_bipush 574 hC (nI 6) (by decide) dL_law_574 ?_
    refine G_iaddN 576 hC dL_law_576 ?_
    refine G_iald 577 hC e3 (Or.inr rfl) rfl (by omega) hln dL_law_577 ?_
    rw [e1]
    refine G_aload_n 578 hC rfl dL_law_578 ?_
    refine G_iload_n 579 hC rfl dL_law_579 ?_
    refine G_bipush 580 hC (nI 7) (by decide) dL_law_580 ?_
    refine G_iaddN 582 hC dL_law_582 ?_
    refine G_iald 583 hC e3 (Or.inr rfl) rfl (by omega) hln dL_law_583 ?_
    rw [e1]
    refine G_callV1 584 hC h5 okX12_way lk_L_56 hsR rfl rfl rfl rfl (Nat.le_of_ble_eq_true rfl) ⟨by decide, by decide⟩ ⟨Nat.le_trans (Nat.add_le_add hk h1) (show 137 + 26 * i + 26 ≤ 600000 by omega), Nat.le_trans (Nat.add_le_add hks h2) (show 11254 + 182 * i + 182 ≤ 7302250 by omega)⟩ dL_law_584 ?_
    refine G_icmp_eq 587 1108 hC dL_law_587 (by decide) (fun _ => ?_) (fun hne => absurd rfl hne)
    exact next I2 L2 N1 _ _ h6 e3 (by omega) (by omega) e2
  · obtain ⟨v, mc, ms, I1, L1, N1, I2, L2, h1, h2, h3, h4, h5, h6⟩ := j_way (l := l) (D := D) (B := B) (z := nI 1) (p := (I b (2 + 8 * i + 2))) (a := LNG (I b (2 + 8 * i + 3)) (I b (2 + 8 * i + 4))) (f := (I b (2 + 8 * i + 5))) (nd := (I b (2 + 8 * i + 6))) (bd := (I b (2 + 8 * i + 7))) hV hZ
    have e1 : I1 b = I b := (h3 b hb).1
    have e2 : I2 b = I b := (h3 b hb).2.1
    have e3 : N1.2.1 b = (20, len) := (h3 b hb).2.2.trans hs
    have hsR : N1.2.1 (X + 111 + 0) = (11, 36) := GInv.ref h6
    refine G_aload_n 469 hC rfl dL_law_469 ?_
    refine G_aload_n 470 hC rfl dL_law_470 ?_
    refine G_iload_n 471 hC rfl dL_law_471 ?_
    refine G_iconst 472 hC (nI 1) (by decide) dL_law_472 ?_
    refine G_iaddN 473 hC dL_law_473 ?_
    refine G_iald 474 hC hs (Or.inr rfl) rfl (by omega) hln dL_law_474 ?_
    refine G_if_eq 475 482 hC dL_law_475 (by decide) (fun h => absurd h hz) (fun _ => ?_)
    refine G_iconst 478 hC (nI 1) (by decide) dL_law_478 ?_
    refine G_goto 479 483 hC dL_law_479 (by decide) ?_
    refine G_aload_n 483 hC rfl dL_law_483 ?_
    refine G_iload_n 484 hC rfl dL_law_484 ?_
    refine G_iconst 485 hC (nI 2) (by decide) dL_law_485 ?_
    refine G_iaddN 486 hC dL_law_486 ?_
    refine G_iald 487 hC hs (Or.inr rfl) rfl (by omega) hln dL_law_487 ?_
    refine G_aload_n 488 hC rfl dL_law_488 ?_
    refine G_iload_n 489 hC rfl dL_law_489 ?_
    refine G_iconst 490 hC (nI 3) (by decide) dL_law_490 ?_
    refine G_iaddN 491 hC dL_law_491 ?_
    refine G_iald 492 hC hs (Or.inr rfl) rfl (by omega) hln dL_law_492 ?_
    refine G_i2l 493 hC dL_law_493 ?_
    refine G_bipush 494 hC (nI 32) (by decide) dL_law_494 ?_
    refine G_lshl 496 hC dL_law_496 ?_
    refine G_aload_n 497 hC rfl dL_law_497 ?_
    refine G_iload_n 498 hC rfl dL_law_498 ?_
    refine G_iconst 499 hC (nI 4) (by decide) dL_law_499 ?_
    refine G_iaddN 500 hC dL_law_500 ?_
    refine G_iald 501 hC hs (Or.inr rfl) rfl (by omega) hln dL_law_501 ?_
    refine G_i2l 502 hC dL_law_502 ?_
    refine G_ldc2 503 hC kc_L_30 dL_law_503 ?_
    refine G_land 506 hC dL_law_506 ?_
    refine G_lor 507 hC dL_law_507 ?_
    refine G_aload_n 508 hC rfl dL_law_508 ?_
    refine G_iload_n 509 hC rfl dL_law_509 ?_
    refine G_iconst 510 hC (nI 5) (by decide) dL_law_510 ?_
    refine G_iaddN 511 hC dL_law_511 ?_
    refine G_iald 512 hC hs (Or.inr rfl) rfl (by omega) hln dL_law_512 ?_
    refine G_aload_n 513 hC rfl dL_law_513 ?_
    refine G_iload_n 514 hC rfl dL_law_514 ?_
    refine G_bipush 515 hC (nI 6) (by decide) dL_law_515 ?_
    refine G_iaddN 517 hC dL_law_517 ?_
    refine G_iald 518 hC hs (Or.inr rfl) rfl (by omega) hln dL_law_518 ?_
    refine G_aload_n 519 hC rfl dL_law_519 ?_
    refine G_iload_n 520 hC rfl dL_law_520 ?_
    refine G_bipush 521 hC (nI 7) (by decide) dL_law_521 ?_
    refine G_iaddN 523 hC dL_law_523 ?_
    refine G_iald 524 hC hs (Or.inr rfl) rfl (by omega) hln dL_law_524 ?_
    refine G_callVn 525 hC h4 okX11_way lk_L_52 hsX rfl rfl rfl rfl (Nat.le_of_ble_eq_true rfl) ⟨by decide, by decide⟩ ⟨Nat.le_trans (Nat.add_le_add hk h1) (show 137 + 26 * i + 26 ≤ 600000 by omega), Nat.le_trans (Nat.add_le_add hks h2) (show 11254 + 182 * i + 182 ≤ 7302250 by omega)⟩ dL_law_525 ?_
    refine G_aload_n 528 hC rfl dL_law_528 ?_
    refine G_aload_n 529 hC rfl dL_law_529 ?_
    refine G_iload_n 530 hC rfl dL_law_530 ?_
    refine G_iconst 531 hC (nI 1) (by decide) dL_law_531 ?_
    refine G_iaddN 532 hC dL_law_532 ?_
    refine G_iald 533 hC e3 (Or.inr rfl) rfl (by omega) hln dL_law_533 ?_
    rw [e1]
    refine G_if_eq 534 541 hC dL_law_534 (by decide) (fun h => absurd h hz) (fun _ => ?_)
    refine G_iconst 537 hC (nI 1) (by decide) dL_law_537 ?_
    refine G_goto 538 542 hC dL_law_538 (by decide) ?_
    refine G_aload_n 542 hC rfl dL_law_542 ?_
    refine G_iload_n 543 hC rfl dL_law_543 ?_
    refine G_iconst 544 hC (nI 2) (by decide) dL_law_544 ?_
    refine G_iaddN 545 hC dL_law_545 ?_
    refine G_iald 546 hC e3 (Or.inr rfl) rfl (by omega) hln dL_law_546 ?_
    rw [e1]
    refine G_aload_n 547 hC rfl dL_law_547 ?_
    refine G_iload_n 548 hC rfl dL_law_548 ?_
    refine G_iconst 549 hC (nI 3) (by decide) dL_law_549 ?_
    refine G_iaddN 550 hC dL_law_550 ?_
    refine G_iald 551 hC e3 (Or.inr rfl) rfl (by omega) hln dL_law_551 ?_
    rw [e1]
    refine G_i2l 552 hC dL_law_552 ?_
    refine G_bipush 553 hC (nI 32) (by decide) dL_law_553 ?_
    refine G_lshl 555 hC dL_law_555 ?_
    refine G_aload_n 556 hC rfl dL_law_556 ?_
    refine G_iload_n 557 hC rfl dL_law_557 ?_
    refine G_iconst 558 hC (nI 4) (by decide) dL_law_558 ?_
    refine G_iaddN 559 hC dL_law_559 ?_
    refine G_iald 560 hC e3 (Or.inr rfl) rfl (by omega) hln dL_law_560 ?_
    rw [e1]
    refine G_i2l 561 hC dL_law_561 ?_
    refine G_ldc2 562 hC kc_L_30 dL_law_562 ?_
    refine G_land 565 hC dL_law_565 ?_
    refine G_lor 566 hC dL_law_566 ?_
    refine G_aload_n 567 hC rfl dL_law_567 ?_
    refine G_iload_n 568 hC rfl dL_law_568 ?_
    refine G_iconst 569 hC (nI 5) (by decide) dL_law_569 ?_
    refine G_iaddN 570 hC dL_law_570 ?_
    refine G_iald 571 hC e3 (Or.inr rfl) rfl (by omega) hln dL_law_571 ?_
    rw [e1]
    refine G_aload_n 572 hC rfl dL_law_572 ?_
    refine G_iload_n 573 hC rfl dL_law_573 ?_
    refine G_bipush 574 hC (nI 6) (by decide) dL_law_574 ?_
    refine G_iaddN 576 hC dL_law_576 ?_
    refine G_iald 577 hC e3 (Or.inr rfl) rfl (by omega) hln dL_law_577 ?_
    rw [e1]
    refine G_aload_n 578 hC rfl dL_law_578 ?_
    refine G_iload_n 579 hC rfl dL_law_579 ?_
    refine G_bipush 580 hC (nI 7) (by decide) dL_law_580 ?_
    refine G_iaddN 582 hC dL_law_582 ?_
    refine G_iald 583 hC e3 (Or.inr rfl) rfl (by omega) hln dL_law_583 ?_
    rw [e1]
    refine G_callV1 584 hC h5 okX12_way lk_L_56 hsR rfl rfl rfl rfl (Nat.le_of_ble_eq_true rfl) ⟨by decide, by decide⟩ ⟨Nat.le_trans (Nat.add_le_add hk h1) (show 137 + 26 * i + 26 ≤ 600000 by omega), Nat.le_trans (Nat.add_le_add hks h2) (show 11254 + 182 * i + 182 ≤ 7302250 by omega)⟩ dL_law_584 ?_
    refine G_icmp_eq 587 1108 hC dL_law_587 (by decide) (fun _ => ?_) (fun hne => absurd rfl hne)
    exact next I2 L2 N1 _ _ h6 e3 (by omega) (by omega) e2
theorem w_reader (hC : Cx l D B RL cL_law 4 mn RR g) (hG : GInv X i N I L) (hi : i ≤ 520) (hs : N.2.1 b = (20, len)) (hb : b < X) (hl : 2 + 8 * i + 8 ≤ len) (hln : len < 2 ^ 31) (hk : kc ≤ 137 + 26 * i) (hks : ks ≤ 11254 + 182 * i) (next : NextR g X b len i I) : g 592 [some (vr (some b)), some (vr (some X)), some (vr (some (X + 111 + 0))), some (vi (nI (2 + 8 * i)))] [] I L N kc ks := by
  refine G_zero hC (fun hZ => ?_)
  obtain ⟨ng, nt, ns, mem, nth, sc, nl, r, rl, n, q, S, k, kl, LA, hV⟩ := hG
  have hsX : N.2.1 X = (10, 6) := hV.1.1.1.sh
  by_cases hz : I b (2 + 8 * i + 1) = 0
  · obtain ⟨v, mc, ms, I1, L1, N1, I2, L2, h1, h2, h3, h4, h5, h6⟩ := j_reader (l := l) (D := D) (B := B) (z := nI 0) (x := (I b (2 + 8 * i + 2))) (kd := (I b (2 + 8 * i + 3))) (nd := (I b (2 + 8 * i + 4))) (bd := (I b (2 + 8 * i + 5))) hV hZ
    have e1 : I1 b = I b := (h3 b hb).1
    have e2 : I2 b = I b := (h3 b hb).2.1
    have e3 : N1.2.1 b = (20, len) := (h3 b hb).2.2.trans hs
    have hsR : N1.2.1 (X + 111 + 0) = (11, 36) := GInv.ref h6
    refine G_aload_n 592 hC rfl dL_law_592 ?_
    refine G_aload_n 593 hC rfl dL_law_593 ?_
    refine G_iload_n 594 hC rfl dL_law_594 ?_
    refine G_iconst 595 hC (nI 1) (by decide) dL_law_595 ?_
    refine G_iaddN 596 hC dL_law_596 ?_
    refine G_iald 597 hC hs (Or.inr rfl) rfl (by omega) hln dL_law_597 ?_
    refine G_if_eq 598 605 hC dL_law_598 (by decide) (fun _ => ?_) (fun h => absurd hz h)
    refine G_iconst 605 hC (nI 0) (by decide) dL_law_605 ?_
    refine G_aload_n 606 hC rfl dL_law_606 ?_
    refine G_iload_n 607 hC rfl dL_law_607 ?_
    refine G_iconst 608 hC (nI 2) (by decide) dL_law_608 ?_
    refine G_iaddN 609 hC dL_law_609 ?_
    refine G_iald 610 hC hs (Or.inr rfl) rfl (by omega) hln dL_law_610 ?_
    refine G_aload_n 611 hC rfl dL_law_611 ?_
    refine G_iload_n 612 hC rfl dL_law_612 ?_
    refine G_iconst 613 hC (nI 3) (by decide) dL_law_613 ?_
    refine G_iaddN 614 hC dL_law_614 ?_
    refine G_iald 615 hC hs (Or.inr rfl) rfl (by omega) hln dL_law_615 ?_
    refine G_aload_n 616 hC rfl dL_law_616 ?_
    refine G_iload_n 617 hC rfl dL_law_617 ?_
    refine G_iconst 618 hC (nI 4) (by decide) dL_law_618 ?_
    refine G_iaddN 619 hC dL_law_619 ?_
    refine G_iald 620 hC hs (Or.inr rfl) rfl (by omega) hln dL_law_620 ?_
    refine G_aload_n 621 hC rfl dL_law_621 ?_
    refine G_iload_n 622 hC rfl dL_law_622 ?_
    refine G_iconst 623 hC (nI 5) (by decide) dL_law_623 ?_
    refine G_iaddN 624 hC dL_law_624 ?_
    refine G_iald 625 hC hs (Or.inr rfl) rfl (by omega) hln dL_law_625 ?_
    refine G_callVn 626 hC h4 okX11_reader lk_L_57 hsX rfl rfl rfl rfl (Nat.le_of_ble_eq_true rfl) ⟨by decide, by decide⟩ ⟨Nat.le_trans (Nat.add_le_add hk h1) (show 137 + 26 * i + 26 ≤ 600000 by omega), Nat.le_trans (Nat.add_le_add hks h2) (show 11254 + 182 * i + 182 ≤ 7302250 by omega)⟩ dL_law_626 ?_
    refine G_aload_n 629 hC rfl dL_law_629 ?_
    refine G_aload_n 630 hC rfl dL_law_630 ?_
    refine G_iload_n 631 hC rfl dL_law_631 ?_
    refine G_iconst 632 hC (nI 1) (by decide) dL_law_632 ?_
    refine G_iaddN 633 hC dL_law_633 ?_
    refine G_iald 634 hC e3 (Or.inr rfl) rfl (by omega) hln dL_law_634 ?_
    rw [e1]
    refine G_if_eq 635 642 hC dL_law_635 (by decide) (fun _ => ?_) (fun h => absurd hz h)
    refine G_iconst 642 hC (nI 0) (by decide) dL_law_642 ?_
    refine G_aload_n 643 hC rfl dL_law_643 ?_
    refine G_iload_n 644 hC rfl dL_law_644 ?_
    refine G_iconst 645 hC (nI 2) (by decide) dL_law_645 ?_
    refine G_iaddN 646 hC dL_law_646 ?_
    refine G_iald 647 hC e3 (Or.inr rfl) rfl (by omega) hln dL_law_647 ?_
    rw [e1]
    refine G_aload_n 648 hC rfl dL_law_648 ?_
    refine G_iload_n 649 hC rfl dL_law_649 ?_
    refine G_iconst 650 hC (nI 3) (by decide) dL_law_650 ?_
    refine G_iaddN 651 hC dL_law_651 ?_
    refine G_iald 652 hC e3 (Or.inr rfl) rfl (by omega) hln dL_law_652 ?_
    rw [e1]
    refine G_aload_n 653 hC rfl dL_law_653 ?_
    refine G_iload_n 654 hC rfl dL_law_654 ?_
    refine G_iconst 655 hC (nI 4) (by decide) dL_law_655 ?_
    refine G_iaddN 656 hC dL_law_656 ?_
    refine G_iald 657 hC e3 (Or.inr rfl) rfl (by omega) hln dL_law_657 ?_
    rw [e1]
    refine G_aload_n 658 hC rfl dL_law_658 ?_
    refine G_iload_n 659 hC rfl dL_law_659 ?_
    refine G_iconst 660 hC (nI 5) (by decide) dL_law_660 ?_
    refine G_iaddN 661 hC dL_law_661 ?_
    refine G_iald 662 hC e3 (Or.inr rfl) rfl (by omega) hln dL_law_662 ?_
    rw [e1]
    refine G_callV1 663 hC h5 okX12_reader lk_L_61 hsR rfl rfl rfl rfl (Nat.le_of_ble_eq_true rfl) ⟨by decide, by decide⟩ ⟨Nat.le_trans (Nat.add_le_add hk h1) (show 137 + 26 * i + 26 ≤ 600000 by omega), Nat.le_trans (Nat.add_le_add hks h2) (show 11254 + 182 * i + 182 ≤ 7302250 by omega)⟩ dL_law_663 ?_
    refine G_icmp_eq 666 1108 hC dL_law_666 (by decide) (fun _ => ?_) (fun hne => absurd rfl hne)
    exact next I2 L2 N1 _ _ h6 e3 (by omega) (by omega) e2
  · obtain ⟨v, mc, ms, I1, L1, N1, I2, L2, h1, h2, h3, h4, h5, h6⟩ := j_reader (l := l) (D := D) (B := B) (z := nI 1) (x := (I b (2 + 8 * i + 2))) (kd := (I b (2 + 8 * i + 3))) (nd := (I b (2 + 8 * i + 4))) (bd := (I b (2 + 8 * i + 5))) hV hZ
    have e1 : I1 b = I b := (h3 b hb).1
    have e2 : I2 b = I b := (h3 b hb).2.1
    have e3 : N1.2.1 b = (20, len) := (h3 b hb).2.2.trans hs
    have hsR : N1.2.1 (X + 111 + 0) = (11, 36) := GInv.ref h6
    refine G_aload_n 592 hC rfl dL_law_592 ?_
    refine G_aload_n 593 hC rfl dL_law_593 ?_
    refine G_iload_n 594 hC rfl dL_law_594 ?_
    refine G_iconst 595 hC (nI 1) (by decide) dL_law_595 ?_
    refine G_iaddN 596 hC dL_law_596 ?_
    refine G_iald 597 hC hs (Or.inr rfl) rfl (by omega) hln dL_law_597 ?_
    refine G_if_eq 598 605 hC dL_law_598 (by decide) (fun h => absurd h hz) (fun _ => ?_)
    refine G_iconst 601 hC (nI 1) (by decide) dL_law_601 ?_
    refine G_goto 602 606 hC dL_law_602 (by decide) ?_
    refine G_aload_n 606 hC rfl dL_law_606 ?_
    refine G_iload_n 607 hC rfl dL_law_607 ?_
    refine G_iconst 608 hC (nI 2) (by decide) dL_law_608 ?_
    refine G_iaddN 609 hC dL_law_609 ?_
    refine G_iald 610 hC hs (Or.inr rfl) rfl (by omega) hln dL_law_610 ?_
    refine G_aload_n 611 hC rfl dL_law_611 ?_
    refine G_iload_n 612 hC rfl dL_law_612 ?_
    refine G_iconst 613 hC (nI 3) (by decide) dL_law_613 ?_
    refine G_iaddN 614 hC dL_law_614 ?_
    refine G_iald 615 hC hs (Or.inr rfl) rfl (by omega) hln dL_law_615 ?_
    refine G_aload_n 616 hC rfl dL_law_616 ?_
    refine G_iload_n 617 hC rfl dL_law_617 ?_
    refine G_iconst 618 hC (nI 4) (by decide) dL_law_618 ?_
    refine G_iaddN 619 hC dL_law_619 ?_
    refine G_iald 620 hC hs (Or.inr rfl) rfl (by omega) hln dL_law_620 ?_
    refine G_aload_n 621 hC rfl dL_law_621 ?_
    refine G_iload_n 622 hC rfl dL_law_622 ?_
    refine G_iconst 623 hC (nI 5) (by decide) dL_law_623 ?_
    refine G_iaddN 624 hC dL_law_624 ?_
    refine G_iald 625 hC hs (Or.inr rfl) rfl (by omega) hln dL_law_625 ?_
    refine G_callVn 626 hC h4 okX11_reader lk_L_57 hsX rfl rfl rfl rfl (Nat.le_of_ble_eq_true rfl) ⟨by decide, by decide⟩ ⟨Nat.le_trans (Nat.add_le_add hk h1) (show 137 + 26 * i + 26 ≤ 600000 by omega), Nat.le_trans (Nat.add_le_add hks h2) (show 11254 + 182 * i + 182 ≤ 7302250 by omega)⟩ dL_law_626 ?_
    refine G_aload_n 629 hC rfl dL_law_629 ?_
    refine G_aload_n 630 hC rfl dL_law_630 ?_
    refine G_iload_n 631 hC rfl dL_law_631 ?_
    refine G_iconst 632 hC (nI 1) (by decide) dL_law_632 ?_
    refine G_iaddN 633 hC dL_law_633 ?_
    refine G_iald 634 hC e3 (Or.inr rfl) rfl (by omega) hln dL_law_634 ?_
    rw [e1]
    refine G_if_eq 635 642 hC dL_law_635 (by decide) (fun h => absurd h hz) (fun _ => ?_)
    refine G_iconst 638 hC (nI 1) (by decide) dL_law_638 ?_
    refine G_goto 639 643 hC dL_law_639 (by decide) ?_
    refine G_aload_n 643 hC rfl dL_law_643 ?_
    refine G_iload_n 644 hC rfl dL_law_644 ?_
    refine G_iconst 645 hC (nI 2) (by decide) dL_law_645 ?_
    refine G_iaddN 646 hC dL_law_646 ?_
    refine G_iald 647 hC e3 (Or.inr rfl) rfl (by omega) hln dL_law_647 ?_
    rw [e1]
    refine G_aload_n 648 hC rfl dL_law_648 ?_
    refine G_iload_n 649 hC rfl dL_law_649 ?_
    refine G_iconst 650 hC (nI 3) (by decide) dL_law_650 ?_
    refine G_iaddN 651 hC dL_law_651 ?_
    refine G_iald 652 hC e3 (Or.inr rfl) rfl (by omega) hln dL_law_652 ?_
    rw [e1]
    refine G_aload_n 653 hC rfl dL_law_653 ?_
    refine G_iload_n 654 hC rfl dL_law_654 ?_
    refine G_iconst 655 hC (nI 4) (by decide) dL_law_655 ?_
    refine G_iaddN 656 hC dL_law_656 ?_
    refine G_iald 657 hC e3 (Or.inr rfl) rfl (by omega) hln dL_law_657 ?_
    rw [e1]
    refine G_aload_n 658 hC rfl dL_law_658 ?_
    refine G_iload_n 659 hC rfl dL_law_659 ?_
    refine G_iconst 660 hC (nI 5) (by decide) dL_law_660 ?_
    refine G_iaddN 661 hC dL_law_661 ?_
    refine G_iald 662 hC e3 (Or.inr rfl) rfl (by omega) hln dL_law_662 ?_
    rw [e1]
    refine G_callV1 663 hC h5 okX12_reader lk_L_61 hsR rfl rfl rfl rfl (Nat.le_of_ble_eq_true rfl) ⟨by decide, by decide⟩ ⟨Nat.le_trans (Nat.add_le_add hk h1) (show 137 + 26 * i + 26 ≤ 600000 by omega), Nat.le_trans (Nat.add_le_add hks h2) (show 11254 + 182 * i + 182 ≤ 7302250 by omega)⟩ dL_law_663 ?_
    refine G_icmp_eq 666 1108 hC dL_law_666 (by decide) (fun _ => ?_) (fun hne => absurd rfl hne)
    exact next I2 L2 N1 _ _ h6 e3 (by omega) (by omega) e2
theorem w_search (hC : Cx l D B RL cL_law 4 mn RR g) (hG : GInv X i N I L) (hi : i ≤ 520) (hs : N.2.1 b = (20, len)) (hb : b < X) (hl : 2 + 8 * i + 8 ≤ len) (hln : len < 2 ^ 31) (hk : kc ≤ 137 + 26 * i) (hks : ks ≤ 11254 + 182 * i) (next : NextR g X b len i I) : g 671 [some (vr (some b)), some (vr (some X)), some (vr (some (X + 111 + 0))), some (vi (nI (2 + 8 * i)))] [] I L N kc ks := by
  refine G_zero hC (fun hZ => ?_)
  obtain ⟨ng, nt, ns, mem, nth, sc, nl, r, rl, n, q, S, k, kl, LA, hV⟩ := hG
  have hsX : N.2.1 X = (10, 6) := hV.1.1.1.sh
  obtain ⟨v, mc, ms, I1, L1, N1, I2, L2, h1, h2, h3, h4, h5, h6⟩ := j_search (l := l) (D := D) (B := B) (x := (I b (2 + 8 * i + 1))) (kd := (I b (2 + 8 * i + 2))) (dv := (I b (2 + 8 * i + 3))) (lm := LNG (I b (2 + 8 * i + 4)) (I b (2 + 8 * i + 5))) hV hZ
  have e1 : I1 b = I b := (h3 b hb).1
  have e2 : I2 b = I b := (h3 b hb).2.1
  have e3 : N1.2.1 b = (20, len) := (h3 b hb).2.2.trans hs
  have hsR : N1.2.1 (X + 111 + 0) = (11, 36) := GInv.ref h6
  refine G_aload_n 671 hC rfl dL_law_671 ?_
  refine G_aload_n 672 hC rfl dL_law_672 ?_
  refine G_iload_n 673 hC rfl dL_law_673 ?_
  refine G_iconst 674 hC (nI 1) (by decide) dL_law_674 ?_
  refine G_iaddN 675 hC dL_law_675 ?_
  refine G_iald 676 hC hs (Or.inr rfl) rfl (by omega) hln dL_law_676 ?_
  refine G_aload_n 677 hC rfl dL_law_677 ?_
  refine G_iload_n 678 hC rfl dL_law_678 ?_
  refine G_iconst 679 hC (nI 2) (by decide) dL_law_679 ?_
  refine G_iaddN 680 hC dL_law_680 ?_
  refine G_iald 681 hC hs (Or.inr rfl) rfl (by omega) hln dL_law_681 ?_
  refine G_aload_n 682 hC rfl dL_law_682 ?_
  refine G_iload_n 683 hC rfl dL_law_683 ?_
  refine G_iconst 684 hC (nI 3) (by decide) dL_law_684 ?_
  refine G_iaddN 685 hC dL_law_685 ?_
  refine G_iald 686 hC hs (Or.inr rfl) rfl (by omega) hln dL_law_686 ?_
  refine G_aload_n 687 hC rfl dL_law_687 ?_
  refine G_iload_n 688 hC rfl dL_law_688 ?_
  refine G_iconst 689 hC (nI 4) (by decide) dL_law_689 ?_
  refine G_iaddN 690 hC dL_law_690 ?_
  refine G_iald 691 hC hs (Or.inr rfl) rfl (by omega) hln dL_law_691 ?_
  refine G_i2l 692 hC dL_law_692 ?_
  refine G_bipush 693 hC (nI 32) (by decide) dL_law_693 ?_
  refine G_lshl 695 hC dL_law_695 ?_
  refine G_aload_n 696 hC rfl dL_law_696 ?_
  refine G_iload_n 697 hC rfl dL_law_697 ?_
  refine G_iconst 698 hC (nI 5) (by decide) dL_law_698 ?_
  refine G_iaddN 699 hC dL_law_699 ?_
  refine G_iald 700 hC hs (Or.inr rfl) rfl (by omega) hln dL_law_700 ?_
  refine G_i2l 701 hC dL_law_701 ?_
  refine G_ldc2 702 hC kc_L_30 dL_law_702 ?_
  refine G_land 705 hC dL_law_705 ?_
  refine G_lor 706 hC dL_law_706 ?_
  refine G_callVn 707 hC h4 okX11_search lk_L_62 hsX rfl rfl rfl rfl (Nat.le_of_ble_eq_true rfl) ⟨by decide, by decide⟩ ⟨Nat.le_trans (Nat.add_le_add hk h1) (show 137 + 26 * i + 26 ≤ 600000 by omega), Nat.le_trans (Nat.add_le_add hks h2) (show 11254 + 182 * i + 182 ≤ 7302250 by omega)⟩ dL_law_707 ?_
  refine G_aload_n 710 hC rfl dL_law_710 ?_
  refine G_aload_n 711 hC rfl dL_law_711 ?_
  refine G_iload_n 712 hC rfl dL_law_712 ?_
  refine G_iconst 713 hC (nI 1) (by decide) dL_law_713 ?_
  refine G_iaddN 714 hC dL_law_714 ?_
  refine G_iald 715 hC e3 (Or.inr rfl) rfl (by omega) hln dL_law_715 ?_
  rw [e1]
  refine G_aload_n 716 hC rfl dL_law_716 ?_
  refine G_iload_n 717 hC rfl dL_law_717 ?_
  refine G_iconst 718 hC (nI 2) (by decide) dL_law_718 ?_
  refine G_iaddN 719 hC dL_law_719 ?_
  refine G_iald 720 hC e3 (Or.inr rfl) rfl (by omega) hln dL_law_720 ?_
  rw [e1]
  refine G_aload_n 721 hC rfl dL_law_721 ?_
  refine G_iload_n 722 hC rfl dL_law_722 ?_
  refine G_iconst 723 hC (nI 3) (by decide) dL_law_723 ?_
  refine G_iaddN 724 hC dL_law_724 ?_
  refine G_iald 725 hC e3 (Or.inr rfl) rfl (by omega) hln dL_law_725 ?_
  rw [e1]
  refine G_aload_n 726 hC rfl dL_law_726 ?_
  refine G_iload_n 727 hC rfl dL_law_727 ?_
  refine G_iconst 728 hC (nI 4) (by decide) dL_law_728 ?_
  refine G_iaddN 729 hC dL_law_729 ?_
  refine G_iald 730 hC e3 (Or.inr rfl) rfl (by omega) hln dL_law_730 ?_
  rw [e1]
  refine G_i2l 731 hC dL_law_731 ?_
  refine G_bipush 732 hC (nI 32) (by decide) dL_law_732 ?_
  refine G_lshl 734 hC dL_law_734 ?_
  refine G_aload_n 735 hC rfl dL_law_735 ?_
  refine G_iload_n 736 hC rfl dL_law_736 ?_
  refine G_iconst 737 hC (nI 5) (by decide) dL_law_737 ?_
  refine G_iaddN 738 hC dL_law_738 ?_
  refine G_iald 739 hC e3 (Or.inr rfl) rfl (by omega) hln dL_law_739 ?_
  rw [e1]
  refine G_i2l 740 hC dL_law_740 ?_
  refine G_ldc2 741 hC kc_L_30 dL_law_741 ?_
  refine G_land 744 hC dL_law_744 ?_
  refine G_lor 745 hC dL_law_745 ?_
  refine G_callV1 746 hC h5 okX12_search lk_L_65 hsR rfl rfl rfl rfl (Nat.le_of_ble_eq_true rfl) ⟨by decide, by decide⟩ ⟨Nat.le_trans (Nat.add_le_add hk h1) (show 137 + 26 * i + 26 ≤ 600000 by omega), Nat.le_trans (Nat.add_le_add hks h2) (show 11254 + 182 * i + 182 ≤ 7302250 by omega)⟩ dL_law_746 ?_
  refine G_icmp_eq 749 1108 hC dL_law_749 (by decide) (fun _ => ?_) (fun hne => absurd rfl hne)
  exact next I2 L2 N1 _ _ h6 e3 (by omega) (by omega) e2
theorem w_share (hC : Cx l D B RL cL_law 4 mn RR g) (hG : GInv X i N I L) (hi : i ≤ 520) (hs : N.2.1 b = (20, len)) (hb : b < X) (hl : 2 + 8 * i + 8 ≤ len) (hln : len < 2 ^ 31) (hk : kc ≤ 137 + 26 * i) (hks : ks ≤ 11254 + 182 * i) (next : NextR g X b len i I) : g 754 [some (vr (some b)), some (vr (some X)), some (vr (some (X + 111 + 0))), some (vi (nI (2 + 8 * i)))] [] I L N kc ks := by
  refine G_zero hC (fun hZ => ?_)
  obtain ⟨ng, nt, ns, mem, nth, sc, nl, r, rl, n, q, S, k, kl, LA, hV⟩ := hG
  have hsX : N.2.1 X = (10, 6) := hV.1.1.1.sh
  obtain ⟨v, mc, ms, I1, L1, N1, I2, L2, h1, h2, h3, h4, h5, h6⟩ := j_share (l := l) (D := D) (B := B) (x := (I b (2 + 8 * i + 1))) (fr := (I b (2 + 8 * i + 2))) (to := (I b (2 + 8 * i + 3))) (nd := (I b (2 + 8 * i + 4))) (bd := (I b (2 + 8 * i + 5))) hV hZ
  have e1 : I1 b = I b := (h3 b hb).1
  have e2 : I2 b = I b := (h3 b hb).2.1
  have e3 : N1.2.1 b = (20, len) := (h3 b hb).2.2.trans hs
  have hsR : N1.2.1 (X + 111 + 0) = (11, 36) := GInv.ref h6
  refine G_aload_n 754 hC rfl dL_law_754 ?_
  refine G_aload_n 755 hC rfl dL_law_755 ?_
  refine G_iload_n 756 hC rfl dL_law_756 ?_
  refine G_iconst 757 hC (nI 1) (by decide) dL_law_757 ?_
  refine G_iaddN 758 hC dL_law_758 ?_
  refine G_iald 759 hC hs (Or.inr rfl) rfl (by omega) hln dL_law_759 ?_
  refine G_aload_n 760 hC rfl dL_law_760 ?_
  refine G_iload_n 761 hC rfl dL_law_761 ?_
  refine G_iconst 762 hC (nI 2) (by decide) dL_law_762 ?_
  refine G_iaddN 763 hC dL_law_763 ?_
  refine G_iald 764 hC hs (Or.inr rfl) rfl (by omega) hln dL_law_764 ?_
  refine G_aload_n 765 hC rfl dL_law_765 ?_
  refine G_iload_n 766 hC rfl dL_law_766 ?_
  refine G_iconst 767 hC (nI 3) (by decide) dL_law_767 ?_
  refine G_iaddN 768 hC dL_law_768 ?_
  refine G_iald 769 hC hs (Or.inr rfl) rfl (by omega) hln dL_law_769 ?_
  refine G_aload_n 770 hC rfl dL_law_770 ?_
  refine G_iload_n 771 hC rfl dL_law_771 ?_
  refine G_iconst 772 hC (nI 4) (by decide) dL_law_772 ?_
  refine G_iaddN 773 hC dL_law_773 ?_
  refine G_iald 774 hC hs (Or.inr rfl) rfl (by omega) hln dL_law_774 ?_
  refine G_aload_n 775 hC rfl dL_law_775 ?_
  refine G_iload_n 776 hC rfl dL_law_776 ?_
  refine G_iconst 777 hC (nI 5) (by decide) dL_law_777 ?_
  refine G_iaddN 778 hC dL_law_778 ?_
  refine G_iald 779 hC hs (Or.inr rfl) rfl (by omega) hln dL_law_779 ?_
  refine G_callVn 780 hC h4 okX11_share lk_L_66 hsX rfl rfl rfl rfl (Nat.le_of_ble_eq_true rfl) ⟨by decide, by decide⟩ ⟨Nat.le_trans (Nat.add_le_add hk h1) (show 137 + 26 * i + 26 ≤ 600000 by omega), Nat.le_trans (Nat.add_le_add hks h2) (show 11254 + 182 * i + 182 ≤ 7302250 by omega)⟩ dL_law_780 ?_
  refine G_aload_n 783 hC rfl dL_law_783 ?_
  refine G_aload_n 784 hC rfl dL_law_784 ?_
  refine G_iload_n 785 hC rfl dL_law_785 ?_
  refine G_iconst 786 hC (nI 1) (by decide) dL_law_786 ?_
  refine G_iaddN 787 hC dL_law_787 ?_
  refine G_iald 788 hC e3 (Or.inr rfl) rfl (by omega) hln dL_law_788 ?_
  rw [e1]
  refine G_aload_n 789 hC rfl dL_law_789 ?_
  refine G_iload_n 790 hC rfl dL_law_790 ?_
  refine G_iconst 791 hC (nI 2) (by decide) dL_law_791 ?_
  refine G_iaddN 792 hC dL_law_792 ?_
  refine G_iald 793 hC e3 (Or.inr rfl) rfl (by omega) hln dL_law_793 ?_
  rw [e1]
  refine G_aload_n 794 hC rfl dL_law_794 ?_
  refine G_iload_n 795 hC rfl dL_law_795 ?_
  refine G_iconst 796 hC (nI 3) (by decide) dL_law_796 ?_
  refine G_iaddN 797 hC dL_law_797 ?_
  refine G_iald 798 hC e3 (Or.inr rfl) rfl (by omega) hln dL_law_798 ?_
  rw [e1]
  refine G_aload_n 799 hC rfl dL_law_799 ?_
  refine G_iload_n 800 hC rfl dL_law_800 ?_
  refine G_iconst 801 hC (nI 4) (by decide) dL_law_801 ?_
  refine G_iaddN 802 hC dL_law_802 ?_
  refine G_iald 803 hC e3 (Or.inr rfl) rfl (by omega) hln dL_law_803 ?_
  rw [e1]
  refine G_aload_n 804 hC rfl dL_law_804 ?_
  refine G_iload_n 805 hC rfl dL_law_805 ?_
  refine G_iconst 806 hC (nI 5) (by decide) dL_law_806 ?_
  refine G_iaddN 807 hC dL_law_807 ?_
  refine G_iald 808 hC e3 (Or.inr rfl) rfl (by omega) hln dL_law_808 ?_
  rw [e1]
  refine G_callV1 809 hC h5 okX12_share lk_L_70 hsR rfl rfl rfl rfl (Nat.le_of_ble_eq_true rfl) ⟨by decide, by decide⟩ ⟨Nat.le_trans (Nat.add_le_add hk h1) (show 137 + 26 * i + 26 ≤ 600000 by omega), Nat.le_trans (Nat.add_le_add hks h2) (show 11254 + 182 * i + 182 ≤ 7302250 by omega)⟩ dL_law_809 ?_
  refine G_icmp_eq 812 1108 hC dL_law_812 (by decide) (fun _ => ?_) (fun hne => absurd rfl hne)
  exact next I2 L2 N1 _ _ h6 e3 (by omega) (by omega) e2
theorem w_turn (hC : Cx l D B RL cL_law 4 mn RR g) (hG : GInv X i N I L) (hi : i ≤ 520) (hs : N.2.1 b = (20, len)) (hb : b < X) (hl : 2 + 8 * i + 8 ≤ len) (hln : len < 2 ^ 31) (hk : kc ≤ 137 + 26 * i) (hks : ks ≤ 11254 + 182 * i) (next : NextR g X b len i I) : g 817 [some (vr (some b)), some (vr (some X)), some (vr (some (X + 111 + 0))), some (vi (nI (2 + 8 * i)))] [] I L N kc ks := by
  refine G_zero hC (fun hZ => ?_)
  obtain ⟨ng, nt, ns, mem, nth, sc, nl, r, rl, n, q, S, k, kl, LA, hV⟩ := hG
  have hsX : N.2.1 X = (10, 6) := hV.1.1.1.sh
  obtain ⟨v, mc, ms, I1, L1, N1, I2, L2, h1, h2, h3, h4, h5, h6⟩ := j_turn (l := l) (D := D) (B := B) (x := (I b (2 + 8 * i + 1))) hV
  have e1 : I1 b = I b := (h3 b hb).1
  have e2 : I2 b = I b := (h3 b hb).2.1
  have e3 : N1.2.1 b = (20, len) := (h3 b hb).2.2.trans hs
  have hsR : N1.2.1 (X + 111 + 0) = (11, 36) := GInv.ref h6
  refine G_aload_n 817 hC rfl dL_law_817 ?_
  refine G_aload_n 818 hC rfl dL_law_818 ?_
  refine G_iload_n 819 hC rfl dL_law_819 ?_
  refine G_iconst 820 hC (nI 1) (by decide) dL_law_820 ?_
  refine G_iaddN 821 hC dL_law_821 ?_
  refine G_iald 822 hC hs (Or.inr rfl) rfl (by omega) hln dL_law_822 ?_
  refine G_callVn 823 hC h4 okX11_turn lk_L_71 hsX rfl rfl rfl rfl (Nat.le_of_ble_eq_true rfl) ⟨by decide, by decide⟩ ⟨Nat.le_trans (Nat.add_le_add hk h1) (show 137 + 26 * i + 26 ≤ 600000 by omega), Nat.le_trans (Nat.add_le_add hks h2) (show 11254 + 182 * i + 182 ≤ 7302250 by omega)⟩ dL_law_823 ?_
  refine G_aload_n 826 hC rfl dL_law_826 ?_
  refine G_aload_n 827 hC rfl dL_law_827 ?_
  refine G_iload_n 828 hC rfl dL_law_828 ?_
  refine G_iconst 829 hC (nI 1) (by decide) dL_law_829 ?_
  refine G_iaddN 830 hC dL_law_830 ?_
  refine G_iald 831 hC e3 (Or.inr rfl) rfl (by omega) hln dL_law_831 ?_
  rw [e1]
  refine G_callV1 832 hC h5 okX12_turn lk_L_75 hsR rfl rfl rfl rfl (Nat.le_of_ble_eq_true rfl) ⟨by decide, by decide⟩ ⟨Nat.le_trans (Nat.add_le_add hk h1) (show 137 + 26 * i + 26 ≤ 600000 by omega), Nat.le_trans (Nat.add_le_add hks h2) (show 11254 + 182 * i + 182 ≤ 7302250 by omega)⟩ dL_law_832 ?_
  refine G_icmp_eq 835 1108 hC dL_law_835 (by decide) (fun _ => ?_) (fun hne => absurd rfl hne)
  exact next I2 L2 N1 _ _ h6 e3 (by omega) (by omega) e2
theorem w_run (hC : Cx l D B RL cL_law 4 mn RR g) (hG : GInv X i N I L) (hi : i ≤ 520) (hs : N.2.1 b = (20, len)) (hb : b < X) (hl : 2 + 8 * i + 8 ≤ len) (hln : len < 2 ^ 31) (hk : kc ≤ 137 + 26 * i) (hks : ks ≤ 11254 + 182 * i) (next : NextR g X b len i I) : g 840 [some (vr (some b)), some (vr (some X)), some (vr (some (X + 111 + 0))), some (vi (nI (2 + 8 * i)))] [] I L N kc ks := by
  refine G_zero hC (fun hZ => ?_)
  obtain ⟨ng, nt, ns, mem, nth, sc, nl, r, rl, n, q, S, k, kl, LA, hV⟩ := hG
  have hsX : N.2.1 X = (10, 6) := hV.1.1.1.sh
  obtain ⟨v, mc, ms, I1, L1, N1, I2, L2, h1, h2, h3, h4, h5, h6⟩ := j_run (l := l) (D := D) (B := B) (x := (I b (2 + 8 * i + 1))) hV (by omega)
  have e1 : I1 b = I b := (h3 b hb).1
  have e2 : I2 b = I b := (h3 b hb).2.1
  have e3 : N1.2.1 b = (20, len) := (h3 b hb).2.2.trans hs
  have hsR : N1.2.1 (X + 111 + 0) = (11, 36) := GInv.ref h6
  refine G_aload_n 840 hC rfl dL_law_840 ?_
  refine G_aload_n 841 hC rfl dL_law_841 ?_
  refine G_iload_n 842 hC rfl dL_law_842 ?_
  refine G_iconst 843 hC (nI 1) (by decide) dL_law_843 ?_
  refine G_iaddN 844 hC dL_law_844 ?_
  refine G_iald 845 hC hs (Or.inr rfl) rfl (by omega) hln dL_law_845 ?_
  refine G_callVn 846 hC h4 okX11_run lk_L_76 hsX rfl rfl rfl rfl (Nat.le_of_ble_eq_true rfl) ⟨by decide, by decide⟩ ⟨Nat.le_trans (Nat.add_le_add hk h1) (show 137 + 26 * i + 26 ≤ 600000 by omega), Nat.le_trans (Nat.add_le_add hks h2) (show 11254 + 182 * i + 182 ≤ 7302250 by omega)⟩ dL_law_846 ?_
  refine G_aload_n 849 hC rfl dL_law_849 ?_
  refine G_aload_n 850 hC rfl dL_law_850 ?_
  refine G_iload_n 851 hC rfl dL_law_851 ?_
  refine G_iconst 852 hC (nI 1) (by decide) dL_law_852 ?_
  refine G_iaddN 853 hC dL_law_853 ?_
  refine G_iald 854 hC e3 (Or.inr rfl) rfl (by omega) hln dL_law_854 ?_
  rw [e1]
  refine G_callV1 855 hC h5 okX12_run lk_L_79 hsR rfl rfl rfl rfl (Nat.le_of_ble_eq_true rfl) ⟨by decide, by decide⟩ ⟨Nat.le_trans (Nat.add_le_add hk h1) (show 137 + 26 * i + 26 ≤ 600000 by omega), Nat.le_trans (Nat.add_le_add hks h2) (show 11254 + 182 * i + 182 ≤ 7302250 by omega)⟩ dL_law_855 ?_
  refine G_icmp_eq 858 1108 hC dL_law_858 (by decide) (fun _ => ?_) (fun hne => absurd rfl hne)
  exact next I2 L2 N1 _ _ h6 e3 (by omega) (by omega) e2
theorem w_interrupt (hC : Cx l D B RL cL_law 4 mn RR g) (hG : GInv X i N I L) (hi : i ≤ 520) (hs : N.2.1 b = (20, len)) (hb : b < X) (hl : 2 + 8 * i + 8 ≤ len) (hln : len < 2 ^ 31) (hk : kc ≤ 137 + 26 * i) (hks : ks ≤ 11254 + 182 * i) (next : NextR g X b len i I) : g 863 [some (vr (some b)), some (vr (some X)), some (vr (some (X + 111 + 0))), some (vi (nI (2 + 8 * i)))] [] I L N kc ks := by
  refine G_zero hC (fun hZ => ?_)
  obtain ⟨ng, nt, ns, mem, nth, sc, nl, r, rl, n, q, S, k, kl, LA, hV⟩ := hG
  have hsX : N.2.1 X = (10, 6) := hV.1.1.1.sh
  obtain ⟨v, mc, ms, I1, L1, N1, I2, L2, h1, h2, h3, h4, h5, h6⟩ := j_interrupt (l := l) (D := D) (B := B) (x := (I b (2 + 8 * i + 1))) hV
  have e1 : I1 b = I b := (h3 b hb).1
  have e2 : I2 b = I b := (h3 b hb).2.1
  have e3 : N1.2.1 b = (20, len) := (h3 b hb).2.2.trans hs
  have hsR : N1.2.1 (X + 111 + 0) = (11, 36) := GInv.ref h6
  refine G_aload_n 863 hC rfl dL_law_863 ?_
  refine G_aload_n 864 hC rfl dL_law_864 ?_
  refine G_iload_n 865 hC rfl dL_law_865 ?_
  refine G_iconst 866 hC (nI 1) (by decide) dL_law_866 ?_
  refine G_iaddN 867 hC dL_law_867 ?_
  refine G_iald 868 hC hs (Or.inr rfl) rfl (by omega) hln dL_law_868 ?_
  refine G_callVn 869 hC h4 okX11_interrupt lk_L_80 hsX rfl rfl rfl rfl (Nat.le_of_ble_eq_true rfl) ⟨by decide, by decide⟩ ⟨Nat.le_trans (Nat.add_le_add hk h1) (show 137 + 26 * i + 26 ≤ 600000 by omega), Nat.le_trans (Nat.add_le_add hks h2) (show 11254 + 182 * i + 182 ≤ 7302250 by omega)⟩ dL_law_869 ?_
  refine G_aload_n 872 hC rfl dL_law_872 ?_
  refine G_aload_n 873 hC rfl dL_law_873 ?_
  refine G_iload_n 874 hC rfl dL_law_874 ?_
  refine G_iconst 875 hC (nI 1) (by decide) dL_law_875 ?_
  refine G_iaddN 876 hC dL_law_876 ?_
  refine G_iald 877 hC e3 (Or.inr rfl) rfl (by omega) hln dL_law_877 ?_
  rw [e1]
  refine G_callV1 878 hC h5 okX12_interrupt lk_L_83 hsR rfl rfl rfl rfl (Nat.le_of_ble_eq_true rfl) ⟨by decide, by decide⟩ ⟨Nat.le_trans (Nat.add_le_add hk h1) (show 137 + 26 * i + 26 ≤ 600000 by omega), Nat.le_trans (Nat.add_le_add hks h2) (show 11254 + 182 * i + 182 ≤ 7302250 by omega)⟩ dL_law_878 ?_
  refine G_icmp_eq 881 1108 hC dL_law_881 (by decide) (fun _ => ?_) (fun hne => absurd rfl hne)
  exact next I2 L2 N1 _ _ h6 e3 (by omega) (by omega) e2
theorem w_close (hC : Cx l D B RL cL_law 4 mn RR g) (hG : GInv X i N I L) (hi : i ≤ 520) (hs : N.2.1 b = (20, len)) (hb : b < X) (hl : 2 + 8 * i + 8 ≤ len) (hln : len < 2 ^ 31) (hk : kc ≤ 137 + 26 * i) (hks : ks ≤ 11254 + 182 * i) (next : NextR g X b len i I) : g 886 [some (vr (some b)), some (vr (some X)), some (vr (some (X + 111 + 0))), some (vi (nI (2 + 8 * i)))] [] I L N kc ks := by
  refine G_zero hC (fun hZ => ?_)
  obtain ⟨ng, nt, ns, mem, nth, sc, nl, r, rl, n, q, S, k, kl, LA, hV⟩ := hG
  have hsX : N.2.1 X = (10, 6) := hV.1.1.1.sh
  obtain ⟨v, mc, ms, I1, L1, N1, I2, L2, h1, h2, h3, h4, h5, h6⟩ := j_close (l := l) (D := D) (B := B)  hV
  have e1 : I1 b = I b := (h3 b hb).1
  have e2 : I2 b = I b := (h3 b hb).2.1
  have e3 : N1.2.1 b = (20, len) := (h3 b hb).2.2.trans hs
  have hsR : N1.2.1 (X + 111 + 0) = (11, 36) := GInv.ref h6
  refine G_aload_n 886 hC rfl dL_law_886 ?_
  refine G_callVn 887 hC h4 okX11_close lk_L_84 hsX rfl rfl rfl rfl (Nat.le_of_ble_eq_true rfl) ⟨by decide, by decide⟩ ⟨Nat.le_trans (Nat.add_le_add hk h1) (show 137 + 26 * i + 26 ≤ 600000 by omega), Nat.le_trans (Nat.add_le_add hks h2) (show 11254 + 182 * i + 182 ≤ 7302250 by omega)⟩ dL_law_887 ?_
  refine G_aload_n 890 hC rfl dL_law_890 ?_
  refine G_callV1 891 hC h5 okX12_close lk_L_88 hsR rfl rfl rfl rfl (Nat.le_of_ble_eq_true rfl) ⟨by decide, by decide⟩ ⟨Nat.le_trans (Nat.add_le_add hk h1) (show 137 + 26 * i + 26 ≤ 600000 by omega), Nat.le_trans (Nat.add_le_add hks h2) (show 11254 + 182 * i + 182 ≤ 7302250 by omega)⟩ dL_law_891 ?_
  refine G_icmp_eq 894 1108 hC dL_law_894 (by decide) (fun _ => ?_) (fun hne => absurd rfl hne)
  exact next I2 L2 N1 _ _ h6 e3 (by omega) (by omega) e2
theorem w_anew (hC : Cx l D B RL cL_law 4 mn RR g) (hG : GInv X i N I L) (hi : i ≤ 520) (hs : N.2.1 b = (20, len)) (hb : b < X) (hl : 2 + 8 * i + 8 ≤ len) (hln : len < 2 ^ 31) (hk : kc ≤ 137 + 26 * i) (hks : ks ≤ 11254 + 182 * i) (next : NextR g X b len i I) : g 899 [some (vr (some b)), some (vr (some X)), some (vr (some (X + 111 + 0))), some (vi (nI (2 + 8 * i)))] [] I L N kc ks := by
  refine G_zero hC (fun hZ => ?_)
  obtain ⟨ng, nt, ns, mem, nth, sc, nl, r, rl, n, q, S, k, kl, LA, hV⟩ := hG
  have hsX : N.2.1 X = (10, 6) := hV.1.1.1.sh
  obtain ⟨v, mc, ms, I1, L1, N1, I2, L2, h1, h2, h3, h4, h5, h6⟩ := j_anew (l := l) (D := D) (B := B)  hV
  have e1 : I1 b = I b := (h3 b hb).1
  have e2 : I2 b = I b := (h3 b hb).2.1
  have e3 : N1.2.1 b = (20, len) := (h3 b hb).2.2.trans hs
  have hsR : N1.2.1 (X + 111 + 0) = (11, 36) := GInv.ref h6
  refine G_aload_n 899 hC rfl dL_law_899 ?_
  refine G_callVn 900 hC h4 okX11_anew lk_L_89 hsX rfl rfl rfl rfl (Nat.le_of_ble_eq_true rfl) ⟨by decide, by decide⟩ ⟨Nat.le_trans (Nat.add_le_add hk h1) (show 137 + 26 * i + 26 ≤ 600000 by omega), Nat.le_trans (Nat.add_le_add hks h2) (show 11254 + 182 * i + 182 ≤ 7302250 by omega)⟩ dL_law_900 ?_
  refine G_aload_n 903 hC rfl dL_law_903 ?_
  refine G_callV1 904 hC h5 okX12_anew lk_L_92 hsR rfl rfl rfl rfl (Nat.le_of_ble_eq_true rfl) ⟨by decide, by decide⟩ ⟨Nat.le_trans (Nat.add_le_add hk h1) (show 137 + 26 * i + 26 ≤ 600000 by omega), Nat.le_trans (Nat.add_le_add hks h2) (show 11254 + 182 * i + 182 ≤ 7302250 by omega)⟩ dL_law_904 ?_
  refine G_icmp_eq 907 1108 hC dL_law_907 (by decide) (fun _ => ?_) (fun hne => absurd rfl hne)
  exact next I2 L2 N1 _ _ h6 e3 (by omega) (by omega) e2
theorem w_taken (hC : Cx l D B RL cL_law 4 mn RR g) (hG : GInv X i N I L) (hi : i ≤ 520) (hs : N.2.1 b = (20, len)) (hb : b < X) (hl : 2 + 8 * i + 8 ≤ len) (hln : len < 2 ^ 31) (hk : kc ≤ 137 + 26 * i) (hks : ks ≤ 11254 + 182 * i) (next : NextR g X b len i I) : g 912 [some (vr (some b)), some (vr (some X)), some (vr (some (X + 111 + 0))), some (vi (nI (2 + 8 * i)))] [] I L N kc ks := by
  refine G_zero hC (fun hZ => ?_)
  obtain ⟨ng, nt, ns, mem, nth, sc, nl, r, rl, n, q, S, k, kl, LA, hV⟩ := hG
  have hsX : N.2.1 X = (10, 6) := hV.1.1.1.sh
  obtain ⟨v, mc, ms, I1, L1, N1, I2, L2, h1, h2, h3, h4, h5, h6⟩ := j_taken (l := l) (D := D) (B := B)  hV
  have e1 : I1 b = I b := (h3 b hb).1
  have e2 : I2 b = I b := (h3 b hb).2.1
  have e3 : N1.2.1 b = (20, len) := (h3 b hb).2.2.trans hs
  have hsR : N1.2.1 (X + 111 + 0) = (11, 36) := GInv.ref h6
  refine G_aload_n 912 hC rfl dL_law_912 ?_
  refine G_callVn 913 hC h4 okX11_taken lk_L_93 hsX rfl rfl rfl rfl (Nat.le_of_ble_eq_true rfl) ⟨by decide, by decide⟩ ⟨Nat.le_trans (Nat.add_le_add hk h1) (show 137 + 26 * i + 26 ≤ 600000 by omega), Nat.le_trans (Nat.add_le_add hks h2) (show 11254 + 182 * i + 182 ≤ 7302250 by omega)⟩ dL_law_913 ?_
  refine G_aload_n 916 hC rfl dL_law_916 ?_
  refine G_callV1 917 hC h5 okX12_taken lk_L_96 hsR rfl rfl rfl rfl (Nat.le_of_ble_eq_true rfl) ⟨by decide, by decide⟩ ⟨Nat.le_trans (Nat.add_le_add hk h1) (show 137 + 26 * i + 26 ≤ 600000 by omega), Nat.le_trans (Nat.add_le_add hks h2) (show 11254 + 182 * i + 182 ≤ 7302250 by omega)⟩ dL_law_917 ?_
  refine G_icmp_eq 920 1108 hC dL_law_920 (by decide) (fun _ => ?_) (fun hne => absurd rfl hne)
  exact next I2 L2 N1 _ _ h6 e3 (by omega) (by omega) e2
theorem w_answer (hC : Cx l D B RL cL_law 4 mn RR g) (hG : GInv X i N I L) (hi : i ≤ 520) (hs : N.2.1 b = (20, len)) (hb : b < X) (hl : 2 + 8 * i + 8 ≤ len) (hln : len < 2 ^ 31) (hk : kc ≤ 137 + 26 * i) (hks : ks ≤ 11254 + 182 * i) (next : NextR g X b len i I) : g 925 [some (vr (some b)), some (vr (some X)), some (vr (some (X + 111 + 0))), some (vi (nI (2 + 8 * i)))] [] I L N kc ks := by
  refine G_zero hC (fun hZ => ?_)
  obtain ⟨ng, nt, ns, mem, nth, sc, nl, r, rl, n, q, S, k, kl, LA, hV⟩ := hG
  have hsX : N.2.1 X = (10, 6) := hV.1.1.1.sh
  obtain ⟨v, mc, ms, I1, L1, N1, I2, L2, h1, h2, h3, h4, h5, h6⟩ := j_answer (l := l) (D := D) (B := B) (x := (I b (2 + 8 * i + 1))) hV
  have e1 : I1 b = I b := (h3 b hb).1
  have e2 : I2 b = I b := (h3 b hb).2.1
  have e3 : N1.2.1 b = (20, len) := (h3 b hb).2.2.trans hs
  have hsR : N1.2.1 (X + 111 + 0) = (11, 36) := GInv.ref h6
  refine G_aload_n 925 hC rfl dL_law_925 ?_
  refine G_aload_n 926 hC rfl dL_law_926 ?_
  refine G_iload_n 927 hC rfl dL_law_927 ?_
  refine G_iconst 928 hC (nI 1) (by decide) dL_law_928 ?_
  refine G_iaddN 929 hC dL_law_929 ?_
  refine G_iald 930 hC hs (Or.inr rfl) rfl (by omega) hln dL_law_930 ?_
  refine G_callVn 931 hC h4 okX11_answer lk_L_97 hsX rfl rfl rfl rfl (Nat.le_of_ble_eq_true rfl) ⟨by decide, by decide⟩ ⟨Nat.le_trans (Nat.add_le_add hk h1) (show 137 + 26 * i + 26 ≤ 600000 by omega), Nat.le_trans (Nat.add_le_add hks h2) (show 11254 + 182 * i + 182 ≤ 7302250 by omega)⟩ dL_law_931 ?_
  refine G_aload_n 934 hC rfl dL_law_934 ?_
  refine G_aload_n 935 hC rfl dL_law_935 ?_
  refine G_iload_n 936 hC rfl dL_law_936 ?_
  refine G_iconst 937 hC (nI 1) (by decide) dL_law_937 ?_
  refine G_iaddN 938 hC dL_law_938 ?_
  refine G_iald 939 hC e3 (Or.inr rfl) rfl (by omega) hln dL_law_939 ?_
  rw [e1]
  refine G_callV1 940 hC h5 okX12_answer lk_L_101 hsR rfl rfl rfl rfl (Nat.le_of_ble_eq_true rfl) ⟨by decide, by decide⟩ ⟨Nat.le_trans (Nat.add_le_add hk h1) (show 137 + 26 * i + 26 ≤ 600000 by omega), Nat.le_trans (Nat.add_le_add hks h2) (show 11254 + 182 * i + 182 ≤ 7302250 by omega)⟩ dL_law_940 ?_
  refine G_lcmp 943 hC dL_law_943 ?_
  rw [cmp_self]
  refine G_if_eq 944 1108 hC dL_law_944 (by decide) (fun _ => ?_) (fun hne => absurd rfl hne)
  exact next I2 L2 N1 _ _ h6 e3 (by omega) (by omega) e2
theorem w_told (hC : Cx l D B RL cL_law 4 mn RR g) (hG : GInv X i N I L) (hi : i ≤ 520) (hs : N.2.1 b = (20, len)) (hb : b < X) (hl : 2 + 8 * i + 8 ≤ len) (hln : len < 2 ^ 31) (hk : kc ≤ 137 + 26 * i) (hks : ks ≤ 11254 + 182 * i) (next : NextR g X b len i I) : g 949 [some (vr (some b)), some (vr (some X)), some (vr (some (X + 111 + 0))), some (vi (nI (2 + 8 * i)))] [] I L N kc ks := by
  refine G_zero hC (fun hZ => ?_)
  obtain ⟨ng, nt, ns, mem, nth, sc, nl, r, rl, n, q, S, k, kl, LA, hV⟩ := hG
  have hsX : N.2.1 X = (10, 6) := hV.1.1.1.sh
  obtain ⟨v, mc, ms, I1, L1, N1, I2, L2, h1, h2, h3, h4, h5, h6⟩ := j_told (l := l) (D := D) (B := B) (x := (I b (2 + 8 * i + 1))) (y := (I b (2 + 8 * i + 2))) hV
  have e1 : I1 b = I b := (h3 b hb).1
  have e2 : I2 b = I b := (h3 b hb).2.1
  have e3 : N1.2.1 b = (20, len) := (h3 b hb).2.2.trans hs
  have hsR : N1.2.1 (X + 111 + 0) = (11, 36) := GInv.ref h6
  refine G_aload_n 949 hC rfl dL_law_949 ?_
  refine G_aload_n 950 hC rfl dL_law_950 ?_
  refine G_iload_n 951 hC rfl dL_law_951 ?_
  refine G_iconst 952 hC (nI 1) (by decide) dL_law_952 ?_
  refine G_iaddN 953 hC dL_law_953 ?_
  refine G_iald 954 hC hs (Or.inr rfl) rfl (by omega) hln dL_law_954 ?_
  refine G_aload_n 955 hC rfl dL_law_955 ?_
  refine G_iload_n 956 hC rfl dL_law_956 ?_
  refine G_iconst 957 hC (nI 2) (by decide) dL_law_957 ?_
  refine G_iaddN 958 hC dL_law_958 ?_
  refine G_iald 959 hC hs (Or.inr rfl) rfl (by omega) hln dL_law_959 ?_
  refine G_callVn 960 hC h4 okX11_told lk_L_102 hsX rfl rfl rfl rfl (Nat.le_of_ble_eq_true rfl) ⟨by decide, by decide⟩ ⟨Nat.le_trans (Nat.add_le_add hk h1) (show 137 + 26 * i + 26 ≤ 600000 by omega), Nat.le_trans (Nat.add_le_add hks h2) (show 11254 + 182 * i + 182 ≤ 7302250 by omega)⟩ dL_law_960 ?_
  refine G_aload_n 963 hC rfl dL_law_963 ?_
  refine G_aload_n 964 hC rfl dL_law_964 ?_
  refine G_iload_n 965 hC rfl dL_law_965 ?_
  refine G_iconst 966 hC (nI 1) (by decide) dL_law_966 ?_
  refine G_iaddN 967 hC dL_law_967 ?_
  refine G_iald 968 hC e3 (Or.inr rfl) rfl (by omega) hln dL_law_968 ?_
  rw [e1]
  refine G_aload_n 969 hC rfl dL_law_969 ?_
  refine G_iload_n 970 hC rfl dL_law_970 ?_
  refine G_iconst 971 hC (nI 2) (by decide) dL_law_971 ?_
  refine G_iaddN 972 hC dL_law_972 ?_
  refine G_iald 973 hC e3 (Or.inr rfl) rfl (by omega) hln dL_law_973 ?_
  rw [e1]
  refine G_callV1 974 hC h5 okX12_told lk_L_105 hsR rfl rfl rfl rfl (Nat.le_of_ble_eq_true rfl) ⟨by decide, by decide⟩ ⟨Nat.le_trans (Nat.add_le_add hk h1) (show 137 + 26 * i + 26 ≤ 600000 by omega), Nat.le_trans (Nat.add_le_add hks h2) (show 11254 + 182 * i + 182 ≤ 7302250 by omega)⟩ dL_law_974 ?_
  refine G_icmp_eq 977 1108 hC dL_law_977 (by decide) (fun _ => ?_) (fun hne => absurd rfl hne)
  exact next I2 L2 N1 _ _ h6 e3 (by omega) (by omega) e2
theorem w_best (hC : Cx l D B RL cL_law 4 mn RR g) (hG : GInv X i N I L) (hi : i ≤ 520) (hs : N.2.1 b = (20, len)) (hb : b < X) (hl : 2 + 8 * i + 8 ≤ len) (hln : len < 2 ^ 31) (hk : kc ≤ 137 + 26 * i) (hks : ks ≤ 11254 + 182 * i) (next : NextR g X b len i I) : g 982 [some (vr (some b)), some (vr (some X)), some (vr (some (X + 111 + 0))), some (vi (nI (2 + 8 * i)))] [] I L N kc ks := by
  refine G_zero hC (fun hZ => ?_)
  obtain ⟨ng, nt, ns, mem, nth, sc, nl, r, rl, n, q, S, k, kl, LA, hV⟩ := hG
  have hsX : N.2.1 X = (10, 6) := hV.1.1.1.sh
  obtain ⟨v, mc, ms, I1, L1, N1, I2, L2, h1, h2, h3, h4, h5, h6⟩ := j_best (l := l) (D := D) (B := B) (x := (I b (2 + 8 * i + 1))) (y := (I b (2 + 8 * i + 2))) hV
  have e1 : I1 b = I b := (h3 b hb).1
  have e2 : I2 b = I b := (h3 b hb).2.1
  have e3 : N1.2.1 b = (20, len) := (h3 b hb).2.2.trans hs
  have hsR : N1.2.1 (X + 111 + 0) = (11, 36) := GInv.ref h6
  refine G_aload_n 982 hC rfl dL_law_982 ?_
  refine G_aload_n 983 hC rfl dL_law_983 ?_
  refine G_iload_n 984 hC rfl dL_law_984 ?_
  refine G_iconst 985 hC (nI 1) (by decide) dL_law_985 ?_
  refine G_iaddN 986 hC dL_law_986 ?_
  refine G_iald 987 hC hs (Or.inr rfl) rfl (by omega) hln dL_law_987 ?_
  refine G_aload_n 988 hC rfl dL_law_988 ?_
  refine G_iload_n 989 hC rfl dL_law_989 ?_
  refine G_iconst 990 hC (nI 2) (by decide) dL_law_990 ?_
  refine G_iaddN 991 hC dL_law_991 ?_
  refine G_iald 992 hC hs (Or.inr rfl) rfl (by omega) hln dL_law_992 ?_
  refine G_callVn 993 hC h4 okX11_best lk_L_106 hsX rfl rfl rfl rfl (Nat.le_of_ble_eq_true rfl) ⟨by decide, by decide⟩ ⟨Nat.le_trans (Nat.add_le_add hk h1) (show 137 + 26 * i + 26 ≤ 600000 by omega), Nat.le_trans (Nat.add_le_add hks h2) (show 11254 + 182 * i + 182 ≤ 7302250 by omega)⟩ dL_law_993 ?_
  refine G_aload_n 996 hC rfl dL_law_996 ?_
  refine G_aload_n 997 hC rfl dL_law_997 ?_
  refine G_iload_n 998 hC rfl dL_law_998 ?_
  refine G_iconst 999 hC (nI 1) (by decide) dL_law_999 ?_
  refine G_iaddN 1000 hC dL_law_1000 ?_
  refine G_iald 1001 hC e3 (Or.inr rfl) rfl (by omega) hln dL_law_1001 ?_
  rw [e1]
  refine G_aload_n 1002 hC rfl dL_law_1002 ?_
  refine G_iload_n 1003 hC rfl dL_law_1003 ?_
  refine G_iconst 1004 hC (nI 2) (by decide) dL_law_1004 ?_
  refine G_iaddN 1005 hC dL_law_1005 ?_
  refine G_iald 1006 hC e3 (Or.inr rfl) rfl (by omega) hln dL_law_1006 ?_
  rw [e1]
  refine G_callV1 1007 hC h5 okX12_best lk_L_110 hsR rfl rfl rfl rfl (Nat.le_of_ble_eq_true rfl) ⟨by decide, by decide⟩ ⟨Nat.le_trans (Nat.add_le_add hk h1) (show 137 + 26 * i + 26 ≤ 600000 by omega), Nat.le_trans (Nat.add_le_add hks h2) (show 11254 + 182 * i + 182 ≤ 7302250 by omega)⟩ dL_law_1007 ?_
  refine G_lcmp 1010 hC dL_law_1010 ?_
  rw [cmp_self]
  refine G_if_eq 1011 1108 hC dL_law_1011 (by decide) (fun _ => ?_) (fun hne => absurd rfl hne)
  exact next I2 L2 N1 _ _ h6 e3 (by omega) (by omega) e2
theorem w_note (hC : Cx l D B RL cL_law 4 mn RR g) (hG : GInv X i N I L) (hi : i ≤ 520) (hs : N.2.1 b = (20, len)) (hb : b < X) (hl : 2 + 8 * i + 8 ≤ len) (hln : len < 2 ^ 31) (hk : kc ≤ 137 + 26 * i) (hks : ks ≤ 11254 + 182 * i) (next : NextR g X b len i I) : g 1016 [some (vr (some b)), some (vr (some X)), some (vr (some (X + 111 + 0))), some (vi (nI (2 + 8 * i)))] [] I L N kc ks := by
  refine G_zero hC (fun hZ => ?_)
  obtain ⟨ng, nt, ns, mem, nth, sc, nl, r, rl, n, q, S, k, kl, LA, hV⟩ := hG
  have hsX : N.2.1 X = (10, 6) := hV.1.1.1.sh
  obtain ⟨v, mc, ms, I1, L1, N1, I2, L2, h1, h2, h3, h4, h5, h6⟩ := j_note (l := l) (D := D) (B := B) (x := (I b (2 + 8 * i + 1))) hV
  have e1 : I1 b = I b := (h3 b hb).1
  have e2 : I2 b = I b := (h3 b hb).2.1
  have e3 : N1.2.1 b = (20, len) := (h3 b hb).2.2.trans hs
  have hsR : N1.2.1 (X + 111 + 0) = (11, 36) := GInv.ref h6
  refine G_aload_n 1016 hC rfl dL_law_1016 ?_
  refine G_aload_n 1017 hC rfl dL_law_1017 ?_
  refine G_iload_n 1018 hC rfl dL_law_1018 ?_
  refine G_iconst 1019 hC (nI 1) (by decide) dL_law_1019 ?_
  refine G_iaddN 1020 hC dL_law_1020 ?_
  refine G_iald 1021 hC hs (Or.inr rfl) rfl (by omega) hln dL_law_1021 ?_
  refine G_callVn 1022 hC h4 okX11_note lk_L_111 hsX rfl rfl rfl rfl (Nat.le_of_ble_eq_true rfl) ⟨by decide, by decide⟩ ⟨Nat.le_trans (Nat.add_le_add hk h1) (show 137 + 26 * i + 26 ≤ 600000 by omega), Nat.le_trans (Nat.add_le_add hks h2) (show 11254 + 182 * i + 182 ≤ 7302250 by omega)⟩ dL_law_1022 ?_
  refine G_aload_n 1025 hC rfl dL_law_1025 ?_
  refine G_aload_n 1026 hC rfl dL_law_1026 ?_
  refine G_iload_n 1027 hC rfl dL_law_1027 ?_
  refine G_iconst 1028 hC (nI 1) (by decide) dL_law_1028 ?_
  refine G_iaddN 1029 hC dL_law_1029 ?_
  refine G_iald 1030 hC e3 (Or.inr rfl) rfl (by omega) hln dL_law_1030 ?_
  rw [e1]
  refine G_callV1 1031 hC h5 okX12_note lk_L_114 hsR rfl rfl rfl rfl (Nat.le_of_ble_eq_true rfl) ⟨by decide, by decide⟩ ⟨Nat.le_trans (Nat.add_le_add hk h1) (show 137 + 26 * i + 26 ≤ 600000 by omega), Nat.le_trans (Nat.add_le_add hks h2) (show 11254 + 182 * i + 182 ≤ 7302250 by omega)⟩ dL_law_1031 ?_
  refine G_icmp_eq 1034 1108 hC dL_law_1034 (by decide) (fun _ => ?_) (fun hne => absurd rfl hne)
  exact next I2 L2 N1 _ _ h6 e3 (by omega) (by omega) e2
theorem w_finished (hC : Cx l D B RL cL_law 4 mn RR g) (hG : GInv X i N I L) (hi : i ≤ 520) (hs : N.2.1 b = (20, len)) (hb : b < X) (hl : 2 + 8 * i + 8 ≤ len) (hln : len < 2 ^ 31) (hk : kc ≤ 137 + 26 * i) (hks : ks ≤ 11254 + 182 * i) (next : NextR g X b len i I) : g 1039 [some (vr (some b)), some (vr (some X)), some (vr (some (X + 111 + 0))), some (vi (nI (2 + 8 * i)))] [] I L N kc ks := by
  refine G_zero hC (fun hZ => ?_)
  obtain ⟨ng, nt, ns, mem, nth, sc, nl, r, rl, n, q, S, k, kl, LA, hV⟩ := hG
  have hsX : N.2.1 X = (10, 6) := hV.1.1.1.sh
  obtain ⟨v, mc, ms, I1, L1, N1, I2, L2, h1, h2, h3, h4, h5, h6⟩ := j_finished (l := l) (D := D) (B := B) (x := (I b (2 + 8 * i + 1))) hV
  have e1 : I1 b = I b := (h3 b hb).1
  have e2 : I2 b = I b := (h3 b hb).2.1
  have e3 : N1.2.1 b = (20, len) := (h3 b hb).2.2.trans hs
  have hsR : N1.2.1 (X + 111 + 0) = (11, 36) := GInv.ref h6
  refine G_aload_n 1039 hC rfl dL_law_1039 ?_
  refine G_aload_n 1040 hC rfl dL_law_1040 ?_
  refine G_iload_n 1041 hC rfl dL_law_1041 ?_
  refine G_iconst 1042 hC (nI 1) (by decide) dL_law_1042 ?_
  refine G_iaddN 1043 hC dL_law_1043 ?_
  refine G_iald 1044 hC hs (Or.inr rfl) rfl (by omega) hln dL_law_1044 ?_
  refine G_callVn 1045 hC h4 okX11_finished lk_L_115 hsX rfl rfl rfl rfl (Nat.le_of_ble_eq_true rfl) ⟨by decide, by decide⟩ ⟨Nat.le_trans (Nat.add_le_add hk h1) (show 137 + 26 * i + 26 ≤ 600000 by omega), Nat.le_trans (Nat.add_le_add hks h2) (show 11254 + 182 * i + 182 ≤ 7302250 by omega)⟩ dL_law_1045 ?_
  refine G_aload_n 1048 hC rfl dL_law_1048 ?_
  refine G_aload_n 1049 hC rfl dL_law_1049 ?_
  refine G_iload_n 1050 hC rfl dL_law_1050 ?_
  refine G_iconst 1051 hC (nI 1) (by decide) dL_law_1051 ?_
  refine G_iaddN 1052 hC dL_law_1052 ?_
  refine G_iald 1053 hC e3 (Or.inr rfl) rfl (by omega) hln dL_law_1053 ?_
  rw [e1]
  refine G_callV1 1054 hC h5 okX12_finished lk_L_118 hsR rfl rfl rfl rfl (Nat.le_of_ble_eq_true rfl) ⟨by decide, by decide⟩ ⟨Nat.le_trans (Nat.add_le_add hk h1) (show 137 + 26 * i + 26 ≤ 600000 by omega), Nat.le_trans (Nat.add_le_add hks h2) (show 11254 + 182 * i + 182 ≤ 7302250 by omega)⟩ dL_law_1054 ?_
  refine G_icmp_eq 1057 1108 hC dL_law_1057 (by decide) (fun _ => ?_) (fun hne => absurd rfl hne)
  exact next I2 L2 N1 _ _ h6 e3 (by omega) (by omega) e2
theorem w_count (hC : Cx l D B RL cL_law 4 mn RR g) (hG : GInv X i N I L) (hi : i ≤ 520) (hs : N.2.1 b = (20, len)) (hb : b < X) (hl : 2 + 8 * i + 8 ≤ len) (hln : len < 2 ^ 31) (hk : kc ≤ 137 + 26 * i) (hks : ks ≤ 11254 + 182 * i) (next : NextR g X b len i I) : g 1062 [some (vr (some b)), some (vr (some X)), some (vr (some (X + 111 + 0))), some (vi (nI (2 + 8 * i)))] [] I L N kc ks := by
  refine G_zero hC (fun hZ => ?_)
  obtain ⟨ng, nt, ns, mem, nth, sc, nl, r, rl, n, q, S, k, kl, LA, hV⟩ := hG
  have hsX : N.2.1 X = (10, 6) := hV.1.1.1.sh
  obtain ⟨v, mc, ms, I1, L1, N1, I2, L2, h1, h2, h3, h4, h5, h6⟩ := j_count (l := l) (D := D) (B := B) (y := (I b (2 + 8 * i + 1))) hV
  have e1 : I1 b = I b := (h3 b hb).1
  have e2 : I2 b = I b := (h3 b hb).2.1
  have e3 : N1.2.1 b = (20, len) := (h3 b hb).2.2.trans hs
  have hsR : N1.2.1 (X + 111 + 0) = (11, 36) := GInv.ref h6
  refine G_aload_n 1062 hC rfl dL_law_1062 ?_
  refine G_aload_n 1063 hC rfl dL_law_1063 ?_
  refine G_iload_n 1064 hC rfl dL_law_1064 ?_
  refine G_iconst 1065 hC (nI 1) (by decide) dL_law_1065 ?_
  refine G_iaddN 1066 hC dL_law_1066 ?_
  refine G_iald 1067 hC hs (Or.inr rfl) rfl (by omega) hln dL_law_1067 ?_
  refine G_callVn 1068 hC h4 okX11_count lk_L_119 hsX rfl rfl rfl rfl (Nat.le_of_ble_eq_true rfl) ⟨by decide, by decide⟩ ⟨Nat.le_trans (Nat.add_le_add hk h1) (show 137 + 26 * i + 26 ≤ 600000 by omega), Nat.le_trans (Nat.add_le_add hks h2) (show 11254 + 182 * i + 182 ≤ 7302250 by omega)⟩ dL_law_1068 ?_
  refine G_aload_n 1071 hC rfl dL_law_1071 ?_
  refine G_aload_n 1072 hC rfl dL_law_1072 ?_
  refine G_iload_n 1073 hC rfl dL_law_1073 ?_
  refine G_iconst 1074 hC (nI 1) (by decide) dL_law_1074 ?_
  refine G_iaddN 1075 hC dL_law_1075 ?_
  refine G_iald 1076 hC e3 (Or.inr rfl) rfl (by omega) hln dL_law_1076 ?_
  rw [e1]
  refine G_callV1 1077 hC h5 okX12_count lk_L_122 hsR rfl rfl rfl rfl (Nat.le_of_ble_eq_true rfl) ⟨by decide, by decide⟩ ⟨Nat.le_trans (Nat.add_le_add hk h1) (show 137 + 26 * i + 26 ≤ 600000 by omega), Nat.le_trans (Nat.add_le_add hks h2) (show 11254 + 182 * i + 182 ≤ 7302250 by omega)⟩ dL_law_1077 ?_
  refine G_icmp_eq 1080 1108 hC dL_law_1080 (by decide) (fun _ => ?_) (fun hne => absurd rfl hne)
  exact next I2 L2 N1 _ _ h6 e3 (by omega) (by omega) e2
theorem w_equal (hC : Cx l D B RL cL_law 4 mn RR g) (hG : GInv X i N I L) (hi : i ≤ 520) (hs : N.2.1 b = (20, len)) (hb : b < X) (hl : 2 + 8 * i + 8 ≤ len) (hln : len < 2 ^ 31) (hk : kc ≤ 137 + 26 * i) (hks : ks ≤ 11254 + 182 * i) (next : NextR g X b len i I) : g 1085 [some (vr (some b)), some (vr (some X)), some (vr (some (X + 111 + 0))), some (vi (nI (2 + 8 * i)))] [] I L N kc ks := by
  refine G_zero hC (fun hZ => ?_)
  obtain ⟨ng, nt, ns, mem, nth, sc, nl, r, rl, n, q, S, k, kl, LA, hV⟩ := hG
  have hsX : N.2.1 X = (10, 6) := hV.1.1.1.sh
  obtain ⟨v, mc, ms, I1, L1, N1, I2, L2, h1, h2, h3, h4, h5, h6⟩ := j_equal (l := l) (D := D) (B := B) (x := (I b (2 + 8 * i + 1))) hV
  have e1 : I1 b = I b := (h3 b hb).1
  have e2 : I2 b = I b := (h3 b hb).2.1
  have e3 : N1.2.1 b = (20, len) := (h3 b hb).2.2.trans hs
  have hsR : N1.2.1 (X + 111 + 0) = (11, 36) := GInv.ref h6
  refine G_aload_n 1085 hC rfl dL_law_1085 ?_
  refine G_aload_n 1086 hC rfl dL_law_1086 ?_
  refine G_iload_n 1087 hC rfl dL_law_1087 ?_
  refine G_iconst 1088 hC (nI 1) (by decide) dL_law_1088 ?_
  refine G_iaddN 1089 hC dL_law_1089 ?_
  refine G_iald 1090 hC hs (Or.inr rfl) rfl (by omega) hln dL_law_1090 ?_
  refine G_callVn 1091 hC h4 okX11_equal lk_L_123 hsX rfl rfl rfl rfl (Nat.le_of_ble_eq_true rfl) ⟨by decide, by decide⟩ ⟨Nat.le_trans (Nat.add_le_add hk h1) (show 137 + 26 * i + 26 ≤ 600000 by omega), Nat.le_trans (Nat.add_le_add hks h2) (show 11254 + 182 * i + 182 ≤ 7302250 by omega)⟩ dL_law_1091 ?_
  refine G_aload_n 1094 hC rfl dL_law_1094 ?_
  refine G_aload_n 1095 hC rfl dL_law_1095 ?_
  refine G_iload_n 1096 hC rfl dL_law_1096 ?_
  refine G_iconst 1097 hC (nI 1) (by decide) dL_law_1097 ?_
  refine G_iaddN 1098 hC dL_law_1098 ?_
  refine G_iald 1099 hC e3 (Or.inr rfl) rfl (by omega) hln dL_law_1099 ?_
  rw [e1]
  refine G_callV1 1100 hC h5 okX12_equal lk_L_126 hsR rfl rfl rfl rfl (Nat.le_of_ble_eq_true rfl) ⟨by decide, by decide⟩ ⟨Nat.le_trans (Nat.add_le_add hk h1) (show 137 + 26 * i + 26 ≤ 600000 by omega), Nat.le_trans (Nat.add_le_add hks h2) (show 11254 + 182 * i + 182 ≤ 7302250 by omega)⟩ dL_law_1100 ?_
  refine G_icmp_eq 1103 1108 hC dL_law_1103 (by decide) (fun _ => ?_) (fun hne => absurd rfl hne)
  exact next I2 L2 N1 _ _ h6 e3 (by omega) (by omega) e2
end LAW
