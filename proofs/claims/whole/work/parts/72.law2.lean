/-! the law: its calls -/
section LAW2
variable {X : AMX} {Ln i : Nat} {S : Mem} {xs : Nat → Int32}
theorem lw_line (C : CX X 7 RL cL_law 4) (E : LX X Ln xs) (hi : i + 6 ≤ Ln) (hL : Ln ≤ 384) (I : Inv S) (k : ∀ S', Inv S' → AW X cL_law 4 1149 [some (.inr (.inr 87)), some (.inr (.inr 0)), some (.inr (.inr 66)), some (.inl (i : Int))] [] S') : AW X cL_law 4 164 [some (.inr (.inr 87)), some (.inr (.inr 0)), some (.inr (.inr 66)), some (.inl (i : Int))] [] S := by
  refine aw_aldn (n := 165) C dL_law_164 rfl rfl ?_
  refine aw_aldn (n := 166) C dL_law_165 rfl rfl ?_
  refine aw_ildn (n := 167) C dL_law_166 rfl rfl ?_
  refine aw_iconst (n := 168) C dL_law_167 rfl ?_
  refine aw_iadd (n := 169) C dL_law_168 rfl ?_
  refine aw_sld (n := 170) C dL_law_169 rfl E (by omega) (by omega) hL ?_
  refine aw_aldn (n := 171) C dL_law_170 rfl rfl ?_
  refine aw_ildn (n := 172) C dL_law_171 rfl rfl ?_
  refine aw_iconst (n := 173) C dL_law_172 rfl ?_
  refine aw_iadd (n := 174) C dL_law_173 rfl ?_
  refine aw_sld (n := 175) C dL_law_174 rfl E (by omega) (by omega) hL ?_
  refine aw_aldn (n := 176) C dL_law_175 rfl rfl ?_
  refine aw_ildn (n := 177) C dL_law_176 rfl rfl ?_
  refine aw_iconst (n := 178) C dL_law_177 rfl ?_
  refine aw_iadd (n := 179) C dL_law_178 rfl ?_
  refine aw_sld (n := 180) C dL_law_179 rfl E (by omega) (by omega) hL ?_
  refine aw_aldn (n := 181) C dL_law_180 rfl rfl ?_
  refine aw_ildn (n := 182) C dL_law_181 rfl rfl ?_
  refine aw_iconst (n := 183) C dL_law_182 rfl ?_
  refine aw_iadd (n := 184) C dL_law_183 rfl ?_
  refine aw_sld (n := 185) C dL_law_184 rfl E (by omega) (by omega) hL ?_
  refine aw_cVi (n := 188) (vs := [_, _, _, _]) C dL_law_185 rfl rfl rfl mm_X6_line wM_L_13 rfl rfl (Nat.le_of_ble_eq_true rfl) (op_line I (xz_r _ _) (xz_r _ _) (xz_r _ _) (xz_r _ _)) (by decide) (fun z_185 S_185 q_185 => ?_)
  refine aw_aldn (n := 189) C dL_law_188 rfl rfl ?_
  refine aw_aldn (n := 190) C dL_law_189 rfl rfl ?_
  refine aw_ildn (n := 191) C dL_law_190 rfl rfl ?_
  refine aw_iconst (n := 192) C dL_law_191 rfl ?_
  refine aw_iadd (n := 193) C dL_law_192 rfl ?_
  refine aw_sld (n := 194) C dL_law_193 rfl E (by omega) (by omega) hL ?_
  refine aw_aldn (n := 195) C dL_law_194 rfl rfl ?_
  refine aw_ildn (n := 196) C dL_law_195 rfl rfl ?_
  refine aw_iconst (n := 197) C dL_law_196 rfl ?_
  refine aw_iadd (n := 198) C dL_law_197 rfl ?_
  refine aw_sld (n := 199) C dL_law_198 rfl E (by omega) (by omega) hL ?_
  refine aw_aldn (n := 200) C dL_law_199 rfl rfl ?_
  refine aw_ildn (n := 201) C dL_law_200 rfl rfl ?_
  refine aw_iconst (n := 202) C dL_law_201 rfl ?_
  refine aw_iadd (n := 203) C dL_law_202 rfl ?_
  refine aw_sld (n := 204) C dL_law_203 rfl E (by omega) (by omega) hL ?_
  refine aw_aldn (n := 205) C dL_law_204 rfl rfl ?_
  refine aw_ildn (n := 206) C dL_law_205 rfl rfl ?_
  refine aw_iconst (n := 207) C dL_law_206 rfl ?_
  refine aw_iadd (n := 208) C dL_law_207 rfl ?_
  refine aw_sld (n := 209) C dL_law_208 rfl E (by omega) (by omega) hL ?_
  refine aw_cVi (n := 212) (vs := [_, _, _, _]) C dL_law_209 rfl rfl rfl mm_X7_line wM_L_17 rfl rfl (Nat.le_of_ble_eq_true rfl) (q_185) (by decide) (fun z_209 S_209 q_209 => ?_)
  obtain ⟨e_209, I_209⟩ := q_209
  refine aw_iceqT (tgt := 1149) C dL_law_212 rfl (e_209.symm) ?_
  exact k _ I_209
theorem lw_ofPassenger (C : CX X 7 RL cL_law 4) (E : LX X Ln xs) (hi : i + 6 ≤ Ln) (hL : Ln ≤ 384) (I : Inv S) (k : ∀ S', Inv S' → AW X cL_law 4 1149 [some (.inr (.inr 87)), some (.inr (.inr 0)), some (.inr (.inr 66)), some (.inl (i : Int))] [] S') : AW X cL_law 4 217 [some (.inr (.inr 87)), some (.inr (.inr 0)), some (.inr (.inr 66)), some (.inl (i : Int))] [] S := by
  refine aw_aldn (n := 218) C dL_law_217 rfl rfl ?_
  refine aw_aldn (n := 219) C dL_law_218 rfl rfl ?_
  refine aw_ildn (n := 220) C dL_law_219 rfl rfl ?_
  refine aw_iconst (n := 221) C dL_law_220 rfl ?_
  refine aw_iadd (n := 222) C dL_law_221 rfl ?_
  refine aw_sld (n := 223) C dL_law_222 rfl E (by omega) (by omega) hL ?_
  refine aw_aldn (n := 224) C dL_law_223 rfl rfl ?_
  refine aw_ildn (n := 225) C dL_law_224 rfl rfl ?_
  refine aw_iconst (n := 226) C dL_law_225 rfl ?_
  refine aw_iadd (n := 227) C dL_law_226 rfl ?_
  refine aw_sld (n := 228) C dL_law_227 rfl E (by omega) (by omega) hL ?_
  refine aw_cVi (n := 231) (vs := [_, _]) C dL_law_228 rfl rfl rfl mm_X6_ofPassenger wM_L_18 rfl rfl (Nat.le_of_ble_eq_true rfl) (op_ofPassenger I (xz_r _ _) (xz_r _ _)) (by decide) (fun z_228 S_228 q_228 => ?_)
  refine aw_aldn (n := 232) C dL_law_231 rfl rfl ?_
  refine aw_aldn (n := 233) C dL_law_232 rfl rfl ?_
  refine aw_ildn (n := 234) C dL_law_233 rfl rfl ?_
  refine aw_iconst (n := 235) C dL_law_234 rfl ?_
  refine aw_iadd (n := 236) C dL_law_235 rfl ?_
  refine aw_sld (n := 237) C dL_law_236 rfl E (by omega) (by omega) hL ?_
  refine aw_aldn (n := 238) C dL_law_237 rfl rfl ?_
  refine aw_ildn (n := 239) C dL_law_238 rfl rfl ?_
  refine aw_iconst (n := 240) C dL_law_239 rfl ?_
  refine aw_iadd (n := 241) C dL_law_240 rfl ?_
  refine aw_sld (n := 242) C dL_law_241 rfl E (by omega) (by omega) hL ?_
  refine aw_cVi (n := 245) (vs := [_, _]) C dL_law_242 rfl rfl rfl mm_X7_ofPassenger wM_L_22 rfl rfl (Nat.le_of_ble_eq_true rfl) (q_228) (by decide) (fun z_242 S_242 q_242 => ?_)
  obtain ⟨e_242, I_242⟩ := q_242
  refine aw_iceqT (tgt := 1149) C dL_law_245 rfl (e_242.symm) ?_
  exact k _ I_242
theorem lw_seats (C : CX X 7 RL cL_law 4) (E : LX X Ln xs) (hi : i + 6 ≤ Ln) (hL : Ln ≤ 384) (I : Inv S) (k : ∀ S', Inv S' → AW X cL_law 4 1149 [some (.inr (.inr 87)), some (.inr (.inr 0)), some (.inr (.inr 66)), some (.inl (i : Int))] [] S') : AW X cL_law 4 250 [some (.inr (.inr 87)), some (.inr (.inr 0)), some (.inr (.inr 66)), some (.inl (i : Int))] [] S := by
  refine aw_aldn (n := 251) C dL_law_250 rfl rfl ?_
  refine aw_aldn (n := 252) C dL_law_251 rfl rfl ?_
  refine aw_ildn (n := 253) C dL_law_252 rfl rfl ?_
  refine aw_iconst (n := 254) C dL_law_253 rfl ?_
  refine aw_iadd (n := 255) C dL_law_254 rfl ?_
  refine aw_sld (n := 256) C dL_law_255 rfl E (by omega) (by omega) hL ?_
  refine aw_aldn (n := 257) C dL_law_256 rfl rfl ?_
  refine aw_ildn (n := 258) C dL_law_257 rfl rfl ?_
  refine aw_iconst (n := 259) C dL_law_258 rfl ?_
  refine aw_iadd (n := 260) C dL_law_259 rfl ?_
  refine aw_sld (n := 261) C dL_law_260 rfl E (by omega) (by omega) hL ?_
  refine aw_cVi (n := 264) (vs := [_, _]) C dL_law_261 rfl rfl rfl mm_X6_seats wM_L_23 rfl rfl (Nat.le_of_ble_eq_true rfl) (op_seats I (xz_r _ _) (xz_r _ _)) (by decide) (fun z_261 S_261 q_261 => ?_)
  refine aw_aldn (n := 265) C dL_law_264 rfl rfl ?_
  refine aw_aldn (n := 266) C dL_law_265 rfl rfl ?_
  refine aw_ildn (n := 267) C dL_law_266 rfl rfl ?_
  refine aw_iconst (n := 268) C dL_law_267 rfl ?_
  refine aw_iadd (n := 269) C dL_law_268 rfl ?_
  refine aw_sld (n := 270) C dL_law_269 rfl E (by omega) (by omega) hL ?_
  refine aw_aldn (n := 271) C dL_law_270 rfl rfl ?_
  refine aw_ildn (n := 272) C dL_law_271 rfl rfl ?_
  refine aw_iconst (n := 273) C dL_law_272 rfl ?_
  refine aw_iadd (n := 274) C dL_law_273 rfl ?_
  refine aw_sld (n := 275) C dL_law_274 rfl E (by omega) (by omega) hL ?_
  refine aw_cVi (n := 278) (vs := [_, _]) C dL_law_275 rfl rfl rfl mm_X7_seats wM_L_26 rfl rfl (Nat.le_of_ble_eq_true rfl) (q_261) (by decide) (fun z_275 S_275 q_275 => ?_)
  obtain ⟨e_275, I_275⟩ := q_275
  refine aw_iceqT (tgt := 1149) C dL_law_278 rfl (e_275.symm) ?_
  exact k _ I_275
theorem lw_limits (C : CX X 7 RL cL_law 4) (E : LX X Ln xs) (hi : i + 6 ≤ Ln) (hL : Ln ≤ 384) (I : Inv S) (k : ∀ S', Inv S' → AW X cL_law 4 1149 [some (.inr (.inr 87)), some (.inr (.inr 0)), some (.inr (.inr 66)), some (.inl (i : Int))] [] S') : AW X cL_law 4 283 [some (.inr (.inr 87)), some (.inr (.inr 0)), some (.inr (.inr 66)), some (.inl (i : Int))] [] S := by
  refine aw_aldn (n := 284) C dL_law_283 rfl rfl ?_
  refine aw_aldn (n := 285) C dL_law_284 rfl rfl ?_
  refine aw_ildn (n := 286) C dL_law_285 rfl rfl ?_
  refine aw_iconst (n := 287) C dL_law_286 rfl ?_
  refine aw_iadd (n := 288) C dL_law_287 rfl ?_
  refine aw_sld (n := 289) C dL_law_288 rfl E (by omega) (by omega) hL ?_
  refine aw_aldn (n := 290) C dL_law_289 rfl rfl ?_
  refine aw_ildn (n := 291) C dL_law_290 rfl rfl ?_
  refine aw_iconst (n := 292) C dL_law_291 rfl ?_
  refine aw_iadd (n := 293) C dL_law_292 rfl ?_
  refine aw_sld (n := 294) C dL_law_293 rfl E (by omega) (by omega) hL ?_
  refine aw_cVi (n := 297) (vs := [_, _]) C dL_law_294 rfl rfl rfl mm_X6_limits wM_L_27 rfl rfl (Nat.le_of_ble_eq_true rfl) (op_limits I (xz_r _ _) (xz_r _ _)) (by decide) (fun z_294 S_294 q_294 => ?_)
  refine aw_aldn (n := 298) C dL_law_297 rfl rfl ?_
  refine aw_aldn (n := 299) C dL_law_298 rfl rfl ?_
  refine aw_ildn (n := 300) C dL_law_299 rfl rfl ?_
  refine aw_iconst (n := 301) C dL_law_300 rfl ?_
  refine aw_iadd (n := 302) C dL_law_301 rfl ?_
  refine aw_sld (n := 303) C dL_law_302 rfl E (by omega) (by omega) hL ?_
  refine aw_aldn (n := 304) C dL_law_303 rfl rfl ?_
  refine aw_ildn (n := 305) C dL_law_304 rfl rfl ?_
  refine aw_iconst (n := 306) C dL_law_305 rfl ?_
  refine aw_iadd (n := 307) C dL_law_306 rfl ?_
  refine aw_sld (n := 308) C dL_law_307 rfl E (by omega) (by omega) hL ?_
  refine aw_cVi (n := 311) (vs := [_, _]) C dL_law_308 rfl rfl rfl mm_X7_limits wM_L_30 rfl rfl (Nat.le_of_ble_eq_true rfl) (q_294) (by decide) (fun z_308 S_308 q_308 => ?_)
  obtain ⟨e_308, I_308⟩ := q_308
  refine aw_iceqT (tgt := 1149) C dL_law_311 rfl (e_308.symm) ?_
  exact k _ I_308
theorem lw_dig (C : CX X 7 RL cL_law 4) (E : LX X Ln xs) (hi : i + 6 ≤ Ln) (hL : Ln ≤ 384) (I : Inv S) (k : ∀ S', Inv S' → AW X cL_law 4 1149 [some (.inr (.inr 87)), some (.inr (.inr 0)), some (.inr (.inr 66)), some (.inl (i : Int))] [] S') : AW X cL_law 4 316 [some (.inr (.inr 87)), some (.inr (.inr 0)), some (.inr (.inr 66)), some (.inl (i : Int))] [] S := by
  by_cases h0 : xz xs ((i : Int) + 2) = 0
  · refine aw_aldn (n := 317) C dL_law_316 rfl rfl ?_
    refine aw_aldn (n := 318) C dL_law_317 rfl rfl ?_
    refine aw_ildn (n := 319) C dL_law_318 rfl rfl ?_
    refine aw_iconst (n := 320) C dL_law_319 rfl ?_
    refine aw_iadd (n := 321) C dL_law_320 rfl ?_
    refine aw_sld (n := 322) C dL_law_321 rfl E (by omega) (by omega) hL ?_
    refine aw_aldn (n := 323) C dL_law_322 rfl rfl ?_
    refine aw_ildn (n := 324) C dL_law_323 rfl rfl ?_
    refine aw_iconst (n := 325) C dL_law_324 rfl ?_
    refine aw_iadd (n := 326) C dL_law_325 rfl ?_
    refine aw_sld (n := 327) C dL_law_326 rfl E (by omega) (by omega) hL ?_
    refine aw_ifeq (tgt := 334) (n := 330) C dL_law_327 rfl rfl (xz_r _ _) (fun h_327 => ?_) (fun h_327 => ?_)
    · refine aw_iconst (n := 335) C dL_law_334 rfl ?_
      refine aw_cVi (n := 338) (vs := [_, _]) C dL_law_335 rfl rfl rfl mm_X6_dig wM_L_31 rfl rfl (Nat.le_of_ble_eq_true rfl) (op_dig I (xz_r _ _) (Or.inl rfl)) (by decide) (fun z_335 S_335 q_335 => ?_)
      refine aw_aldn (n := 339) C dL_law_338 rfl rfl ?_
      refine aw_aldn (n := 340) C dL_law_339 rfl rfl ?_
      refine aw_ildn (n := 341) C dL_law_340 rfl rfl ?_
      refine aw_iconst (n := 342) C dL_law_341 rfl ?_
      refine aw_iadd (n := 343) C dL_law_342 rfl ?_
      refine aw_sld (n := 344) C dL_law_343 rfl E (by omega) (by omega) hL ?_
      refine aw_aldn (n := 345) C dL_law_344 rfl rfl ?_
      refine aw_ildn (n := 346) C dL_law_345 rfl rfl ?_
      refine aw_iconst (n := 347) C dL_law_346 rfl ?_
      refine aw_iadd (n := 348) C dL_law_347 rfl ?_
      refine aw_sld (n := 349) C dL_law_348 rfl E (by omega) (by omega) hL ?_
      refine aw_ifeq (tgt := 356) (n := 352) C dL_law_349 rfl rfl (xz_r _ _) (fun h_349 => ?_) (fun h_349 => ?_)
      · refine aw_iconst (n := 357) C dL_law_356 rfl ?_
        refine aw_cVi (n := 360) (vs := [_, _]) C dL_law_357 rfl rfl rfl mm_X7_dig wM_L_35 rfl rfl (Nat.le_of_ble_eq_true rfl) (q_335) (by decide) (fun z_357 S_357 q_357 => ?_)
        obtain ⟨e_357, I_357⟩ := q_357
        refine aw_iceqT (tgt := 1149) C dL_law_360 rfl (e_357.symm) ?_
        exact k _ I_357
      · exact absurd h0 h_349
    · exact absurd h0 h_327
  · refine aw_aldn (n := 317) C dL_law_316 rfl rfl ?_
    refine aw_aldn (n := 318) C dL_law_317 rfl rfl ?_
    refine aw_ildn (n := 319) C dL_law_318 rfl rfl ?_
    refine aw_iconst (n := 320) C dL_law_319 rfl ?_
    refine aw_iadd (n := 321) C dL_law_320 rfl ?_
    refine aw_sld (n := 322) C dL_law_321 rfl E (by omega) (by omega) hL ?_
    refine aw_aldn (n := 323) C dL_law_322 rfl rfl ?_
    refine aw_ildn (n := 324) C dL_law_323 rfl rfl ?_
    refine aw_iconst (n := 325) C dL_law_324 rfl ?_
    refine aw_iadd (n := 326) C dL_law_325 rfl ?_
    refine aw_sld (n := 327) C dL_law_326 rfl E (by omega) (by omega) hL ?_
    refine aw_ifeq (tgt := 334) (n := 330) C dL_law_327 rfl rfl (xz_r _ _) (fun h_327 => ?_) (fun h_327 => ?_)
    · exact absurd h_327 h0
    · refine aw_iconst (n := 331) C dL_law_330 rfl ?_
      refine aw_goto (tgt := 335) C dL_law_331 rfl ?_
      refine aw_cVi (n := 338) (vs := [_, _]) C dL_law_335 rfl rfl rfl mm_X6_dig wM_L_31 rfl rfl (Nat.le_of_ble_eq_true rfl) (op_dig I (xz_r _ _) (Or.inr rfl)) (by decide) (fun z_335 S_335 q_335 => ?_)
      refine aw_aldn (n := 339) C dL_law_338 rfl rfl ?_
      refine aw_aldn (n := 340) C dL_law_339 rfl rfl ?_
      refine aw_ildn (n := 341) C dL_law_340 rfl rfl ?_
      refine aw_iconst (n := 342) C dL_law_341 rfl ?_
      refine aw_iadd (n := 343) C dL_law_342 rfl ?_
      refine aw_sld (n := 344) C dL_law_343 rfl E (by omega) (by omega) hL ?_
      refine aw_aldn (n := 345) C dL_law_344 rfl rfl ?_
      refine aw_ildn (n := 346) C dL_law_345 rfl rfl ?_
      refine aw_iconst (n := 347) C dL_law_346 rfl ?_
      refine aw_iadd (n := 348) C dL_law_347 rfl ?_
      refine aw_sld (n := 349) C dL_law_348 rfl E (by omega) (by omega) hL ?_
      refine aw_ifeq (tgt := 356) (n := 352) C dL_law_349 rfl rfl (xz_r _ _) (fun h_349 => ?_) (fun h_349 => ?_)
      · exact absurd h_349 h0
      · refine aw_iconst (n := 353) C dL_law_352 rfl ?_
        refine aw_goto (tgt := 357) C dL_law_353 rfl ?_
        refine aw_cVi (n := 360) (vs := [_, _]) C dL_law_357 rfl rfl rfl mm_X7_dig wM_L_35 rfl rfl (Nat.le_of_ble_eq_true rfl) (q_335) (by decide) (fun z_357 S_357 q_357 => ?_)
        obtain ⟨e_357, I_357⟩ := q_357
        refine aw_iceqT (tgt := 1149) C dL_law_360 rfl (e_357.symm) ?_
        exact k _ I_357
theorem lw_talk (C : CX X 7 RL cL_law 4) (E : LX X Ln xs) (hi : i + 6 ≤ Ln) (hL : Ln ≤ 384) (I : Inv S) (k : ∀ S', Inv S' → AW X cL_law 4 1149 [some (.inr (.inr 87)), some (.inr (.inr 0)), some (.inr (.inr 66)), some (.inl (i : Int))] [] S') : AW X cL_law 4 365 [some (.inr (.inr 87)), some (.inr (.inr 0)), some (.inr (.inr 66)), some (.inl (i : Int))] [] S := by
  refine aw_aldn (n := 366) C dL_law_365 rfl rfl ?_
  refine aw_aldn (n := 367) C dL_law_366 rfl rfl ?_
  refine aw_ildn (n := 368) C dL_law_367 rfl rfl ?_
  refine aw_iconst (n := 369) C dL_law_368 rfl ?_
  refine aw_iadd (n := 370) C dL_law_369 rfl ?_
  refine aw_sld (n := 371) C dL_law_370 rfl E (by omega) (by omega) hL ?_
  refine aw_aldn (n := 372) C dL_law_371 rfl rfl ?_
  refine aw_ildn (n := 373) C dL_law_372 rfl rfl ?_
  refine aw_iconst (n := 374) C dL_law_373 rfl ?_
  refine aw_iadd (n := 375) C dL_law_374 rfl ?_
  refine aw_sld (n := 376) C dL_law_375 rfl E (by omega) (by omega) hL ?_
  refine aw_aldn (n := 377) C dL_law_376 rfl rfl ?_
  refine aw_ildn (n := 378) C dL_law_377 rfl rfl ?_
  refine aw_iconst (n := 379) C dL_law_378 rfl ?_
  refine aw_iadd (n := 380) C dL_law_379 rfl ?_
  refine aw_sld (n := 381) C dL_law_380 rfl E (by omega) (by omega) hL ?_
  refine aw_cVi (n := 384) (vs := [_, _, _]) C dL_law_381 rfl rfl rfl mm_X6_talk wM_L_36 rfl rfl (Nat.le_of_ble_eq_true rfl) (op_talk I (xz_r _ _) (xz_r _ _) (xz_r _ _)) (by decide) (fun z_381 S_381 q_381 => ?_)
  refine aw_aldn (n := 385) C dL_law_384 rfl rfl ?_
  refine aw_aldn (n := 386) C dL_law_385 rfl rfl ?_
  refine aw_ildn (n := 387) C dL_law_386 rfl rfl ?_
  refine aw_iconst (n := 388) C dL_law_387 rfl ?_
  refine aw_iadd (n := 389) C dL_law_388 rfl ?_
  refine aw_sld (n := 390) C dL_law_389 rfl E (by omega) (by omega) hL ?_
  refine aw_aldn (n := 391) C dL_law_390 rfl rfl ?_
  refine aw_ildn (n := 392) C dL_law_391 rfl rfl ?_
  refine aw_iconst (n := 393) C dL_law_392 rfl ?_
  refine aw_iadd (n := 394) C dL_law_393 rfl ?_
  refine aw_sld (n := 395) C dL_law_394 rfl E (by omega) (by omega) hL ?_
  refine aw_aldn (n := 396) C dL_law_395 rfl rfl ?_
  refine aw_ildn (n := 397) C dL_law_396 rfl rfl ?_
  refine aw_iconst (n := 398) C dL_law_397 rfl ?_
  refine aw_iadd (n := 399) C dL_law_398 rfl ?_
  refine aw_sld (n := 400) C dL_law_399 rfl E (by omega) (by omega) hL ?_
  refine aw_cVi (n := 403) (vs := [_, _, _]) C dL_law_400 rfl rfl rfl mm_X7_talk wM_L_40 rfl rfl (Nat.le_of_ble_eq_true rfl) (q_381) (by decide) (fun z_400 S_400 q_400 => ?_)
  obtain ⟨e_400, I_400⟩ := q_400
  refine aw_iceqT (tgt := 1149) C dL_law_403 rfl (e_400.symm) ?_
  exact k _ I_400
theorem lw_regret (C : CX X 7 RL cL_law 4) (E : LX X Ln xs) (hi : i + 6 ≤ Ln) (hL : Ln ≤ 384) (I : Inv S) (k : ∀ S', Inv S' → AW X cL_law 4 1149 [some (.inr (.inr 87)), some (.inr (.inr 0)), some (.inr (.inr 66)), some (.inl (i : Int))] [] S') : AW X cL_law 4 408 [some (.inr (.inr 87)), some (.inr (.inr 0)), some (.inr (.inr 66)), some (.inl (i : Int))] [] S := by
  refine aw_aldn (n := 409) C dL_law_408 rfl rfl ?_
  refine aw_aldn (n := 410) C dL_law_409 rfl rfl ?_
  refine aw_ildn (n := 411) C dL_law_410 rfl rfl ?_
  refine aw_iconst (n := 412) C dL_law_411 rfl ?_
  refine aw_iadd (n := 413) C dL_law_412 rfl ?_
  refine aw_sld (n := 414) C dL_law_413 rfl E (by omega) (by omega) hL ?_
  refine aw_aldn (n := 415) C dL_law_414 rfl rfl ?_
  refine aw_ildn (n := 416) C dL_law_415 rfl rfl ?_
  refine aw_iconst (n := 417) C dL_law_416 rfl ?_
  refine aw_iadd (n := 418) C dL_law_417 rfl ?_
  refine aw_sld (n := 419) C dL_law_418 rfl E (by omega) (by omega) hL ?_
  refine aw_cVi (n := 422) (vs := [_, _]) C dL_law_419 rfl rfl rfl mm_X6_regret wM_L_41 rfl rfl (Nat.le_of_ble_eq_true rfl) (op_regret I (xz_r _ _) (xz_r _ _)) (by decide) (fun z_419 S_419 q_419 => ?_)
  refine aw_aldn (n := 423) C dL_law_422 rfl rfl ?_
  refine aw_aldn (n := 424) C dL_law_423 rfl rfl ?_
  refine aw_ildn (n := 425) C dL_law_424 rfl rfl ?_
  refine aw_iconst (n := 426) C dL_law_425 rfl ?_
  refine aw_iadd (n := 427) C dL_law_426 rfl ?_
  refine aw_sld (n := 428) C dL_law_427 rfl E (by omega) (by omega) hL ?_
  refine aw_aldn (n := 429) C dL_law_428 rfl rfl ?_
  refine aw_ildn (n := 430) C dL_law_429 rfl rfl ?_
  refine aw_iconst (n := 431) C dL_law_430 rfl ?_
  refine aw_iadd (n := 432) C dL_law_431 rfl ?_
  refine aw_sld (n := 433) C dL_law_432 rfl E (by omega) (by omega) hL ?_
  refine aw_cVi (n := 436) (vs := [_, _]) C dL_law_433 rfl rfl rfl mm_X7_regret wM_L_44 rfl rfl (Nat.le_of_ble_eq_true rfl) (q_419) (by decide) (fun z_433 S_433 q_433 => ?_)
  obtain ⟨e_433, I_433⟩ := q_433
  refine aw_iceqT (tgt := 1149) C dL_law_436 rfl (e_433.symm) ?_
  exact k _ I_433
theorem lw_due (C : CX X 7 RL cL_law 4) (E : LX X Ln xs) (hi : i + 6 ≤ Ln) (hL : Ln ≤ 384) (I : Inv S) (k : ∀ S', Inv S' → AW X cL_law 4 1149 [some (.inr (.inr 87)), some (.inr (.inr 0)), some (.inr (.inr 66)), some (.inl (i : Int))] [] S') : AW X cL_law 4 441 [some (.inr (.inr 87)), some (.inr (.inr 0)), some (.inr (.inr 66)), some (.inl (i : Int))] [] S := by
  refine aw_aldn (n := 442) C dL_law_441 rfl rfl ?_
  refine aw_aldn (n := 443) C dL_law_442 rfl rfl ?_
  refine aw_ildn (n := 444) C dL_law_443 rfl rfl ?_
  refine aw_iconst (n := 445) C dL_law_444 rfl ?_
  refine aw_iadd (n := 446) C dL_law_445 rfl ?_
  refine aw_sld (n := 447) C dL_law_446 rfl E (by omega) (by omega) hL ?_
  refine aw_aldn (n := 448) C dL_law_447 rfl rfl ?_
  refine aw_ildn (n := 449) C dL_law_448 rfl rfl ?_
  refine aw_iconst (n := 450) C dL_law_449 rfl ?_
  refine aw_iadd (n := 451) C dL_law_450 rfl ?_
  refine aw_sld (n := 452) C dL_law_451 rfl E (by omega) (by omega) hL ?_
  refine aw_cVi (n := 455) (vs := [_, _]) C dL_law_452 rfl rfl rfl mm_X6_due wM_L_45 rfl rfl (Nat.le_of_ble_eq_true rfl) (op_due I (xz_r _ _) (xz_r _ _)) (by decide) (fun z_452 S_452 q_452 => ?_)
  refine aw_aldn (n := 456) C dL_law_455 rfl rfl ?_
  refine aw_aldn (n := 457) C dL_law_456 rfl rfl ?_
  refine aw_ildn (n := 458) C dL_law_457 rfl rfl ?_
  refine aw_iconst (n := 459) C dL_law_458 rfl ?_
  refine aw_iadd (n := 460) C dL_law_459 rfl ?_
  refine aw_sld (n := 461) C dL_law_460 rfl E (by omega) (by omega) hL ?_
  refine aw_aldn (n := 462) C dL_law_461 rfl rfl ?_
  refine aw_ildn (n := 463) C dL_law_462 rfl rfl ?_
  refine aw_iconst (n := 464) C dL_law_463 rfl ?_
  refine aw_iadd (n := 465) C dL_law_464 rfl ?_
  refine aw_sld (n := 466) C dL_law_465 rfl E (by omega) (by omega) hL ?_
  refine aw_cVi (n := 469) (vs := [_, _]) C dL_law_466 rfl rfl rfl mm_X7_due wM_L_48 rfl rfl (Nat.le_of_ble_eq_true rfl) (q_452) (by decide) (fun z_466 S_466 q_466 => ?_)
  obtain ⟨e_466, I_466⟩ := q_466
  refine aw_iceqT (tgt := 1149) C dL_law_469 rfl (e_466.symm) ?_
  exact k _ I_466
theorem lw_seating (C : CX X 7 RL cL_law 4) (E : LX X Ln xs) (hi : i + 6 ≤ Ln) (hL : Ln ≤ 384) (I : Inv S) (k : ∀ S', Inv S' → AW X cL_law 4 1149 [some (.inr (.inr 87)), some (.inr (.inr 0)), some (.inr (.inr 66)), some (.inl (i : Int))] [] S') : AW X cL_law 4 474 [some (.inr (.inr 87)), some (.inr (.inr 0)), some (.inr (.inr 66)), some (.inl (i : Int))] [] S := by
  refine aw_aldn (n := 475) C dL_law_474 rfl rfl ?_
  refine aw_aldn (n := 476) C dL_law_475 rfl rfl ?_
  refine aw_ildn (n := 477) C dL_law_476 rfl rfl ?_
  refine aw_iconst (n := 478) C dL_law_477 rfl ?_
  refine aw_iadd (n := 479) C dL_law_478 rfl ?_
  refine aw_sld (n := 480) C dL_law_479 rfl E (by omega) (by omega) hL ?_
  refine aw_aldn (n := 481) C dL_law_480 rfl rfl ?_
  refine aw_ildn (n := 482) C dL_law_481 rfl rfl ?_
  refine aw_iconst (n := 483) C dL_law_482 rfl ?_
  refine aw_iadd (n := 484) C dL_law_483 rfl ?_
  refine aw_sld (n := 485) C dL_law_484 rfl E (by omega) (by omega) hL ?_
  refine aw_aldn (n := 486) C dL_law_485 rfl rfl ?_
  refine aw_ildn (n := 487) C dL_law_486 rfl rfl ?_
  refine aw_iconst (n := 488) C dL_law_487 rfl ?_
  refine aw_iadd (n := 489) C dL_law_488 rfl ?_
  refine aw_sld (n := 490) C dL_law_489 rfl E (by omega) (by omega) hL ?_
  refine aw_aldn (n := 491) C dL_law_490 rfl rfl ?_
  refine aw_ildn (n := 492) C dL_law_491 rfl rfl ?_
  refine aw_iconst (n := 493) C dL_law_492 rfl ?_
  refine aw_iadd (n := 494) C dL_law_493 rfl ?_
  refine aw_sld (n := 495) C dL_law_494 rfl E (by omega) (by omega) hL ?_
  refine aw_aldn (n := 496) C dL_law_495 rfl rfl ?_
  refine aw_ildn (n := 497) C dL_law_496 rfl rfl ?_
  refine aw_iconst (n := 498) C dL_law_497 rfl ?_
  refine aw_iadd (n := 499) C dL_law_498 rfl ?_
  refine aw_sld (n := 500) C dL_law_499 rfl E (by omega) (by omega) hL ?_
  refine aw_cVi (n := 503) (vs := [_, _, _, _, _]) C dL_law_500 rfl rfl rfl mm_X6_seating wM_L_49 rfl rfl (Nat.le_of_ble_eq_true rfl) (op_seating I (xz_r _ _) (xz_r _ _) (xz_r _ _) (xz_r _ _) (xz_r _ _)) (by decide) (fun z_500 S_500 q_500 => ?_)
  refine aw_aldn (n := 504) C dL_law_503 rfl rfl ?_
  refine aw_aldn (n := 505) C dL_law_504 rfl rfl ?_
  refine aw_ildn (n := 506) C dL_law_505 rfl rfl ?_
  refine aw_iconst (n := 507) C dL_law_506 rfl ?_
  refine aw_iadd (n := 508) C dL_law_507 rfl ?_
  refine aw_sld (n := 509) C dL_law_508 rfl E (by omega) (by omega) hL ?_
  refine aw_aldn (n := 510) C dL_law_509 rfl rfl ?_
  refine aw_ildn (n := 511) C dL_law_510 rfl rfl ?_
  refine aw_iconst (n := 512) C dL_law_511 rfl ?_
  refine aw_iadd (n := 513) C dL_law_512 rfl ?_
  refine aw_sld (n := 514) C dL_law_513 rfl E (by omega) (by omega) hL ?_
  refine aw_aldn (n := 515) C dL_law_514 rfl rfl ?_
  refine aw_ildn (n := 516) C dL_law_515 rfl rfl ?_
  refine aw_iconst (n := 517) C dL_law_516 rfl ?_
  refine aw_iadd (n := 518) C dL_law_517 rfl ?_
  refine aw_sld (n := 519) C dL_law_518 rfl E (by omega) (by omega) hL ?_
  refine aw_aldn (n := 520) C dL_law_519 rfl rfl ?_
  refine aw_ildn (n := 521) C dL_law_520 rfl rfl ?_
  refine aw_iconst (n := 522) C dL_law_521 rfl ?_
  refine aw_iadd (n := 523) C dL_law_522 rfl ?_
  refine aw_sld (n := 524) C dL_law_523 rfl E (by omega) (by omega) hL ?_
  refine aw_aldn (n := 525) C dL_law_524 rfl rfl ?_
  refine aw_ildn (n := 526) C dL_law_525 rfl rfl ?_
  refine aw_iconst (n := 527) C dL_law_526 rfl ?_
  refine aw_iadd (n := 528) C dL_law_527 rfl ?_
  refine aw_sld (n := 529) C dL_law_528 rfl E (by omega) (by omega) hL ?_
  refine aw_cVi (n := 532) (vs := [_, _, _, _, _]) C dL_law_529 rfl rfl rfl mm_X7_seating wM_L_53 rfl rfl (Nat.le_of_ble_eq_true rfl) (q_500) (by decide) (fun z_529 S_529 q_529 => ?_)
  obtain ⟨e_529, I_529⟩ := q_529
  refine aw_iceqT (tgt := 1149) C dL_law_532 rfl (e_529.symm) ?_
  exact k _ I_529
theorem lw_ease (C : CX X 7 RL cL_law 4) (E : LX X Ln xs) (hi : i + 6 ≤ Ln) (hL : Ln ≤ 384) (I : Inv S) (k : ∀ S', Inv S' → AW X cL_law 4 1149 [some (.inr (.inr 87)), some (.inr (.inr 0)), some (.inr (.inr 66)), some (.inl (i : Int))] [] S') : AW X cL_law 4 537 [some (.inr (.inr 87)), some (.inr (.inr 0)), some (.inr (.inr 66)), some (.inl (i : Int))] [] S := by
  refine aw_aldn (n := 538) C dL_law_537 rfl rfl ?_
  refine aw_aldn (n := 539) C dL_law_538 rfl rfl ?_
  refine aw_ildn (n := 540) C dL_law_539 rfl rfl ?_
  refine aw_iconst (n := 541) C dL_law_540 rfl ?_
  refine aw_iadd (n := 542) C dL_law_541 rfl ?_
  refine aw_sld (n := 543) C dL_law_542 rfl E (by omega) (by omega) hL ?_
  refine aw_cVi (n := 546) (vs := [_]) C dL_law_543 rfl rfl rfl mm_X6_ease wM_L_54 rfl rfl (Nat.le_of_ble_eq_true rfl) (op_ease I (xz_r _ _)) (by decide) (fun z_543 S_543 q_543 => ?_)
  refine aw_aldn (n := 547) C dL_law_546 rfl rfl ?_
  refine aw_aldn (n := 548) C dL_law_547 rfl rfl ?_
  refine aw_ildn (n := 549) C dL_law_548 rfl rfl ?_
  refine aw_iconst (n := 550) C dL_law_549 rfl ?_
  refine aw_iadd (n := 551) C dL_law_550 rfl ?_
  refine aw_sld (n := 552) C dL_law_551 rfl E (by omega) (by omega) hL ?_
  refine aw_cVi (n := 555) (vs := [_]) C dL_law_552 rfl rfl rfl mm_X7_ease wM_L_58 rfl rfl (Nat.le_of_ble_eq_true rfl) (q_543) (by decide) (fun z_552 S_552 q_552 => ?_)
  obtain ⟨e_552, I_552⟩ := q_552
  refine aw_iceqT (tgt := 1149) C dL_law_555 rfl (e_552.symm) ?_
  exact k _ I_552
theorem lw_stuck (C : CX X 7 RL cL_law 4) (E : LX X Ln xs) (hi : i + 6 ≤ Ln) (hL : Ln ≤ 384) (I : Inv S) (k : ∀ S', Inv S' → AW X cL_law 4 1149 [some (.inr (.inr 87)), some (.inr (.inr 0)), some (.inr (.inr 66)), some (.inl (i : Int))] [] S') : AW X cL_law 4 560 [some (.inr (.inr 87)), some (.inr (.inr 0)), some (.inr (.inr 66)), some (.inl (i : Int))] [] S := by
  refine aw_aldn (n := 561) C dL_law_560 rfl rfl ?_
  refine aw_cVi (n := 564) (vs := []) C dL_law_561 rfl rfl rfl mm_X6_stuck wM_L_59 rfl rfl (Nat.le_of_ble_eq_true rfl) (op_stuck I ) (by decide) (fun z_561 S_561 q_561 => ?_)
  refine aw_aldn (n := 565) C dL_law_564 rfl rfl ?_
  refine aw_cVi (n := 568) (vs := []) C dL_law_565 rfl rfl rfl mm_X7_stuck wM_L_63 rfl rfl (Nat.le_of_ble_eq_true rfl) (q_561) (by decide) (fun z_565 S_565 q_565 => ?_)
  obtain ⟨e_565, I_565⟩ := q_565
  refine aw_iceqT (tgt := 1149) C dL_law_568 rfl (e_565.symm) ?_
  exact k _ I_565
theorem lw_help (C : CX X 7 RL cL_law 4) (E : LX X Ln xs) (hi : i + 6 ≤ Ln) (hL : Ln ≤ 384) (I : Inv S) (k : ∀ S', Inv S' → AW X cL_law 4 1149 [some (.inr (.inr 87)), some (.inr (.inr 0)), some (.inr (.inr 66)), some (.inl (i : Int))] [] S') : AW X cL_law 4 573 [some (.inr (.inr 87)), some (.inr (.inr 0)), some (.inr (.inr 66)), some (.inl (i : Int))] [] S := by
  refine aw_aldn (n := 574) C dL_law_573 rfl rfl ?_
  refine aw_aldn (n := 575) C dL_law_574 rfl rfl ?_
  refine aw_ildn (n := 576) C dL_law_575 rfl rfl ?_
  refine aw_iconst (n := 577) C dL_law_576 rfl ?_
  refine aw_iadd (n := 578) C dL_law_577 rfl ?_
  refine aw_sld (n := 579) C dL_law_578 rfl E (by omega) (by omega) hL ?_
  refine aw_aldn (n := 580) C dL_law_579 rfl rfl ?_
  refine aw_ildn (n := 581) C dL_law_580 rfl rfl ?_
  refine aw_iconst (n := 582) C dL_law_581 rfl ?_
  refine aw_iadd (n := 583) C dL_law_582 rfl ?_
  refine aw_sld (n := 584) C dL_law_583 rfl E (by omega) (by omega) hL ?_
  refine aw_aldn (n := 585) C dL_law_584 rfl rfl ?_
  refine aw_ildn (n := 586) C dL_law_585 rfl rfl ?_
  refine aw_iconst (n := 587) C dL_law_586 rfl ?_
  refine aw_iadd (n := 588) C dL_law_587 rfl ?_
  refine aw_sld (n := 589) C dL_law_588 rfl E (by omega) (by omega) hL ?_
  refine aw_cVi (n := 592) (vs := [_, _, _]) C dL_law_589 rfl rfl rfl mm_X6_help wM_L_64 rfl rfl (Nat.le_of_ble_eq_true rfl) (op_help I (xz_r _ _) (xz_r _ _) (xz_r _ _)) (by decide) (fun z_589 S_589 q_589 => ?_)
  refine aw_aldn (n := 593) C dL_law_592 rfl rfl ?_
  refine aw_aldn (n := 594) C dL_law_593 rfl rfl ?_
  refine aw_ildn (n := 595) C dL_law_594 rfl rfl ?_
  refine aw_iconst (n := 596) C dL_law_595 rfl ?_
  refine aw_iadd (n := 597) C dL_law_596 rfl ?_
  refine aw_sld (n := 598) C dL_law_597 rfl E (by omega) (by omega) hL ?_
  refine aw_aldn (n := 599) C dL_law_598 rfl rfl ?_
  refine aw_ildn (n := 600) C dL_law_599 rfl rfl ?_
  refine aw_iconst (n := 601) C dL_law_600 rfl ?_
  refine aw_iadd (n := 602) C dL_law_601 rfl ?_
  refine aw_sld (n := 603) C dL_law_602 rfl E (by omega) (by omega) hL ?_
  refine aw_aldn (n := 604) C dL_law_603 rfl rfl ?_
  refine aw_ildn (n := 605) C dL_law_604 rfl rfl ?_
  refine aw_iconst (n := 606) C dL_law_605 rfl ?_
  refine aw_iadd (n := 607) C dL_law_606 rfl ?_
  refine aw_sld (n := 608) C dL_law_607 rfl E (by omega) (by omega) hL ?_
  refine aw_cVi (n := 611) (vs := [_, _, _]) C dL_law_608 rfl rfl rfl mm_X7_help wM_L_67 rfl rfl (Nat.le_of_ble_eq_true rfl) (q_589) (by decide) (fun z_608 S_608 q_608 => ?_)
  obtain ⟨e_608, I_608⟩ := q_608
  refine aw_iceqT (tgt := 1149) C dL_law_611 rfl (e_608.symm) ?_
  exact k _ I_608
theorem lw_reading (C : CX X 7 RL cL_law 4) (E : LX X Ln xs) (hi : i + 6 ≤ Ln) (hL : Ln ≤ 384) (I : Inv S) (k : ∀ S', Inv S' → AW X cL_law 4 1149 [some (.inr (.inr 87)), some (.inr (.inr 0)), some (.inr (.inr 66)), some (.inl (i : Int))] [] S') : AW X cL_law 4 616 [some (.inr (.inr 87)), some (.inr (.inr 0)), some (.inr (.inr 66)), some (.inl (i : Int))] [] S := by
  refine aw_aldn (n := 617) C dL_law_616 rfl rfl ?_
  refine aw_aldn (n := 618) C dL_law_617 rfl rfl ?_
  refine aw_ildn (n := 619) C dL_law_618 rfl rfl ?_
  refine aw_iconst (n := 620) C dL_law_619 rfl ?_
  refine aw_iadd (n := 621) C dL_law_620 rfl ?_
  refine aw_sld (n := 622) C dL_law_621 rfl E (by omega) (by omega) hL ?_
  refine aw_aldn (n := 623) C dL_law_622 rfl rfl ?_
  refine aw_ildn (n := 624) C dL_law_623 rfl rfl ?_
  refine aw_iconst (n := 625) C dL_law_624 rfl ?_
  refine aw_iadd (n := 626) C dL_law_625 rfl ?_
  refine aw_sld (n := 627) C dL_law_626 rfl E (by omega) (by omega) hL ?_
  refine aw_aldn (n := 628) C dL_law_627 rfl rfl ?_
  refine aw_ildn (n := 629) C dL_law_628 rfl rfl ?_
  refine aw_iconst (n := 630) C dL_law_629 rfl ?_
  refine aw_iadd (n := 631) C dL_law_630 rfl ?_
  refine aw_sld (n := 632) C dL_law_631 rfl E (by omega) (by omega) hL ?_
  refine aw_cVi (n := 635) (vs := [_, _, _]) C dL_law_632 rfl rfl rfl mm_X6_reading wM_L_68 rfl rfl (Nat.le_of_ble_eq_true rfl) (op_reading I (xz_r _ _) (xz_r _ _) (xz_r _ _)) (by decide) (fun z_632 S_632 q_632 => ?_)
  refine aw_aldn (n := 636) C dL_law_635 rfl rfl ?_
  refine aw_aldn (n := 637) C dL_law_636 rfl rfl ?_
  refine aw_ildn (n := 638) C dL_law_637 rfl rfl ?_
  refine aw_iconst (n := 639) C dL_law_638 rfl ?_
  refine aw_iadd (n := 640) C dL_law_639 rfl ?_
  refine aw_sld (n := 641) C dL_law_640 rfl E (by omega) (by omega) hL ?_
  refine aw_aldn (n := 642) C dL_law_641 rfl rfl ?_
  refine aw_ildn (n := 643) C dL_law_642 rfl rfl ?_
  refine aw_iconst (n := 644) C dL_law_643 rfl ?_
  refine aw_iadd (n := 645) C dL_law_644 rfl ?_
  refine aw_sld (n := 646) C dL_law_645 rfl E (by omega) (by omega) hL ?_
  refine aw_aldn (n := 647) C dL_law_646 rfl rfl ?_
  refine aw_ildn (n := 648) C dL_law_647 rfl rfl ?_
  refine aw_iconst (n := 649) C dL_law_648 rfl ?_
  refine aw_iadd (n := 650) C dL_law_649 rfl ?_
  refine aw_sld (n := 651) C dL_law_650 rfl E (by omega) (by omega) hL ?_
  refine aw_cVi (n := 654) (vs := [_, _, _]) C dL_law_651 rfl rfl rfl mm_X7_reading wM_L_71 rfl rfl (Nat.le_of_ble_eq_true rfl) (q_632) (by decide) (fun z_651 S_651 q_651 => ?_)
  obtain ⟨e_651, I_651⟩ := q_651
  refine aw_iceqT (tgt := 1149) C dL_law_654 rfl (e_651.symm) ?_
  exact k _ I_651
theorem lw_back (C : CX X 7 RL cL_law 4) (E : LX X Ln xs) (hi : i + 6 ≤ Ln) (hL : Ln ≤ 384) (I : Inv S) (k : ∀ S', Inv S' → AW X cL_law 4 1149 [some (.inr (.inr 87)), some (.inr (.inr 0)), some (.inr (.inr 66)), some (.inl (i : Int))] [] S') : AW X cL_law 4 659 [some (.inr (.inr 87)), some (.inr (.inr 0)), some (.inr (.inr 66)), some (.inl (i : Int))] [] S := by
  refine aw_aldn (n := 660) C dL_law_659 rfl rfl ?_
  refine aw_aldn (n := 661) C dL_law_660 rfl rfl ?_
  refine aw_ildn (n := 662) C dL_law_661 rfl rfl ?_
  refine aw_iconst (n := 663) C dL_law_662 rfl ?_
  refine aw_iadd (n := 664) C dL_law_663 rfl ?_
  refine aw_sld (n := 665) C dL_law_664 rfl E (by omega) (by omega) hL ?_
  refine aw_cVi (n := 668) (vs := [_]) C dL_law_665 rfl rfl rfl mm_X6_back wM_L_72 rfl rfl (Nat.le_of_ble_eq_true rfl) (op_back I (xz_r _ _)) (by decide) (fun z_665 S_665 q_665 => ?_)
  refine aw_aldn (n := 669) C dL_law_668 rfl rfl ?_
  refine aw_aldn (n := 670) C dL_law_669 rfl rfl ?_
  refine aw_ildn (n := 671) C dL_law_670 rfl rfl ?_
  refine aw_iconst (n := 672) C dL_law_671 rfl ?_
  refine aw_iadd (n := 673) C dL_law_672 rfl ?_
  refine aw_sld (n := 674) C dL_law_673 rfl E (by omega) (by omega) hL ?_
  refine aw_cVi (n := 677) (vs := [_]) C dL_law_674 rfl rfl rfl mm_X7_back wM_L_75 rfl rfl (Nat.le_of_ble_eq_true rfl) (q_665) (by decide) (fun z_674 S_674 q_674 => ?_)
  obtain ⟨e_674, I_674⟩ := q_674
  refine aw_iceqT (tgt := 1149) C dL_law_677 rfl (e_674.symm) ?_
  exact k _ I_674
theorem lw_began (C : CX X 7 RL cL_law 4) (E : LX X Ln xs) (hi : i + 6 ≤ Ln) (hL : Ln ≤ 384) (I : Inv S) (k : ∀ S', Inv S' → AW X cL_law 4 1149 [some (.inr (.inr 87)), some (.inr (.inr 0)), some (.inr (.inr 66)), some (.inl (i : Int))] [] S') : AW X cL_law 4 682 [some (.inr (.inr 87)), some (.inr (.inr 0)), some (.inr (.inr 66)), some (.inl (i : Int))] [] S := by
  refine aw_aldn (n := 683) C dL_law_682 rfl rfl ?_
  refine aw_aldn (n := 684) C dL_law_683 rfl rfl ?_
  refine aw_ildn (n := 685) C dL_law_684 rfl rfl ?_
  refine aw_iconst (n := 686) C dL_law_685 rfl ?_
  refine aw_iadd (n := 687) C dL_law_686 rfl ?_
  refine aw_sld (n := 688) C dL_law_687 rfl E (by omega) (by omega) hL ?_
  refine aw_aldn (n := 689) C dL_law_688 rfl rfl ?_
  refine aw_ildn (n := 690) C dL_law_689 rfl rfl ?_
  refine aw_iconst (n := 691) C dL_law_690 rfl ?_
  refine aw_iadd (n := 692) C dL_law_691 rfl ?_
  refine aw_sld (n := 693) C dL_law_692 rfl E (by omega) (by omega) hL ?_
  refine aw_cVi (n := 696) (vs := [_, _]) C dL_law_693 rfl rfl rfl mm_X6_began wM_L_76 rfl rfl (Nat.le_of_ble_eq_true rfl) (op_began I (xz_r _ _) (xz_r _ _)) (by decide) (fun z_693 S_693 q_693 => ?_)
  refine aw_aldn (n := 697) C dL_law_696 rfl rfl ?_
  refine aw_aldn (n := 698) C dL_law_697 rfl rfl ?_
  refine aw_ildn (n := 699) C dL_law_698 rfl rfl ?_
  refine aw_iconst (n := 700) C dL_law_699 rfl ?_
  refine aw_iadd (n := 701) C dL_law_700 rfl ?_
  refine aw_sld (n := 702) C dL_law_701 rfl E (by omega) (by omega) hL ?_
  refine aw_aldn (n := 703) C dL_law_702 rfl rfl ?_
  refine aw_ildn (n := 704) C dL_law_703 rfl rfl ?_
  refine aw_iconst (n := 705) C dL_law_704 rfl ?_
  refine aw_iadd (n := 706) C dL_law_705 rfl ?_
  refine aw_sld (n := 707) C dL_law_706 rfl E (by omega) (by omega) hL ?_
  refine aw_cVi (n := 710) (vs := [_, _]) C dL_law_707 rfl rfl rfl mm_X7_began wM_L_79 rfl rfl (Nat.le_of_ble_eq_true rfl) (q_693) (by decide) (fun z_707 S_707 q_707 => ?_)
  obtain ⟨e_707, I_707⟩ := q_707
  refine aw_iceqT (tgt := 1149) C dL_law_710 rfl (e_707.symm) ?_
  exact k _ I_707
theorem lw_kinds (C : CX X 7 RL cL_law 4) (E : LX X Ln xs) (hi : i + 6 ≤ Ln) (hL : Ln ≤ 384) (I : Inv S) (k : ∀ S', Inv S' → AW X cL_law 4 1149 [some (.inr (.inr 87)), some (.inr (.inr 0)), some (.inr (.inr 66)), some (.inl (i : Int))] [] S') : AW X cL_law 4 715 [some (.inr (.inr 87)), some (.inr (.inr 0)), some (.inr (.inr 66)), some (.inl (i : Int))] [] S := by
  refine aw_aldn (n := 716) C dL_law_715 rfl rfl ?_
  refine aw_aldn (n := 717) C dL_law_716 rfl rfl ?_
  refine aw_ildn (n := 718) C dL_law_717 rfl rfl ?_
  refine aw_iconst (n := 719) C dL_law_718 rfl ?_
  refine aw_iadd (n := 720) C dL_law_719 rfl ?_
  refine aw_sld (n := 721) C dL_law_720 rfl E (by omega) (by omega) hL ?_
  refine aw_cVi (n := 724) (vs := [_]) C dL_law_721 rfl rfl rfl mm_X6_kinds wM_L_80 rfl rfl (Nat.le_of_ble_eq_true rfl) (op_kinds I (xz_r _ _)) (by decide) (fun z_721 S_721 q_721 => ?_)
  refine aw_aldn (n := 725) C dL_law_724 rfl rfl ?_
  refine aw_aldn (n := 726) C dL_law_725 rfl rfl ?_
  refine aw_ildn (n := 727) C dL_law_726 rfl rfl ?_
  refine aw_iconst (n := 728) C dL_law_727 rfl ?_
  refine aw_iadd (n := 729) C dL_law_728 rfl ?_
  refine aw_sld (n := 730) C dL_law_729 rfl E (by omega) (by omega) hL ?_
  refine aw_cVi (n := 733) (vs := [_]) C dL_law_730 rfl rfl rfl mm_X7_kinds wM_L_83 rfl rfl (Nat.le_of_ble_eq_true rfl) (q_721) (by decide) (fun z_730 S_730 q_730 => ?_)
  obtain ⟨e_730, I_730⟩ := q_730
  refine aw_iceqT (tgt := 1149) C dL_law_733 rfl (e_730.symm) ?_
  exact k _ I_730
theorem lw_fadings (C : CX X 7 RL cL_law 4) (E : LX X Ln xs) (hi : i + 6 ≤ Ln) (hL : Ln ≤ 384) (I : Inv S) (k : ∀ S', Inv S' → AW X cL_law 4 1149 [some (.inr (.inr 87)), some (.inr (.inr 0)), some (.inr (.inr 66)), some (.inl (i : Int))] [] S') : AW X cL_law 4 738 [some (.inr (.inr 87)), some (.inr (.inr 0)), some (.inr (.inr 66)), some (.inl (i : Int))] [] S := by
  refine aw_aldn (n := 739) C dL_law_738 rfl rfl ?_
  refine aw_aldn (n := 740) C dL_law_739 rfl rfl ?_
  refine aw_ildn (n := 741) C dL_law_740 rfl rfl ?_
  refine aw_iconst (n := 742) C dL_law_741 rfl ?_
  refine aw_iadd (n := 743) C dL_law_742 rfl ?_
  refine aw_sld (n := 744) C dL_law_743 rfl E (by omega) (by omega) hL ?_
  refine aw_cVi (n := 747) (vs := [_]) C dL_law_744 rfl rfl rfl mm_X6_fadings wM_L_84 rfl rfl (Nat.le_of_ble_eq_true rfl) (op_fadings I (xz_r _ _)) (by decide) (fun z_744 S_744 q_744 => ?_)
  refine aw_aldn (n := 748) C dL_law_747 rfl rfl ?_
  refine aw_aldn (n := 749) C dL_law_748 rfl rfl ?_
  refine aw_ildn (n := 750) C dL_law_749 rfl rfl ?_
  refine aw_iconst (n := 751) C dL_law_750 rfl ?_
  refine aw_iadd (n := 752) C dL_law_751 rfl ?_
  refine aw_sld (n := 753) C dL_law_752 rfl E (by omega) (by omega) hL ?_
  refine aw_cVi (n := 756) (vs := [_]) C dL_law_753 rfl rfl rfl mm_X7_fadings wM_L_87 rfl rfl (Nat.le_of_ble_eq_true rfl) (q_744) (by decide) (fun z_753 S_753 q_753 => ?_)
  obtain ⟨e_753, I_753⟩ := q_753
  refine aw_iceqT (tgt := 1149) C dL_law_756 rfl (e_753.symm) ?_
  exact k _ I_753
theorem lw_odds (C : CX X 7 RL cL_law 4) (E : LX X Ln xs) (hi : i + 6 ≤ Ln) (hL : Ln ≤ 384) (I : Inv S) (k : ∀ S', Inv S' → AW X cL_law 4 1149 [some (.inr (.inr 87)), some (.inr (.inr 0)), some (.inr (.inr 66)), some (.inl (i : Int))] [] S') : AW X cL_law 4 761 [some (.inr (.inr 87)), some (.inr (.inr 0)), some (.inr (.inr 66)), some (.inl (i : Int))] [] S := by
  refine aw_aldn (n := 762) C dL_law_761 rfl rfl ?_
  refine aw_aldn (n := 763) C dL_law_762 rfl rfl ?_
  refine aw_ildn (n := 764) C dL_law_763 rfl rfl ?_
  refine aw_iconst (n := 765) C dL_law_764 rfl ?_
  refine aw_iadd (n := 766) C dL_law_765 rfl ?_
  refine aw_sld (n := 767) C dL_law_766 rfl E (by omega) (by omega) hL ?_
  refine aw_aldn (n := 768) C dL_law_767 rfl rfl ?_
  refine aw_ildn (n := 769) C dL_law_768 rfl rfl ?_
  refine aw_iconst (n := 770) C dL_law_769 rfl ?_
  refine aw_iadd (n := 771) C dL_law_770 rfl ?_
  refine aw_sld (n := 772) C dL_law_771 rfl E (by omega) (by omega) hL ?_
  refine aw_aldn (n := 773) C dL_law_772 rfl rfl ?_
  refine aw_ildn (n := 774) C dL_law_773 rfl rfl ?_
  refine aw_iconst (n := 775) C dL_law_774 rfl ?_
  refine aw_iadd (n := 776) C dL_law_775 rfl ?_
  refine aw_sld (n := 777) C dL_law_776 rfl E (by omega) (by omega) hL ?_
  refine aw_cVl (n := 780) (vs := [_, _, _]) C dL_law_777 rfl rfl rfl mm_X6_odds wM_L_88 rfl rfl (Nat.le_of_ble_eq_true rfl) (op_odds I (xz_r _ _) (xz_r _ _) (xz_r _ _)) (by decide) (fun z_777 S_777 q_777 => ?_)
  refine aw_aldn (n := 781) C dL_law_780 rfl rfl ?_
  refine aw_aldn (n := 782) C dL_law_781 rfl rfl ?_
  refine aw_ildn (n := 783) C dL_law_782 rfl rfl ?_
  refine aw_iconst (n := 784) C dL_law_783 rfl ?_
  refine aw_iadd (n := 785) C dL_law_784 rfl ?_
  refine aw_sld (n := 786) C dL_law_785 rfl E (by omega) (by omega) hL ?_
  refine aw_aldn (n := 787) C dL_law_786 rfl rfl ?_
  refine aw_ildn (n := 788) C dL_law_787 rfl rfl ?_
  refine aw_iconst (n := 789) C dL_law_788 rfl ?_
  refine aw_iadd (n := 790) C dL_law_789 rfl ?_
  refine aw_sld (n := 791) C dL_law_790 rfl E (by omega) (by omega) hL ?_
  refine aw_aldn (n := 792) C dL_law_791 rfl rfl ?_
  refine aw_ildn (n := 793) C dL_law_792 rfl rfl ?_
  refine aw_iconst (n := 794) C dL_law_793 rfl ?_
  refine aw_iadd (n := 795) C dL_law_794 rfl ?_
  refine aw_sld (n := 796) C dL_law_795 rfl E (by omega) (by omega) hL ?_
  refine aw_cVl (n := 799) (vs := [_, _, _]) C dL_law_796 rfl rfl rfl mm_X7_odds wM_L_92 rfl rfl (Nat.le_of_ble_eq_true rfl) (q_777) (by decide) (fun z_796 S_796 q_796 => ?_)
  obtain ⟨e_796, I_796⟩ := q_796
  refine aw_lcmp (n := 800) C dL_law_799 rfl (by rw [e_796]; exact lcmp_same _) ?_
  refine aw_ifeq (tgt := 1149) (n := 803) C dL_law_800 rfl rfl am_r0 (fun h_800 => ?_) (fun h_800 => ?_)
  · exact k _ I_796
  · exact absurd rfl h_800
theorem lw_sheet (C : CX X 7 RL cL_law 4) (E : LX X Ln xs) (hi : i + 6 ≤ Ln) (hL : Ln ≤ 384) (I : Inv S) (k : ∀ S', Inv S' → AW X cL_law 4 1149 [some (.inr (.inr 87)), some (.inr (.inr 0)), some (.inr (.inr 66)), some (.inl (i : Int))] [] S') : AW X cL_law 4 805 [some (.inr (.inr 87)), some (.inr (.inr 0)), some (.inr (.inr 66)), some (.inl (i : Int))] [] S := by
  refine aw_aldn (n := 806) C dL_law_805 rfl rfl ?_
  refine aw_aldn (n := 807) C dL_law_806 rfl rfl ?_
  refine aw_ildn (n := 808) C dL_law_807 rfl rfl ?_
  refine aw_iconst (n := 809) C dL_law_808 rfl ?_
  refine aw_iadd (n := 810) C dL_law_809 rfl ?_
  refine aw_sld (n := 811) C dL_law_810 rfl E (by omega) (by omega) hL ?_
  refine aw_aldn (n := 812) C dL_law_811 rfl rfl ?_
  refine aw_ildn (n := 813) C dL_law_812 rfl rfl ?_
  refine aw_iconst (n := 814) C dL_law_813 rfl ?_
  refine aw_iadd (n := 815) C dL_law_814 rfl ?_
  refine aw_sld (n := 816) C dL_law_815 rfl E (by omega) (by omega) hL ?_
  refine aw_aldn (n := 817) C dL_law_816 rfl rfl ?_
  refine aw_ildn (n := 818) C dL_law_817 rfl rfl ?_
  refine aw_iconst (n := 819) C dL_law_818 rfl ?_
  refine aw_iadd (n := 820) C dL_law_819 rfl ?_
  refine aw_sld (n := 821) C dL_law_820 rfl E (by omega) (by omega) hL ?_
  refine aw_cVi (n := 824) (vs := [_, _, _]) C dL_law_821 rfl rfl rfl mm_X6_sheet wM_L_93 rfl rfl (Nat.le_of_ble_eq_true rfl) (op_sheet I (xz_r _ _) (xz_r _ _) (xz_r _ _)) (by decide) (fun z_821 S_821 q_821 => ?_)
  refine aw_aldn (n := 825) C dL_law_824 rfl rfl ?_
  refine aw_aldn (n := 826) C dL_law_825 rfl rfl ?_
  refine aw_ildn (n := 827) C dL_law_826 rfl rfl ?_
  refine aw_iconst (n := 828) C dL_law_827 rfl ?_
  refine aw_iadd (n := 829) C dL_law_828 rfl ?_
  refine aw_sld (n := 830) C dL_law_829 rfl E (by omega) (by omega) hL ?_
  refine aw_aldn (n := 831) C dL_law_830 rfl rfl ?_
  refine aw_ildn (n := 832) C dL_law_831 rfl rfl ?_
  refine aw_iconst (n := 833) C dL_law_832 rfl ?_
  refine aw_iadd (n := 834) C dL_law_833 rfl ?_
  refine aw_sld (n := 835) C dL_law_834 rfl E (by omega) (by omega) hL ?_
  refine aw_aldn (n := 836) C dL_law_835 rfl rfl ?_
  refine aw_ildn (n := 837) C dL_law_836 rfl rfl ?_
  refine aw_iconst (n := 838) C dL_law_837 rfl ?_
  refine aw_iadd (n := 839) C dL_law_838 rfl ?_
  refine aw_sld (n := 840) C dL_law_839 rfl E (by omega) (by omega) hL ?_
  refine aw_cVi (n := 843) (vs := [_, _, _]) C dL_law_840 rfl rfl rfl mm_X7_sheet wM_L_96 rfl rfl (Nat.le_of_ble_eq_true rfl) (q_821) (by decide) (fun z_840 S_840 q_840 => ?_)
  obtain ⟨e_840, I_840⟩ := q_840
  refine aw_iceqT (tgt := 1149) C dL_law_843 rfl (e_840.symm) ?_
  exact k _ I_840
theorem lw_lose (C : CX X 7 RL cL_law 4) (E : LX X Ln xs) (hi : i + 6 ≤ Ln) (hL : Ln ≤ 384) (I : Inv S) (k : ∀ S', Inv S' → AW X cL_law 4 1149 [some (.inr (.inr 87)), some (.inr (.inr 0)), some (.inr (.inr 66)), some (.inl (i : Int))] [] S') : AW X cL_law 4 848 [some (.inr (.inr 87)), some (.inr (.inr 0)), some (.inr (.inr 66)), some (.inl (i : Int))] [] S := by
  refine aw_aldn (n := 849) C dL_law_848 rfl rfl ?_
  refine aw_aldn (n := 850) C dL_law_849 rfl rfl ?_
  refine aw_ildn (n := 851) C dL_law_850 rfl rfl ?_
  refine aw_iconst (n := 852) C dL_law_851 rfl ?_
  refine aw_iadd (n := 853) C dL_law_852 rfl ?_
  refine aw_sld (n := 854) C dL_law_853 rfl E (by omega) (by omega) hL ?_
  refine aw_cVi (n := 857) (vs := [_]) C dL_law_854 rfl rfl rfl mm_X6_lose wM_L_97 rfl rfl (Nat.le_of_ble_eq_true rfl) (op_lose I (xz_r _ _)) (by decide) (fun z_854 S_854 q_854 => ?_)
  refine aw_aldn (n := 858) C dL_law_857 rfl rfl ?_
  refine aw_aldn (n := 859) C dL_law_858 rfl rfl ?_
  refine aw_ildn (n := 860) C dL_law_859 rfl rfl ?_
  refine aw_iconst (n := 861) C dL_law_860 rfl ?_
  refine aw_iadd (n := 862) C dL_law_861 rfl ?_
  refine aw_sld (n := 863) C dL_law_862 rfl E (by omega) (by omega) hL ?_
  refine aw_cVi (n := 866) (vs := [_]) C dL_law_863 rfl rfl rfl mm_X7_lose wM_L_100 rfl rfl (Nat.le_of_ble_eq_true rfl) (q_854) (by decide) (fun z_863 S_863 q_863 => ?_)
  obtain ⟨e_863, I_863⟩ := q_863
  refine aw_iceqT (tgt := 1149) C dL_law_866 rfl (e_863.symm) ?_
  exact k _ I_863
theorem lw_put (C : CX X 7 RL cL_law 4) (E : LX X Ln xs) (hi : i + 6 ≤ Ln) (hL : Ln ≤ 384) (I : Inv S) (k : ∀ S', Inv S' → AW X cL_law 4 1149 [some (.inr (.inr 87)), some (.inr (.inr 0)), some (.inr (.inr 66)), some (.inl (i : Int))] [] S') : AW X cL_law 4 871 [some (.inr (.inr 87)), some (.inr (.inr 0)), some (.inr (.inr 66)), some (.inl (i : Int))] [] S := by
  refine aw_aldn (n := 872) C dL_law_871 rfl rfl ?_
  refine aw_aldn (n := 873) C dL_law_872 rfl rfl ?_
  refine aw_ildn (n := 874) C dL_law_873 rfl rfl ?_
  refine aw_iconst (n := 875) C dL_law_874 rfl ?_
  refine aw_iadd (n := 876) C dL_law_875 rfl ?_
  refine aw_sld (n := 877) C dL_law_876 rfl E (by omega) (by omega) hL ?_
  refine aw_aldn (n := 878) C dL_law_877 rfl rfl ?_
  refine aw_ildn (n := 879) C dL_law_878 rfl rfl ?_
  refine aw_iconst (n := 880) C dL_law_879 rfl ?_
  refine aw_iadd (n := 881) C dL_law_880 rfl ?_
  refine aw_sld (n := 882) C dL_law_881 rfl E (by omega) (by omega) hL ?_
  refine aw_aldn (n := 883) C dL_law_882 rfl rfl ?_
  refine aw_ildn (n := 884) C dL_law_883 rfl rfl ?_
  refine aw_iconst (n := 885) C dL_law_884 rfl ?_
  refine aw_iadd (n := 886) C dL_law_885 rfl ?_
  refine aw_sld (n := 887) C dL_law_886 rfl E (by omega) (by omega) hL ?_
  refine aw_cVi (n := 890) (vs := [_, _, _]) C dL_law_887 rfl rfl rfl mm_X6_put wM_L_101 rfl rfl (Nat.le_of_ble_eq_true rfl) (op_put I (xz_r _ _) (xz_r _ _) (xz_r _ _)) (by decide) (fun z_887 S_887 q_887 => ?_)
  refine aw_aldn (n := 891) C dL_law_890 rfl rfl ?_
  refine aw_aldn (n := 892) C dL_law_891 rfl rfl ?_
  refine aw_ildn (n := 893) C dL_law_892 rfl rfl ?_
  refine aw_iconst (n := 894) C dL_law_893 rfl ?_
  refine aw_iadd (n := 895) C dL_law_894 rfl ?_
  refine aw_sld (n := 896) C dL_law_895 rfl E (by omega) (by omega) hL ?_
  refine aw_aldn (n := 897) C dL_law_896 rfl rfl ?_
  refine aw_ildn (n := 898) C dL_law_897 rfl rfl ?_
  refine aw_iconst (n := 899) C dL_law_898 rfl ?_
  refine aw_iadd (n := 900) C dL_law_899 rfl ?_
  refine aw_sld (n := 901) C dL_law_900 rfl E (by omega) (by omega) hL ?_
  refine aw_aldn (n := 902) C dL_law_901 rfl rfl ?_
  refine aw_ildn (n := 903) C dL_law_902 rfl rfl ?_
  refine aw_iconst (n := 904) C dL_law_903 rfl ?_
  refine aw_iadd (n := 905) C dL_law_904 rfl ?_
  refine aw_sld (n := 906) C dL_law_905 rfl E (by omega) (by omega) hL ?_
  refine aw_cVi (n := 909) (vs := [_, _, _]) C dL_law_906 rfl rfl rfl mm_X7_put wM_L_104 rfl rfl (Nat.le_of_ble_eq_true rfl) (q_887) (by decide) (fun z_906 S_906 q_906 => ?_)
  obtain ⟨e_906, I_906⟩ := q_906
  refine aw_iceqT (tgt := 1149) C dL_law_909 rfl (e_906.symm) ?_
  exact k _ I_906
theorem lw_cell (C : CX X 7 RL cL_law 4) (E : LX X Ln xs) (hi : i + 6 ≤ Ln) (hL : Ln ≤ 384) (I : Inv S) (k : ∀ S', Inv S' → AW X cL_law 4 1149 [some (.inr (.inr 87)), some (.inr (.inr 0)), some (.inr (.inr 66)), some (.inl (i : Int))] [] S') : AW X cL_law 4 914 [some (.inr (.inr 87)), some (.inr (.inr 0)), some (.inr (.inr 66)), some (.inl (i : Int))] [] S := by
  refine aw_aldn (n := 915) C dL_law_914 rfl rfl ?_
  refine aw_aldn (n := 916) C dL_law_915 rfl rfl ?_
  refine aw_ildn (n := 917) C dL_law_916 rfl rfl ?_
  refine aw_iconst (n := 918) C dL_law_917 rfl ?_
  refine aw_iadd (n := 919) C dL_law_918 rfl ?_
  refine aw_sld (n := 920) C dL_law_919 rfl E (by omega) (by omega) hL ?_
  refine aw_aldn (n := 921) C dL_law_920 rfl rfl ?_
  refine aw_ildn (n := 922) C dL_law_921 rfl rfl ?_
  refine aw_iconst (n := 923) C dL_law_922 rfl ?_
  refine aw_iadd (n := 924) C dL_law_923 rfl ?_
  refine aw_sld (n := 925) C dL_law_924 rfl E (by omega) (by omega) hL ?_
  refine aw_aldn (n := 926) C dL_law_925 rfl rfl ?_
  refine aw_ildn (n := 927) C dL_law_926 rfl rfl ?_
  refine aw_iconst (n := 928) C dL_law_927 rfl ?_
  refine aw_iadd (n := 929) C dL_law_928 rfl ?_
  refine aw_sld (n := 930) C dL_law_929 rfl E (by omega) (by omega) hL ?_
  refine aw_cVl (n := 933) (vs := [_, _, _]) C dL_law_930 rfl rfl rfl mm_X6_cell wM_L_105 rfl rfl (Nat.le_of_ble_eq_true rfl) (op_cell I (xz_r _ _) (xz_r _ _) (xz_r _ _)) (by decide) (fun z_930 S_930 q_930 => ?_)
  refine aw_aldn (n := 934) C dL_law_933 rfl rfl ?_
  refine aw_aldn (n := 935) C dL_law_934 rfl rfl ?_
  refine aw_ildn (n := 936) C dL_law_935 rfl rfl ?_
  refine aw_iconst (n := 937) C dL_law_936 rfl ?_
  refine aw_iadd (n := 938) C dL_law_937 rfl ?_
  refine aw_sld (n := 939) C dL_law_938 rfl E (by omega) (by omega) hL ?_
  refine aw_aldn (n := 940) C dL_law_939 rfl rfl ?_
  refine aw_ildn (n := 941) C dL_law_940 rfl rfl ?_
  refine aw_iconst (n := 942) C dL_law_941 rfl ?_
  refine aw_iadd (n := 943) C dL_law_942 rfl ?_
  refine aw_sld (n := 944) C dL_law_943 rfl E (by omega) (by omega) hL ?_
  refine aw_aldn (n := 945) C dL_law_944 rfl rfl ?_
  refine aw_ildn (n := 946) C dL_law_945 rfl rfl ?_
  refine aw_iconst (n := 947) C dL_law_946 rfl ?_
  refine aw_iadd (n := 948) C dL_law_947 rfl ?_
  refine aw_sld (n := 949) C dL_law_948 rfl E (by omega) (by omega) hL ?_
  refine aw_cVl (n := 952) (vs := [_, _, _]) C dL_law_949 rfl rfl rfl mm_X7_cell wM_L_108 rfl rfl (Nat.le_of_ble_eq_true rfl) (q_930) (by decide) (fun z_949 S_949 q_949 => ?_)
  obtain ⟨e_949, I_949⟩ := q_949
  refine aw_lcmp (n := 953) C dL_law_952 rfl (by rw [e_949]; exact lcmp_same _) ?_
  refine aw_ifeq (tgt := 1149) (n := 956) C dL_law_953 rfl rfl am_r0 (fun h_953 => ?_) (fun h_953 => ?_)
  · exact k _ I_949
  · exact absurd rfl h_953
theorem lw_copy (C : CX X 7 RL cL_law 4) (E : LX X Ln xs) (hi : i + 6 ≤ Ln) (hL : Ln ≤ 384) (I : Inv S) (k : ∀ S', Inv S' → AW X cL_law 4 1149 [some (.inr (.inr 87)), some (.inr (.inr 0)), some (.inr (.inr 66)), some (.inl (i : Int))] [] S') : AW X cL_law 4 958 [some (.inr (.inr 87)), some (.inr (.inr 0)), some (.inr (.inr 66)), some (.inl (i : Int))] [] S := by
  refine aw_aldn (n := 959) C dL_law_958 rfl rfl ?_
  refine aw_aldn (n := 960) C dL_law_959 rfl rfl ?_
  refine aw_ildn (n := 961) C dL_law_960 rfl rfl ?_
  refine aw_iconst (n := 962) C dL_law_961 rfl ?_
  refine aw_iadd (n := 963) C dL_law_962 rfl ?_
  refine aw_sld (n := 964) C dL_law_963 rfl E (by omega) (by omega) hL ?_
  refine aw_aldn (n := 965) C dL_law_964 rfl rfl ?_
  refine aw_ildn (n := 966) C dL_law_965 rfl rfl ?_
  refine aw_iconst (n := 967) C dL_law_966 rfl ?_
  refine aw_iadd (n := 968) C dL_law_967 rfl ?_
  refine aw_sld (n := 969) C dL_law_968 rfl E (by omega) (by omega) hL ?_
  refine aw_aldn (n := 970) C dL_law_969 rfl rfl ?_
  refine aw_ildn (n := 971) C dL_law_970 rfl rfl ?_
  refine aw_iconst (n := 972) C dL_law_971 rfl ?_
  refine aw_iadd (n := 973) C dL_law_972 rfl ?_
  refine aw_sld (n := 974) C dL_law_973 rfl E (by omega) (by omega) hL ?_
  refine aw_aldn (n := 975) C dL_law_974 rfl rfl ?_
  refine aw_ildn (n := 976) C dL_law_975 rfl rfl ?_
  refine aw_iconst (n := 977) C dL_law_976 rfl ?_
  refine aw_iadd (n := 978) C dL_law_977 rfl ?_
  refine aw_sld (n := 979) C dL_law_978 rfl E (by omega) (by omega) hL ?_
  refine aw_aldn (n := 980) C dL_law_979 rfl rfl ?_
  refine aw_ildn (n := 981) C dL_law_980 rfl rfl ?_
  refine aw_iconst (n := 982) C dL_law_981 rfl ?_
  refine aw_iadd (n := 983) C dL_law_982 rfl ?_
  refine aw_sld (n := 984) C dL_law_983 rfl E (by omega) (by omega) hL ?_
  refine aw_cVi (n := 987) (vs := [_, _, _, _, _]) C dL_law_984 rfl rfl rfl mm_X6_copy wM_L_109 rfl rfl (Nat.le_of_ble_eq_true rfl) (op_copy I (xz_r _ _) (xz_r _ _) (xz_r _ _) (xz_r _ _) (xz_r _ _)) (by decide) (fun z_984 S_984 q_984 => ?_)
  refine aw_aldn (n := 988) C dL_law_987 rfl rfl ?_
  refine aw_aldn (n := 989) C dL_law_988 rfl rfl ?_
  refine aw_ildn (n := 990) C dL_law_989 rfl rfl ?_
  refine aw_iconst (n := 991) C dL_law_990 rfl ?_
  refine aw_iadd (n := 992) C dL_law_991 rfl ?_
  refine aw_sld (n := 993) C dL_law_992 rfl E (by omega) (by omega) hL ?_
  refine aw_aldn (n := 994) C dL_law_993 rfl rfl ?_
  refine aw_ildn (n := 995) C dL_law_994 rfl rfl ?_
  refine aw_iconst (n := 996) C dL_law_995 rfl ?_
  refine aw_iadd (n := 997) C dL_law_996 rfl ?_
  refine aw_sld (n := 998) C dL_law_997 rfl E (by omega) (by omega) hL ?_
  refine aw_aldn (n := 999) C dL_law_998 rfl rfl ?_
  refine aw_ildn (n := 1000) C dL_law_999 rfl rfl ?_
  refine aw_iconst (n := 1001) C dL_law_1000 rfl ?_
  refine aw_iadd (n := 1002) C dL_law_1001 rfl ?_
  refine aw_sld (n := 1003) C dL_law_1002 rfl E (by omega) (by omega) hL ?_
  refine aw_aldn (n := 1004) C dL_law_1003 rfl rfl ?_
  refine aw_ildn (n := 1005) C dL_law_1004 rfl rfl ?_
  refine aw_iconst (n := 1006) C dL_law_1005 rfl ?_
  refine aw_iadd (n := 1007) C dL_law_1006 rfl ?_
  refine aw_sld (n := 1008) C dL_law_1007 rfl E (by omega) (by omega) hL ?_
  refine aw_aldn (n := 1009) C dL_law_1008 rfl rfl ?_
  refine aw_ildn (n := 1010) C dL_law_1009 rfl rfl ?_
  refine aw_iconst (n := 1011) C dL_law_1010 rfl ?_
  refine aw_iadd (n := 1012) C dL_law_1011 rfl ?_
  refine aw_sld (n := 1013) C dL_law_1012 rfl E (by omega) (by omega) hL ?_
  refine aw_cVi (n := 1016) (vs := [_, _, _, _, _]) C dL_law_1013 rfl rfl rfl mm_X7_copy wM_L_112 rfl rfl (Nat.le_of_ble_eq_true rfl) (q_984) (by decide) (fun z_1013 S_1013 q_1013 => ?_)
  obtain ⟨e_1013, I_1013⟩ := q_1013
  refine aw_iceqT (tgt := 1149) C dL_law_1016 rfl (e_1013.symm) ?_
  exact k _ I_1013
theorem lw_tell (C : CX X 7 RL cL_law 4) (E : LX X Ln xs) (hi : i + 6 ≤ Ln) (hL : Ln ≤ 384) (I : Inv S) (k : ∀ S', Inv S' → AW X cL_law 4 1149 [some (.inr (.inr 87)), some (.inr (.inr 0)), some (.inr (.inr 66)), some (.inl (i : Int))] [] S') : AW X cL_law 4 1021 [some (.inr (.inr 87)), some (.inr (.inr 0)), some (.inr (.inr 66)), some (.inl (i : Int))] [] S := by
  refine aw_aldn (n := 1022) C dL_law_1021 rfl rfl ?_
  refine aw_aldn (n := 1023) C dL_law_1022 rfl rfl ?_
  refine aw_ildn (n := 1024) C dL_law_1023 rfl rfl ?_
  refine aw_iconst (n := 1025) C dL_law_1024 rfl ?_
  refine aw_iadd (n := 1026) C dL_law_1025 rfl ?_
  refine aw_sld (n := 1027) C dL_law_1026 rfl E (by omega) (by omega) hL ?_
  refine aw_cVi (n := 1030) (vs := [_]) C dL_law_1027 rfl rfl rfl mm_X6_tell wM_L_113 rfl rfl (Nat.le_of_ble_eq_true rfl) (op_tell I (xz_r _ _)) (by decide) (fun z_1027 S_1027 q_1027 => ?_)
  refine aw_aldn (n := 1031) C dL_law_1030 rfl rfl ?_
  refine aw_aldn (n := 1032) C dL_law_1031 rfl rfl ?_
  refine aw_ildn (n := 1033) C dL_law_1032 rfl rfl ?_
  refine aw_iconst (n := 1034) C dL_law_1033 rfl ?_
  refine aw_iadd (n := 1035) C dL_law_1034 rfl ?_
  refine aw_sld (n := 1036) C dL_law_1035 rfl E (by omega) (by omega) hL ?_
  refine aw_cVi (n := 1039) (vs := [_]) C dL_law_1036 rfl rfl rfl mm_X7_tell wM_L_116 rfl rfl (Nat.le_of_ble_eq_true rfl) (q_1027) (by decide) (fun z_1036 S_1036 q_1036 => ?_)
  obtain ⟨e_1036, I_1036⟩ := q_1036
  refine aw_iceqT (tgt := 1149) C dL_law_1039 rfl (e_1036.symm) ?_
  exact k _ I_1036
theorem lw_call (C : CX X 7 RL cL_law 4) (E : LX X Ln xs) (hi : i + 6 ≤ Ln) (hL : Ln ≤ 384) (I : Inv S) (k : ∀ S', Inv S' → AW X cL_law 4 1149 [some (.inr (.inr 87)), some (.inr (.inr 0)), some (.inr (.inr 66)), some (.inl (i : Int))] [] S') : AW X cL_law 4 1044 [some (.inr (.inr 87)), some (.inr (.inr 0)), some (.inr (.inr 66)), some (.inl (i : Int))] [] S := by
  refine aw_aldn (n := 1045) C dL_law_1044 rfl rfl ?_
  refine aw_aldn (n := 1046) C dL_law_1045 rfl rfl ?_
  refine aw_ildn (n := 1047) C dL_law_1046 rfl rfl ?_
  refine aw_iconst (n := 1048) C dL_law_1047 rfl ?_
  refine aw_iadd (n := 1049) C dL_law_1048 rfl ?_
  refine aw_sld (n := 1050) C dL_law_1049 rfl E (by omega) (by omega) hL ?_
  refine aw_cVi (n := 1053) (vs := [_]) C dL_law_1050 rfl rfl rfl mm_X6_call wM_L_117 rfl rfl (Nat.le_of_ble_eq_true rfl) (op_call I (xz_r _ _)) (by decide) (fun z_1050 S_1050 q_1050 => ?_)
  refine aw_aldn (n := 1054) C dL_law_1053 rfl rfl ?_
  refine aw_aldn (n := 1055) C dL_law_1054 rfl rfl ?_
  refine aw_ildn (n := 1056) C dL_law_1055 rfl rfl ?_
  refine aw_iconst (n := 1057) C dL_law_1056 rfl ?_
  refine aw_iadd (n := 1058) C dL_law_1057 rfl ?_
  refine aw_sld (n := 1059) C dL_law_1058 rfl E (by omega) (by omega) hL ?_
  refine aw_cVi (n := 1062) (vs := [_]) C dL_law_1059 rfl rfl rfl mm_X7_call wM_L_120 rfl rfl (Nat.le_of_ble_eq_true rfl) (q_1050) (by decide) (fun z_1059 S_1059 q_1059 => ?_)
  obtain ⟨e_1059, I_1059⟩ := q_1059
  refine aw_iceqT (tgt := 1149) C dL_law_1062 rfl (e_1059.symm) ?_
  exact k _ I_1059
theorem lw_as (C : CX X 7 RL cL_law 4) (E : LX X Ln xs) (hi : i + 6 ≤ Ln) (hL : Ln ≤ 384) (I : Inv S) (k : ∀ S', Inv S' → AW X cL_law 4 1149 [some (.inr (.inr 87)), some (.inr (.inr 0)), some (.inr (.inr 66)), some (.inl (i : Int))] [] S') : AW X cL_law 4 1067 [some (.inr (.inr 87)), some (.inr (.inr 0)), some (.inr (.inr 66)), some (.inl (i : Int))] [] S := by
  refine aw_aldn (n := 1068) C dL_law_1067 rfl rfl ?_
  refine aw_aldn (n := 1069) C dL_law_1068 rfl rfl ?_
  refine aw_ildn (n := 1070) C dL_law_1069 rfl rfl ?_
  refine aw_iconst (n := 1071) C dL_law_1070 rfl ?_
  refine aw_iadd (n := 1072) C dL_law_1071 rfl ?_
  refine aw_sld (n := 1073) C dL_law_1072 rfl E (by omega) (by omega) hL ?_
  refine aw_aldn (n := 1074) C dL_law_1073 rfl rfl ?_
  refine aw_ildn (n := 1075) C dL_law_1074 rfl rfl ?_
  refine aw_iconst (n := 1076) C dL_law_1075 rfl ?_
  refine aw_iadd (n := 1077) C dL_law_1076 rfl ?_
  refine aw_sld (n := 1078) C dL_law_1077 rfl E (by omega) (by omega) hL ?_
  refine aw_cVi (n := 1081) (vs := [_, _]) C dL_law_1078 rfl rfl rfl mm_X6_as wM_L_121 rfl rfl (Nat.le_of_ble_eq_true rfl) (op_as I (xz_r _ _) (xz_r _ _)) (by decide) (fun z_1078 S_1078 q_1078 => ?_)
  refine aw_aldn (n := 1082) C dL_law_1081 rfl rfl ?_
  refine aw_aldn (n := 1083) C dL_law_1082 rfl rfl ?_
  refine aw_ildn (n := 1084) C dL_law_1083 rfl rfl ?_
  refine aw_iconst (n := 1085) C dL_law_1084 rfl ?_
  refine aw_iadd (n := 1086) C dL_law_1085 rfl ?_
  refine aw_sld (n := 1087) C dL_law_1086 rfl E (by omega) (by omega) hL ?_
  refine aw_aldn (n := 1088) C dL_law_1087 rfl rfl ?_
  refine aw_ildn (n := 1089) C dL_law_1088 rfl rfl ?_
  refine aw_iconst (n := 1090) C dL_law_1089 rfl ?_
  refine aw_iadd (n := 1091) C dL_law_1090 rfl ?_
  refine aw_sld (n := 1092) C dL_law_1091 rfl E (by omega) (by omega) hL ?_
  refine aw_cVi (n := 1095) (vs := [_, _]) C dL_law_1092 rfl rfl rfl mm_X7_as wM_L_124 rfl rfl (Nat.le_of_ble_eq_true rfl) (q_1078) (by decide) (fun z_1092 S_1092 q_1092 => ?_)
  obtain ⟨e_1092, I_1092⟩ := q_1092
  refine aw_iceqT (tgt := 1149) C dL_law_1095 rfl (e_1092.symm) ?_
  exact k _ I_1092
theorem lw_trace (C : CX X 7 RL cL_law 4) (E : LX X Ln xs) (hi : i + 6 ≤ Ln) (hL : Ln ≤ 384) (I : Inv S) (k : ∀ S', Inv S' → AW X cL_law 4 1149 [some (.inr (.inr 87)), some (.inr (.inr 0)), some (.inr (.inr 66)), some (.inl (i : Int))] [] S') : AW X cL_law 4 1100 [some (.inr (.inr 87)), some (.inr (.inr 0)), some (.inr (.inr 66)), some (.inl (i : Int))] [] S := by
  refine aw_aldn (n := 1101) C dL_law_1100 rfl rfl ?_
  refine aw_cVi (n := 1104) (vs := []) C dL_law_1101 rfl rfl rfl mm_X6_trace wM_L_125 rfl rfl (Nat.le_of_ble_eq_true rfl) (op_trace I ) (by decide) (fun z_1101 S_1101 q_1101 => ?_)
  refine aw_aldn (n := 1105) C dL_law_1104 rfl rfl ?_
  refine aw_cVi (n := 1108) (vs := []) C dL_law_1105 rfl rfl rfl mm_X7_trace wM_L_128 rfl rfl (Nat.le_of_ble_eq_true rfl) (q_1101) (by decide) (fun z_1105 S_1105 q_1105 => ?_)
  obtain ⟨e_1105, I_1105⟩ := q_1105
  refine aw_iceqT (tgt := 1149) C dL_law_1108 rfl (e_1105.symm) ?_
  exact k _ I_1105
theorem lw_fault (C : CX X 7 RL cL_law 4) (E : LX X Ln xs) (hi : i + 6 ≤ Ln) (hL : Ln ≤ 384) (I : Inv S) (k : ∀ S', Inv S' → AW X cL_law 4 1149 [some (.inr (.inr 87)), some (.inr (.inr 0)), some (.inr (.inr 66)), some (.inl (i : Int))] [] S') : AW X cL_law 4 1113 [some (.inr (.inr 87)), some (.inr (.inr 0)), some (.inr (.inr 66)), some (.inl (i : Int))] [] S := by
  refine aw_aldn (n := 1114) C dL_law_1113 rfl rfl ?_
  refine aw_cVi (n := 1117) (vs := []) C dL_law_1114 rfl rfl rfl mm_X6_fault wM_L_129 rfl rfl (Nat.le_of_ble_eq_true rfl) (op_fault I ) (by decide) (fun z_1114 S_1114 q_1114 => ?_)
  refine aw_aldn (n := 1118) C dL_law_1117 rfl rfl ?_
  refine aw_cVi (n := 1121) (vs := []) C dL_law_1118 rfl rfl rfl mm_X7_fault wM_L_132 rfl rfl (Nat.le_of_ble_eq_true rfl) (q_1114) (by decide) (fun z_1118 S_1118 q_1118 => ?_)
  obtain ⟨e_1118, I_1118⟩ := q_1118
  refine aw_iceqT (tgt := 1149) C dL_law_1121 rfl (e_1118.symm) ?_
  exact k _ I_1118
theorem lw_many (C : CX X 7 RL cL_law 4) (E : LX X Ln xs) (hi : i + 6 ≤ Ln) (hL : Ln ≤ 384) (I : Inv S) (k : ∀ S', Inv S' → AW X cL_law 4 1149 [some (.inr (.inr 87)), some (.inr (.inr 0)), some (.inr (.inr 66)), some (.inl (i : Int))] [] S') : AW X cL_law 4 1126 [some (.inr (.inr 87)), some (.inr (.inr 0)), some (.inr (.inr 66)), some (.inl (i : Int))] [] S := by
  refine aw_aldn (n := 1127) C dL_law_1126 rfl rfl ?_
  refine aw_aldn (n := 1128) C dL_law_1127 rfl rfl ?_
  refine aw_ildn (n := 1129) C dL_law_1128 rfl rfl ?_
  refine aw_iconst (n := 1130) C dL_law_1129 rfl ?_
  refine aw_iadd (n := 1131) C dL_law_1130 rfl ?_
  refine aw_sld (n := 1132) C dL_law_1131 rfl E (by omega) (by omega) hL ?_
  refine aw_cVi (n := 1135) (vs := [_]) C dL_law_1132 rfl rfl rfl mm_X6_many wM_L_133 rfl rfl (Nat.le_of_ble_eq_true rfl) (op_many I (xz_r _ _)) (by decide) (fun z_1132 S_1132 q_1132 => ?_)
  refine aw_aldn (n := 1136) C dL_law_1135 rfl rfl ?_
  refine aw_aldn (n := 1137) C dL_law_1136 rfl rfl ?_
  refine aw_ildn (n := 1138) C dL_law_1137 rfl rfl ?_
  refine aw_iconst (n := 1139) C dL_law_1138 rfl ?_
  refine aw_iadd (n := 1140) C dL_law_1139 rfl ?_
  refine aw_sld (n := 1141) C dL_law_1140 rfl E (by omega) (by omega) hL ?_
  refine aw_cVi (n := 1144) (vs := [_]) C dL_law_1141 rfl rfl rfl mm_X7_many wM_L_136 rfl rfl (Nat.le_of_ble_eq_true rfl) (q_1132) (by decide) (fun z_1141 S_1141 q_1141 => ?_)
  obtain ⟨e_1141, I_1141⟩ := q_1141
  refine aw_iceqT (tgt := 1149) C dL_law_1144 rfl (e_1141.symm) ?_
  exact k _ I_1141
end LAW2
