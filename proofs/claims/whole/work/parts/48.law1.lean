/-! THE LAW, case by case -/
set_option maxRecDepth 100000 in
set_option maxHeartbeats 4000000 in
theorem lc_harvest {l : Launch} {G : GC} {ad : Nat → Nat} {hh : List (Nat × Nat × Nat × Nat)} {b L9 : Nat} {xs : Nat → Int32} {INV : HP → Prop} {j : Nat} (hj : 7 * j + 7 ≤ L9) (hL : L9 ≤ 3584) {h : HP} (hI : INV h) {u6 u7 u8 : Option Value} {S9 : Nat} (J : J_harvest l G ad INV) (K : ∀ (h2 : HP) (w6 w7 w8 : Option Value), INV h2 → PW l G cL_law RL 9 ret hh room_1 (lwCX b L9 xs) lwE 28 [some (.ref b), some (.ref (ad 0)), some (.ref (ad 253)), some (.ref (ad 263)), some (.ref (ad 264)), some (.int (nI (7 * (j + 1)))), w6, w7, w8] [] SW ad h2 (300 + 8 * (j + 1)) (30000 + 48 * (j + 1))) : PW l G cL_law RL 9 ret hh room_1 (lwCX b L9 xs) lwE 176 [some (.ref b), some (.ref (ad 0)), some (.ref (ad 253)), some (.ref (ad 263)), some (.ref (ad 264)), some (.int (nI (7 * j))), u6, u7, u8] [] SW ad h (300 + 8 * j) (30000 + 48 * j) := by
  obtain ⟨k, v, h1, h2, c1, c2, e5, e0, hI2⟩ := J h (xs (nI (7 * j + 1)).toNatClampNeg) (xs (nI (7 * j + 2)).toNatClampNeg) (xs (nI (7 * j + 3)).toNatClampNeg) (xs (nI (7 * j + 4)).toNatClampNeg) hI
  refine pw_aload_n dL_law_176 rfl ?_
  refine pw_aload_n dL_law_177 rfl ?_
  refine pw_iload dL_law_178 rfl ?_
  refine pw_iconst dL_law_180 (v := 1) (by decide) ?_
  refine pw_iadd dL_law_181 ?_
  rw [show nI (7 * j) + 1 = nI (7 * j + 1) from nI_add _ 1]
  refine pw_sld dL_law_182 rfl (vpin (N := L9) (by omega) (by omega)) ?_
  refine pw_aload_n dL_law_183 rfl ?_
  refine pw_iload dL_law_184 rfl ?_
  refine pw_iconst dL_law_186 (v := 2) (by decide) ?_
  refine pw_iadd dL_law_187 ?_
  rw [show nI (7 * j) + 2 = nI (7 * j + 2) from nI_add _ 2]
  refine pw_sld dL_law_188 rfl (vpin (N := L9) (by omega) (by omega)) ?_
  refine pw_aload_n dL_law_189 rfl ?_
  refine pw_iload dL_law_190 rfl ?_
  refine pw_iconst dL_law_192 (v := 3) (by decide) ?_
  refine pw_iadd dL_law_193 ?_
  rw [show nI (7 * j) + 3 = nI (7 * j + 3) from nI_add _ 3]
  refine pw_sld dL_law_194 rfl (vpin (N := L9) (by omega) (by omega)) ?_
  refine pw_aload_n dL_law_195 rfl ?_
  refine pw_iload dL_law_196 rfl ?_
  refine pw_iconst dL_law_198 (v := 4) (by decide) ?_
  refine pw_iadd dL_law_199 ?_
  rw [show nI (7 * j) + 4 = nI (7 * j + 4) from nI_add _ 4]
  refine pw_sld dL_law_200 rfl (vpin (N := L9) (by omega) (by omega)) ?_
  refine pw_aload_n dL_law_201 rfl ?_
  refine pw_cSW dL_law_202 c1 lwX wi_L_harvest ws_L_harvest wk_L_114 rfl (gRm_mk rfl rfl (by show 300 + 8 * j + 5 ≤ 601024; omega) (by show 30000 + 48 * j + 30 ≤ 7293034; omega)) rfl rfl ?_
  refine pw_istore dL_law_205 (by decide) rfl ?_
  refine pw_aload_n dL_law_207 rfl ?_
  refine pw_aload_n dL_law_208 rfl ?_
  refine pw_iload dL_law_209 rfl ?_
  refine pw_iconst dL_law_211 (v := 1) (by decide) ?_
  refine pw_iadd dL_law_212 ?_
  rw [show nI (7 * j) + 1 = nI (7 * j + 1) from nI_add _ 1]
  refine pw_sld dL_law_213 rfl (vpin (N := L9) (by omega) (by omega)) ?_
  refine pw_aload_n dL_law_214 rfl ?_
  refine pw_iload dL_law_215 rfl ?_
  refine pw_iconst dL_law_217 (v := 2) (by decide) ?_
  refine pw_iadd dL_law_218 ?_
  rw [show nI (7 * j) + 2 = nI (7 * j + 2) from nI_add _ 2]
  refine pw_sld dL_law_219 rfl (vpin (N := L9) (by omega) (by omega)) ?_
  refine pw_aload_n dL_law_220 rfl ?_
  refine pw_iload dL_law_221 rfl ?_
  refine pw_iconst dL_law_223 (v := 3) (by decide) ?_
  refine pw_iadd dL_law_224 ?_
  rw [show nI (7 * j) + 3 = nI (7 * j + 3) from nI_add _ 3]
  refine pw_sld dL_law_225 rfl (vpin (N := L9) (by omega) (by omega)) ?_
  refine pw_aload_n dL_law_226 rfl ?_
  refine pw_iload dL_law_227 rfl ?_
  refine pw_iconst dL_law_229 (v := 4) (by decide) ?_
  refine pw_iadd dL_law_230 ?_
  rw [show nI (7 * j) + 4 = nI (7 * j + 4) from nI_add _ 4]
  refine pw_sld dL_law_231 rfl (vpin (N := L9) (by omega) (by omega)) ?_
  refine pw_cV dL_law_232 c2 mi_X8_harvest mv_X8_harvest ml_L_119 sh_253 rfl rfl rfl (gRm_mk rfl rfl (by show 300 + 8 * j + 5 + 0 ≤ 601024; omega) (by show 30000 + 48 * j + 30 + 0 ≤ 7293034; omega)) ⟨rfl, rfl⟩ rfl rfl ?_
  refine pw_istore dL_law_235 (by decide) rfl ?_
  refine pw_aload_n dL_law_237 rfl ?_
  refine pw_cV dL_law_238 sp_X8_thrown mi_X8_thrown mv_X8_thrown ml_L_120 sh_253 rfl rfl rfl (gRm_mk rfl rfl (by show 300 + 8 * j + 5 + 0 ≤ 601024; omega) (by show 30000 + 48 * j + 30 + 0 ≤ 7293034; omega)) ⟨rfl, rfl⟩ rfl rfl ?_
  refine pw_iload dL_law_241 rfl ?_
  refine pw_icmp_eq dL_law_243 (tgt := 248) (by decide) (fun _ => ?_) (fun c => absurd e5 c)
  refine pw_iload dL_law_248 rfl ?_
  refine pw_if_ne dL_law_250 (tgt := 265) (by decide) (fun _ => ?_) (fun k0 => ?_)
  · skip
    refine pw_goto dL_law_265 (tgt := 2082) (by decide) ?_
    refine pw_iinc dL_law_2082 rfl (d := 7) (by decide) (by decide) rfl ?_
    refine pw_goto dL_law_2085 (tgt := 28) (by decide) ?_
    rw [show nI (7 * j) + 7 = nI (7 * (j + 1)) from nI_add _ 7]
    exact PW.widen (by show 300 + 8 * j + 5 ≤ 300 + 8 * (j + 1); omega) (by show 30000 + 48 * j + 30 ≤ 30000 + 48 * (j + 1); omega) (K h2 _ _ _ hI2)
  · skip
    refine pw_aload_n dL_law_253 rfl ?_
    refine pw_iconst dL_law_254 (v := 0) (by decide) ?_
    refine pw_laload dL_law_255 sh_263 (vpin (n := 0) (N := 1) (by decide) (by decide)) ?_
    refine pw_iload dL_law_256 rfl ?_
    refine pw_i2l dL_law_258 ?_
    refine pw_lcmp dL_law_259 ?_
    rw [show h2 263 (Int32.toNatClampNeg 0) = v from e0 k0, lcmp_self]
    refine pw_if_eq dL_law_260 (tgt := 265) (by decide) (fun _ => ?_) (fun c => absurd rfl c)
    refine pw_goto dL_law_265 (tgt := 2082) (by decide) ?_
    refine pw_iinc dL_law_2082 rfl (d := 7) (by decide) (by decide) rfl ?_
    refine pw_goto dL_law_2085 (tgt := 28) (by decide) ?_
    rw [show nI (7 * j) + 7 = nI (7 * (j + 1)) from nI_add _ 7]
    exact PW.widen (by show 300 + 8 * j + 5 ≤ 300 + 8 * (j + 1); omega) (by show 30000 + 48 * j + 30 ≤ 30000 + 48 * (j + 1); omega) (K h2 _ _ _ hI2)

set_option maxRecDepth 100000 in
set_option maxHeartbeats 4000000 in
theorem lc_blend {l : Launch} {G : GC} {ad : Nat → Nat} {hh : List (Nat × Nat × Nat × Nat)} {b L9 : Nat} {xs : Nat → Int32} {INV : HP → Prop} {j : Nat} (hj : 7 * j + 7 ≤ L9) (hL : L9 ≤ 3584) {h : HP} (hI : INV h) {u6 u7 u8 : Option Value} {S9 : Nat} (J : J_blend l G ad INV) (K : ∀ (h2 : HP) (w6 w7 w8 : Option Value), INV h2 → PW l G cL_law RL 9 ret hh room_1 (lwCX b L9 xs) lwE 28 [some (.ref b), some (.ref (ad 0)), some (.ref (ad 253)), some (.ref (ad 263)), some (.ref (ad 264)), some (.int (nI (7 * (j + 1)))), w6, w7, w8] [] SW ad h2 (300 + 8 * (j + 1)) (30000 + 48 * (j + 1))) : PW l G cL_law RL 9 ret hh room_1 (lwCX b L9 xs) lwE 268 [some (.ref b), some (.ref (ad 0)), some (.ref (ad 253)), some (.ref (ad 263)), some (.ref (ad 264)), some (.int (nI (7 * j))), u6, u7, u8] [] SW ad h (300 + 8 * j) (30000 + 48 * j) := by
  obtain ⟨k, v, h1, h2, c1, c2, e5, e0, hI2⟩ := J h  hI
  refine pw_aload_n dL_law_268 rfl ?_
  refine pw_aload_n dL_law_269 rfl ?_
  refine pw_cSW dL_law_270 c1 lwX wi_L_blend ws_L_blend wk_L_123 rfl (gRm_mk rfl rfl (by show 300 + 8 * j + 2 ≤ 601024; omega) (by show 30000 + 48 * j + 12 ≤ 7293034; omega)) rfl rfl ?_
  refine pw_istore dL_law_273 (by decide) rfl ?_
  refine pw_aload_n dL_law_275 rfl ?_
  refine pw_cV dL_law_276 c2 mi_X8_blend mv_X8_blend ml_L_126 sh_253 rfl rfl rfl (gRm_mk rfl rfl (by show 300 + 8 * j + 2 + 0 ≤ 601024; omega) (by show 30000 + 48 * j + 12 + 0 ≤ 7293034; omega)) ⟨rfl, rfl⟩ rfl rfl ?_
  refine pw_istore dL_law_279 (by decide) rfl ?_
  refine pw_aload_n dL_law_281 rfl ?_
  refine pw_cV dL_law_282 sp_X8_thrown mi_X8_thrown mv_X8_thrown ml_L_120 sh_253 rfl rfl rfl (gRm_mk rfl rfl (by show 300 + 8 * j + 2 + 0 ≤ 601024; omega) (by show 30000 + 48 * j + 12 + 0 ≤ 7293034; omega)) ⟨rfl, rfl⟩ rfl rfl ?_
  refine pw_iload dL_law_285 rfl ?_
  refine pw_icmp_eq dL_law_287 (tgt := 292) (by decide) (fun _ => ?_) (fun c => absurd e5 c)
  refine pw_iload dL_law_292 rfl ?_
  refine pw_if_ne dL_law_294 (tgt := 309) (by decide) (fun _ => ?_) (fun k0 => ?_)
  · skip
    refine pw_goto dL_law_309 (tgt := 2082) (by decide) ?_
    refine pw_iinc dL_law_2082 rfl (d := 7) (by decide) (by decide) rfl ?_
    refine pw_goto dL_law_2085 (tgt := 28) (by decide) ?_
    rw [show nI (7 * j) + 7 = nI (7 * (j + 1)) from nI_add _ 7]
    exact PW.widen (by show 300 + 8 * j + 2 ≤ 300 + 8 * (j + 1); omega) (by show 30000 + 48 * j + 12 ≤ 30000 + 48 * (j + 1); omega) (K h2 _ _ _ hI2)
  · skip
    refine pw_aload_n dL_law_297 rfl ?_
    refine pw_iconst dL_law_298 (v := 0) (by decide) ?_
    refine pw_laload dL_law_299 sh_263 (vpin (n := 0) (N := 1) (by decide) (by decide)) ?_
    refine pw_iload dL_law_300 rfl ?_
    refine pw_i2l dL_law_302 ?_
    refine pw_lcmp dL_law_303 ?_
    rw [show h2 263 (Int32.toNatClampNeg 0) = v from e0 k0, lcmp_self]
    refine pw_if_eq dL_law_304 (tgt := 309) (by decide) (fun _ => ?_) (fun c => absurd rfl c)
    refine pw_goto dL_law_309 (tgt := 2082) (by decide) ?_
    refine pw_iinc dL_law_2082 rfl (d := 7) (by decide) (by decide) rfl ?_
    refine pw_goto dL_law_2085 (tgt := 28) (by decide) ?_
    rw [show nI (7 * j) + 7 = nI (7 * (j + 1)) from nI_add _ 7]
    exact PW.widen (by show 300 + 8 * j + 2 ≤ 300 + 8 * (j + 1); omega) (by show 30000 + 48 * j + 12 ≤ 30000 + 48 * (j + 1); omega) (K h2 _ _ _ hI2)

set_option maxRecDepth 100000 in
set_option maxHeartbeats 4000000 in
theorem lc_spill {l : Launch} {G : GC} {ad : Nat → Nat} {hh : List (Nat × Nat × Nat × Nat)} {b L9 : Nat} {xs : Nat → Int32} {INV : HP → Prop} {j : Nat} (hj : 7 * j + 7 ≤ L9) (hL : L9 ≤ 3584) {h : HP} (hI : INV h) {u6 u7 u8 : Option Value} {S9 : Nat} (J : J_spill l G ad INV) (K : ∀ (h2 : HP) (w6 w7 w8 : Option Value), INV h2 → PW l G cL_law RL 9 ret hh room_1 (lwCX b L9 xs) lwE 28 [some (.ref b), some (.ref (ad 0)), some (.ref (ad 253)), some (.ref (ad 263)), some (.ref (ad 264)), some (.int (nI (7 * (j + 1)))), w6, w7, w8] [] SW ad h2 (300 + 8 * (j + 1)) (30000 + 48 * (j + 1))) : PW l G cL_law RL 9 ret hh room_1 (lwCX b L9 xs) lwE 312 [some (.ref b), some (.ref (ad 0)), some (.ref (ad 253)), some (.ref (ad 263)), some (.ref (ad 264)), some (.int (nI (7 * j))), u6, u7, u8] [] SW ad h (300 + 8 * j) (30000 + 48 * j) := by
  obtain ⟨k, v, h1, h2, c1, c2, e5, e0, hI2⟩ := J h (xs (nI (7 * j + 1)).toNatClampNeg) (xs (nI (7 * j + 2)).toNatClampNeg) hI
  refine pw_aload_n dL_law_312 rfl ?_
  refine pw_aload_n dL_law_313 rfl ?_
  refine pw_iload dL_law_314 rfl ?_
  refine pw_iconst dL_law_316 (v := 1) (by decide) ?_
  refine pw_iadd dL_law_317 ?_
  rw [show nI (7 * j) + 1 = nI (7 * j + 1) from nI_add _ 1]
  refine pw_sld dL_law_318 rfl (vpin (N := L9) (by omega) (by omega)) ?_
  refine pw_aload_n dL_law_319 rfl ?_
  refine pw_iload dL_law_320 rfl ?_
  refine pw_iconst dL_law_322 (v := 2) (by decide) ?_
  refine pw_iadd dL_law_323 ?_
  rw [show nI (7 * j) + 2 = nI (7 * j + 2) from nI_add _ 2]
  refine pw_sld dL_law_324 rfl (vpin (N := L9) (by omega) (by omega)) ?_
  refine pw_aload_n dL_law_325 rfl ?_
  refine pw_cSW dL_law_326 c1 lwX wi_L_spill ws_L_spill wk_L_127 rfl (gRm_mk rfl rfl (by show 300 + 8 * j + 2 ≤ 601024; omega) (by show 30000 + 48 * j + 12 ≤ 7293034; omega)) rfl rfl ?_
  refine pw_istore dL_law_329 (by decide) rfl ?_
  refine pw_aload_n dL_law_331 rfl ?_
  refine pw_aload_n dL_law_332 rfl ?_
  refine pw_iload dL_law_333 rfl ?_
  refine pw_iconst dL_law_335 (v := 1) (by decide) ?_
  refine pw_iadd dL_law_336 ?_
  rw [show nI (7 * j) + 1 = nI (7 * j + 1) from nI_add _ 1]
  refine pw_sld dL_law_337 rfl (vpin (N := L9) (by omega) (by omega)) ?_
  refine pw_aload_n dL_law_338 rfl ?_
  refine pw_iload dL_law_339 rfl ?_
  refine pw_iconst dL_law_341 (v := 2) (by decide) ?_
  refine pw_iadd dL_law_342 ?_
  rw [show nI (7 * j) + 2 = nI (7 * j + 2) from nI_add _ 2]
  refine pw_sld dL_law_343 rfl (vpin (N := L9) (by omega) (by omega)) ?_
  refine pw_cV dL_law_344 c2 mi_X8_spill mv_X8_spill ml_L_130 sh_253 rfl rfl rfl (gRm_mk rfl rfl (by show 300 + 8 * j + 2 + 0 ≤ 601024; omega) (by show 30000 + 48 * j + 12 + 0 ≤ 7293034; omega)) ⟨rfl, rfl⟩ rfl rfl ?_
  refine pw_istore dL_law_347 (by decide) rfl ?_
  refine pw_aload_n dL_law_349 rfl ?_
  refine pw_cV dL_law_350 sp_X8_thrown mi_X8_thrown mv_X8_thrown ml_L_120 sh_253 rfl rfl rfl (gRm_mk rfl rfl (by show 300 + 8 * j + 2 + 0 ≤ 601024; omega) (by show 30000 + 48 * j + 12 + 0 ≤ 7293034; omega)) ⟨rfl, rfl⟩ rfl rfl ?_
  refine pw_iload dL_law_353 rfl ?_
  refine pw_icmp_eq dL_law_355 (tgt := 360) (by decide) (fun _ => ?_) (fun c => absurd e5 c)
  refine pw_iload dL_law_360 rfl ?_
  refine pw_if_ne dL_law_362 (tgt := 377) (by decide) (fun _ => ?_) (fun k0 => ?_)
  · skip
    refine pw_goto dL_law_377 (tgt := 2082) (by decide) ?_
    refine pw_iinc dL_law_2082 rfl (d := 7) (by decide) (by decide) rfl ?_
    refine pw_goto dL_law_2085 (tgt := 28) (by decide) ?_
    rw [show nI (7 * j) + 7 = nI (7 * (j + 1)) from nI_add _ 7]
    exact PW.widen (by show 300 + 8 * j + 2 ≤ 300 + 8 * (j + 1); omega) (by show 30000 + 48 * j + 12 ≤ 30000 + 48 * (j + 1); omega) (K h2 _ _ _ hI2)
  · skip
    refine pw_aload_n dL_law_365 rfl ?_
    refine pw_iconst dL_law_366 (v := 0) (by decide) ?_
    refine pw_laload dL_law_367 sh_263 (vpin (n := 0) (N := 1) (by decide) (by decide)) ?_
    refine pw_iload dL_law_368 rfl ?_
    refine pw_i2l dL_law_370 ?_
    refine pw_lcmp dL_law_371 ?_
    rw [show h2 263 (Int32.toNatClampNeg 0) = v from e0 k0, lcmp_self]
    refine pw_if_eq dL_law_372 (tgt := 377) (by decide) (fun _ => ?_) (fun c => absurd rfl c)
    refine pw_goto dL_law_377 (tgt := 2082) (by decide) ?_
    refine pw_iinc dL_law_2082 rfl (d := 7) (by decide) (by decide) rfl ?_
    refine pw_goto dL_law_2085 (tgt := 28) (by decide) ?_
    rw [show nI (7 * j) + 7 = nI (7 * (j + 1)) from nI_add _ 7]
    exact PW.widen (by show 300 + 8 * j + 2 ≤ 300 + 8 * (j + 1); omega) (by show 30000 + 48 * j + 12 ≤ 30000 + 48 * (j + 1); omega) (K h2 _ _ _ hI2)

set_option maxRecDepth 100000 in
set_option maxHeartbeats 4000000 in
theorem lc_lot {l : Launch} {G : GC} {ad : Nat → Nat} {hh : List (Nat × Nat × Nat × Nat)} {b L9 : Nat} {xs : Nat → Int32} {INV : HP → Prop} {j : Nat} (hj : 7 * j + 7 ≤ L9) (hL : L9 ≤ 3584) {h : HP} (hI : INV h) {u6 u7 u8 : Option Value} {S9 : Nat} (J : J_lot l G ad INV) (K : ∀ (h2 : HP) (w6 w7 w8 : Option Value), INV h2 → PW l G cL_law RL 9 ret hh room_1 (lwCX b L9 xs) lwE 28 [some (.ref b), some (.ref (ad 0)), some (.ref (ad 253)), some (.ref (ad 263)), some (.ref (ad 264)), some (.int (nI (7 * (j + 1)))), w6, w7, w8] [] SW ad h2 (300 + 8 * (j + 1)) (30000 + 48 * (j + 1))) : PW l G cL_law RL 9 ret hh room_1 (lwCX b L9 xs) lwE 380 [some (.ref b), some (.ref (ad 0)), some (.ref (ad 253)), some (.ref (ad 263)), some (.ref (ad 264)), some (.int (nI (7 * j))), u6, u7, u8] [] SW ad h (300 + 8 * j) (30000 + 48 * j) := by
  obtain ⟨k, v, h1, h2, c1, c2, e5, e0, hI2⟩ := J h (xs (nI (7 * j + 1)).toNatClampNeg) (xs (nI (7 * j + 2)).toNatClampNeg) hI
  refine pw_aload_n dL_law_380 rfl ?_
  refine pw_aload_n dL_law_381 rfl ?_
  refine pw_iload dL_law_382 rfl ?_
  refine pw_iconst dL_law_384 (v := 1) (by decide) ?_
  refine pw_iadd dL_law_385 ?_
  rw [show nI (7 * j) + 1 = nI (7 * j + 1) from nI_add _ 1]
  refine pw_sld dL_law_386 rfl (vpin (N := L9) (by omega) (by omega)) ?_
  refine pw_aload_n dL_law_387 rfl ?_
  refine pw_iload dL_law_388 rfl ?_
  refine pw_iconst dL_law_390 (v := 2) (by decide) ?_
  refine pw_iadd dL_law_391 ?_
  rw [show nI (7 * j) + 2 = nI (7 * j + 2) from nI_add _ 2]
  refine pw_sld dL_law_392 rfl (vpin (N := L9) (by omega) (by omega)) ?_
  refine pw_aload_n dL_law_393 rfl ?_
  refine pw_cSW dL_law_394 c1 lwX wi_L_lot ws_L_lot wk_L_131 rfl (gRm_mk rfl rfl (by show 300 + 8 * j + 2 ≤ 601024; omega) (by show 30000 + 48 * j + 12 ≤ 7293034; omega)) rfl rfl ?_
  refine pw_istore dL_law_397 (by decide) rfl ?_
  refine pw_aload_n dL_law_399 rfl ?_
  refine pw_aload_n dL_law_400 rfl ?_
  refine pw_iload dL_law_401 rfl ?_
  refine pw_iconst dL_law_403 (v := 1) (by decide) ?_
  refine pw_iadd dL_law_404 ?_
  rw [show nI (7 * j) + 1 = nI (7 * j + 1) from nI_add _ 1]
  refine pw_sld dL_law_405 rfl (vpin (N := L9) (by omega) (by omega)) ?_
  refine pw_aload_n dL_law_406 rfl ?_
  refine pw_iload dL_law_407 rfl ?_
  refine pw_iconst dL_law_409 (v := 2) (by decide) ?_
  refine pw_iadd dL_law_410 ?_
  rw [show nI (7 * j) + 2 = nI (7 * j + 2) from nI_add _ 2]
  refine pw_sld dL_law_411 rfl (vpin (N := L9) (by omega) (by omega)) ?_
  refine pw_cV dL_law_412 c2 mi_X8_lot mv_X8_lot ml_L_133 sh_253 rfl rfl rfl (gRm_mk rfl rfl (by show 300 + 8 * j + 2 + 0 ≤ 601024; omega) (by show 30000 + 48 * j + 12 + 0 ≤ 7293034; omega)) ⟨rfl, rfl⟩ rfl rfl ?_
  refine pw_istore dL_law_415 (by decide) rfl ?_
  refine pw_aload_n dL_law_417 rfl ?_
  refine pw_cV dL_law_418 sp_X8_thrown mi_X8_thrown mv_X8_thrown ml_L_120 sh_253 rfl rfl rfl (gRm_mk rfl rfl (by show 300 + 8 * j + 2 + 0 ≤ 601024; omega) (by show 30000 + 48 * j + 12 + 0 ≤ 7293034; omega)) ⟨rfl, rfl⟩ rfl rfl ?_
  refine pw_iload dL_law_421 rfl ?_
  refine pw_icmp_eq dL_law_423 (tgt := 428) (by decide) (fun _ => ?_) (fun c => absurd e5 c)
  refine pw_iload dL_law_428 rfl ?_
  refine pw_if_ne dL_law_430 (tgt := 445) (by decide) (fun _ => ?_) (fun k0 => ?_)
  · skip
    refine pw_goto dL_law_445 (tgt := 2082) (by decide) ?_
    refine pw_iinc dL_law_2082 rfl (d := 7) (by decide) (by decide) rfl ?_
    refine pw_goto dL_law_2085 (tgt := 28) (by decide) ?_
    rw [show nI (7 * j) + 7 = nI (7 * (j + 1)) from nI_add _ 7]
    exact PW.widen (by show 300 + 8 * j + 2 ≤ 300 + 8 * (j + 1); omega) (by show 30000 + 48 * j + 12 ≤ 30000 + 48 * (j + 1); omega) (K h2 _ _ _ hI2)
  · skip
    refine pw_aload_n dL_law_433 rfl ?_
    refine pw_iconst dL_law_434 (v := 0) (by decide) ?_
    refine pw_laload dL_law_435 sh_263 (vpin (n := 0) (N := 1) (by decide) (by decide)) ?_
    refine pw_iload dL_law_436 rfl ?_
    refine pw_i2l dL_law_438 ?_
    refine pw_lcmp dL_law_439 ?_
    rw [show h2 263 (Int32.toNatClampNeg 0) = v from e0 k0, lcmp_self]
    refine pw_if_eq dL_law_440 (tgt := 445) (by decide) (fun _ => ?_) (fun c => absurd rfl c)
    refine pw_goto dL_law_445 (tgt := 2082) (by decide) ?_
    refine pw_iinc dL_law_2082 rfl (d := 7) (by decide) (by decide) rfl ?_
    refine pw_goto dL_law_2085 (tgt := 28) (by decide) ?_
    rw [show nI (7 * j) + 7 = nI (7 * (j + 1)) from nI_add _ 7]
    exact PW.widen (by show 300 + 8 * j + 2 ≤ 300 + 8 * (j + 1); omega) (by show 30000 + 48 * j + 12 ≤ 30000 + 48 * (j + 1); omega) (K h2 _ _ _ hI2)

set_option maxRecDepth 100000 in
set_option maxHeartbeats 4000000 in
theorem lc_part {l : Launch} {G : GC} {ad : Nat → Nat} {hh : List (Nat × Nat × Nat × Nat)} {b L9 : Nat} {xs : Nat → Int32} {INV : HP → Prop} {j : Nat} (hj : 7 * j + 7 ≤ L9) (hL : L9 ≤ 3584) {h : HP} (hI : INV h) {u6 u7 u8 : Option Value} {S9 : Nat} (J : J_part l G ad INV) (K : ∀ (h2 : HP) (w6 w7 w8 : Option Value), INV h2 → PW l G cL_law RL 9 ret hh room_1 (lwCX b L9 xs) lwE 28 [some (.ref b), some (.ref (ad 0)), some (.ref (ad 253)), some (.ref (ad 263)), some (.ref (ad 264)), some (.int (nI (7 * (j + 1)))), w6, w7, w8] [] SW ad h2 (300 + 8 * (j + 1)) (30000 + 48 * (j + 1))) : PW l G cL_law RL 9 ret hh room_1 (lwCX b L9 xs) lwE 448 [some (.ref b), some (.ref (ad 0)), some (.ref (ad 253)), some (.ref (ad 263)), some (.ref (ad 264)), some (.int (nI (7 * j))), u6, u7, u8] [] SW ad h (300 + 8 * j) (30000 + 48 * j) := by
  obtain ⟨k, v, h1, h2, c1, c2, e5, e0, hI2⟩ := J h (xs (nI (7 * j + 1)).toNatClampNeg) (xs (nI (7 * j + 2)).toNatClampNeg) (xs (nI (7 * j + 3)).toNatClampNeg) hI
  refine pw_aload_n dL_law_448 rfl ?_
  refine pw_aload_n dL_law_449 rfl ?_
  refine pw_iload dL_law_450 rfl ?_
  refine pw_iconst dL_law_452 (v := 1) (by decide) ?_
  refine pw_iadd dL_law_453 ?_
  rw [show nI (7 * j) + 1 = nI (7 * j + 1) from nI_add _ 1]
  refine pw_sld dL_law_454 rfl (vpin (N := L9) (by omega) (by omega)) ?_
  refine pw_aload_n dL_law_455 rfl ?_
  refine pw_iload dL_law_456 rfl ?_
  refine pw_iconst dL_law_458 (v := 2) (by decide) ?_
  refine pw_iadd dL_law_459 ?_
  rw [show nI (7 * j) + 2 = nI (7 * j + 2) from nI_add _ 2]
  refine pw_sld dL_law_460 rfl (vpin (N := L9) (by omega) (by omega)) ?_
  refine pw_aload_n dL_law_461 rfl ?_
  refine pw_iload dL_law_462 rfl ?_
  refine pw_iconst dL_law_464 (v := 3) (by decide) ?_
  refine pw_iadd dL_law_465 ?_
  rw [show nI (7 * j) + 3 = nI (7 * j + 3) from nI_add _ 3]
  refine pw_sld dL_law_466 rfl (vpin (N := L9) (by omega) (by omega)) ?_
  refine pw_aload_n dL_law_467 rfl ?_
  refine pw_cSW dL_law_468 c1 lwX wi_L_part ws_L_part wk_L_134 rfl (gRm_mk rfl rfl (by show 300 + 8 * j + 3 ≤ 601024; omega) (by show 30000 + 48 * j + 18 ≤ 7293034; omega)) rfl rfl ?_
  refine pw_istore dL_law_471 (by decide) rfl ?_
  refine pw_aload_n dL_law_473 rfl ?_
  refine pw_aload_n dL_law_474 rfl ?_
  refine pw_iload dL_law_475 rfl ?_
  refine pw_iconst dL_law_477 (v := 1) (by decide) ?_
  refine pw_iadd dL_law_478 ?_
  rw [show nI (7 * j) + 1 = nI (7 * j + 1) from nI_add _ 1]
  refine pw_sld dL_law_479 rfl (vpin (N := L9) (by omega) (by omega)) ?_
  refine pw_aload_n dL_law_480 rfl ?_
  refine pw_iload dL_law_481 rfl ?_
  refine pw_iconst dL_law_483 (v := 2) (by decide) ?_
  refine pw_iadd dL_law_484 ?_
  rw [show nI (7 * j) + 2 = nI (7 * j + 2) from nI_add _ 2]
  refine pw_sld dL_law_485 rfl (vpin (N := L9) (by omega) (by omega)) ?_
  refine pw_aload_n dL_law_486 rfl ?_
  refine pw_iload dL_law_487 rfl ?_
  refine pw_iconst dL_law_489 (v := 3) (by decide) ?_
  refine pw_iadd dL_law_490 ?_
  rw [show nI (7 * j) + 3 = nI (7 * j + 3) from nI_add _ 3]
  refine pw_sld dL_law_491 rfl (vpin (N := L9) (by omega) (by omega)) ?_
  refine pw_cV dL_law_492 c2 mi_X8_part mv_X8_part ml_L_137 sh_253 rfl rfl rfl (gRm_mk rfl rfl (by show 300 + 8 * j + 3 + 0 ≤ 601024; omega) (by show 30000 + 48 * j + 18 + 0 ≤ 7293034; omega)) ⟨rfl, rfl⟩ rfl rfl ?_
  refine pw_istore dL_law_495 (by decide) rfl ?_
  refine pw_aload_n dL_law_497 rfl ?_
  refine pw_cV dL_law_498 sp_X8_thrown mi_X8_thrown mv_X8_thrown ml_L_120 sh_253 rfl rfl rfl (gRm_mk rfl rfl (by show 300 + 8 * j + 3 + 0 ≤ 601024; omega) (by show 30000 + 48 * j + 18 + 0 ≤ 7293034; omega)) ⟨rfl, rfl⟩ rfl rfl ?_
  refine pw_iload dL_law_501 rfl ?_
  refine pw_icmp_eq dL_law_503 (tgt := 508) (by decide) (fun _ => ?_) (fun c => absurd e5 c)
  refine pw_iload dL_law_508 rfl ?_
  refine pw_if_ne dL_law_510 (tgt := 525) (by decide) (fun _ => ?_) (fun k0 => ?_)
  · skip
    refine pw_goto dL_law_525 (tgt := 2082) (by decide) ?_
    refine pw_iinc dL_law_2082 rfl (d := 7) (by decide) (by decide) rfl ?_
    refine pw_goto dL_law_2085 (tgt := 28) (by decide) ?_
    rw [show nI (7 * j) + 7 = nI (7 * (j + 1)) from nI_add _ 7]
    exact PW.widen (by show 300 + 8 * j + 3 ≤ 300 + 8 * (j + 1); omega) (by show 30000 + 48 * j + 18 ≤ 30000 + 48 * (j + 1); omega) (K h2 _ _ _ hI2)
  · skip
    refine pw_aload_n dL_law_513 rfl ?_
    refine pw_iconst dL_law_514 (v := 0) (by decide) ?_
    refine pw_laload dL_law_515 sh_263 (vpin (n := 0) (N := 1) (by decide) (by decide)) ?_
    refine pw_iload dL_law_516 rfl ?_
    refine pw_i2l dL_law_518 ?_
    refine pw_lcmp dL_law_519 ?_
    rw [show h2 263 (Int32.toNatClampNeg 0) = v from e0 k0, lcmp_self]
    refine pw_if_eq dL_law_520 (tgt := 525) (by decide) (fun _ => ?_) (fun c => absurd rfl c)
    refine pw_goto dL_law_525 (tgt := 2082) (by decide) ?_
    refine pw_iinc dL_law_2082 rfl (d := 7) (by decide) (by decide) rfl ?_
    refine pw_goto dL_law_2085 (tgt := 28) (by decide) ?_
    rw [show nI (7 * j) + 7 = nI (7 * (j + 1)) from nI_add _ 7]
    exact PW.widen (by show 300 + 8 * j + 3 ≤ 300 + 8 * (j + 1); omega) (by show 30000 + 48 * j + 18 ≤ 30000 + 48 * (j + 1); omega) (K h2 _ _ _ hI2)

set_option maxRecDepth 100000 in
set_option maxHeartbeats 4000000 in
theorem lc_share {l : Launch} {G : GC} {ad : Nat → Nat} {hh : List (Nat × Nat × Nat × Nat)} {b L9 : Nat} {xs : Nat → Int32} {INV : HP → Prop} {j : Nat} (hj : 7 * j + 7 ≤ L9) (hL : L9 ≤ 3584) {h : HP} (hI : INV h) {u6 u7 u8 : Option Value} {S9 : Nat} (J : J_share l G ad INV) (K : ∀ (h2 : HP) (w6 w7 w8 : Option Value), INV h2 → PW l G cL_law RL 9 ret hh room_1 (lwCX b L9 xs) lwE 28 [some (.ref b), some (.ref (ad 0)), some (.ref (ad 253)), some (.ref (ad 263)), some (.ref (ad 264)), some (.int (nI (7 * (j + 1)))), w6, w7, w8] [] SW ad h2 (300 + 8 * (j + 1)) (30000 + 48 * (j + 1))) : PW l G cL_law RL 9 ret hh room_1 (lwCX b L9 xs) lwE 528 [some (.ref b), some (.ref (ad 0)), some (.ref (ad 253)), some (.ref (ad 263)), some (.ref (ad 264)), some (.int (nI (7 * j))), u6, u7, u8] [] SW ad h (300 + 8 * j) (30000 + 48 * j) := by
  obtain ⟨k, v, h1, h2, c1, c2, e5, e0, hI2⟩ := J h (xs (nI (7 * j + 1)).toNatClampNeg) (xs (nI (7 * j + 2)).toNatClampNeg) (xs (nI (7 * j + 3)).toNatClampNeg) hI
  refine pw_aload_n dL_law_528 rfl ?_
  refine pw_aload_n dL_law_529 rfl ?_
  refine pw_iload dL_law_530 rfl ?_
  refine pw_iconst dL_law_532 (v := 1) (by decide) ?_
  refine pw_iadd dL_law_533 ?_
  rw [show nI (7 * j) + 1 = nI (7 * j + 1) from nI_add _ 1]
  refine pw_sld dL_law_534 rfl (vpin (N := L9) (by omega) (by omega)) ?_
  refine pw_aload_n dL_law_535 rfl ?_
  refine pw_iload dL_law_536 rfl ?_
  refine pw_iconst dL_law_538 (v := 2) (by decide) ?_
  refine pw_iadd dL_law_539 ?_
  rw [show nI (7 * j) + 2 = nI (7 * j + 2) from nI_add _ 2]
  refine pw_sld dL_law_540 rfl (vpin (N := L9) (by omega) (by omega)) ?_
  refine pw_aload_n dL_law_541 rfl ?_
  refine pw_iload dL_law_542 rfl ?_
  refine pw_iconst dL_law_544 (v := 3) (by decide) ?_
  refine pw_iadd dL_law_545 ?_
  rw [show nI (7 * j) + 3 = nI (7 * j + 3) from nI_add _ 3]
  refine pw_sld dL_law_546 rfl (vpin (N := L9) (by omega) (by omega)) ?_
  refine pw_aload_n dL_law_547 rfl ?_
  refine pw_cSW dL_law_548 c1 lwX wi_L_share ws_L_share wk_L_138 rfl (gRm_mk rfl rfl (by show 300 + 8 * j + 3 ≤ 601024; omega) (by show 30000 + 48 * j + 18 ≤ 7293034; omega)) rfl rfl ?_
  refine pw_istore dL_law_551 (by decide) rfl ?_
  refine pw_aload_n dL_law_553 rfl ?_
  refine pw_aload_n dL_law_554 rfl ?_
  refine pw_iload dL_law_555 rfl ?_
  refine pw_iconst dL_law_557 (v := 1) (by decide) ?_
  refine pw_iadd dL_law_558 ?_
  rw [show nI (7 * j) + 1 = nI (7 * j + 1) from nI_add _ 1]
  refine pw_sld dL_law_559 rfl (vpin (N := L9) (by omega) (by omega)) ?_
  refine pw_aload_n dL_law_560 rfl ?_
  refine pw_iload dL_law_561 rfl ?_
  refine pw_iconst dL_law_563 (v := 2) (by decide) ?_
  refine pw_iadd dL_law_564 ?_
  rw [show nI (7 * j) + 2 = nI (7 * j + 2) from nI_add _ 2]
  refine pw_sld dL_law_565 rfl (vpin (N := L9) (by omega) (by omega)) ?_
  refine pw_aload_n dL_law_566 rfl ?_
  refine pw_iload dL_law_567 rfl ?_
  refine pw_iconst dL_law_569 (v := 3) (by decide) ?_
  refine pw_iadd dL_law_570 ?_
  rw [show nI (7 * j) + 3 = nI (7 * j + 3) from nI_add _ 3]
  refine pw_sld dL_law_571 rfl (vpin (N := L9) (by omega) (by omega)) ?_
  refine pw_cV dL_law_572 c2 mi_X8_share mv_X8_share ml_L_140 sh_253 rfl rfl rfl (gRm_mk rfl rfl (by show 300 + 8 * j + 3 + 0 ≤ 601024; omega) (by show 30000 + 48 * j + 18 + 0 ≤ 7293034; omega)) ⟨rfl, rfl⟩ rfl rfl ?_
  refine pw_istore dL_law_575 (by decide) rfl ?_
  refine pw_aload_n dL_law_577 rfl ?_
  refine pw_cV dL_law_578 sp_X8_thrown mi_X8_thrown mv_X8_thrown ml_L_120 sh_253 rfl rfl rfl (gRm_mk rfl rfl (by show 300 + 8 * j + 3 + 0 ≤ 601024; omega) (by show 30000 + 48 * j + 18 + 0 ≤ 7293034; omega)) ⟨rfl, rfl⟩ rfl rfl ?_
  refine pw_iload dL_law_581 rfl ?_
  refine pw_icmp_eq dL_law_583 (tgt := 588) (by decide) (fun _ => ?_) (fun c => absurd e5 c)
  refine pw_iload dL_law_588 rfl ?_
  refine pw_if_ne dL_law_590 (tgt := 605) (by decide) (fun _ => ?_) (fun k0 => ?_)
  · skip
    refine pw_goto dL_law_605 (tgt := 2082) (by decide) ?_
    refine pw_iinc dL_law_2082 rfl (d := 7) (by decide) (by decide) rfl ?_
    refine pw_goto dL_law_2085 (tgt := 28) (by decide) ?_
    rw [show nI (7 * j) + 7 = nI (7 * (j + 1)) from nI_add _ 7]
    exact PW.widen (by show 300 + 8 * j + 3 ≤ 300 + 8 * (j + 1); omega) (by show 30000 + 48 * j + 18 ≤ 30000 + 48 * (j + 1); omega) (K h2 _ _ _ hI2)
  · skip
    refine pw_aload_n dL_law_593 rfl ?_
    refine pw_iconst dL_law_594 (v := 0) (by decide) ?_
    refine pw_laload dL_law_595 sh_263 (vpin (n := 0) (N := 1) (by decide) (by decide)) ?_
    refine pw_iload dL_law_596 rfl ?_
    refine pw_i2l dL_law_598 ?_
    refine pw_lcmp dL_law_599 ?_
    rw [show h2 263 (Int32.toNatClampNeg 0) = v from e0 k0, lcmp_self]
    refine pw_if_eq dL_law_600 (tgt := 605) (by decide) (fun _ => ?_) (fun c => absurd rfl c)
    refine pw_goto dL_law_605 (tgt := 2082) (by decide) ?_
    refine pw_iinc dL_law_2082 rfl (d := 7) (by decide) (by decide) rfl ?_
    refine pw_goto dL_law_2085 (tgt := 28) (by decide) ?_
    rw [show nI (7 * j) + 7 = nI (7 * (j + 1)) from nI_add _ 7]
    exact PW.widen (by show 300 + 8 * j + 3 ≤ 300 + 8 * (j + 1); omega) (by show 30000 + 48 * j + 18 ≤ 30000 + 48 * (j + 1); omega) (K h2 _ _ _ hI2)

set_option maxRecDepth 100000 in
set_option maxHeartbeats 4000000 in
theorem lc_greatest {l : Launch} {G : GC} {ad : Nat → Nat} {hh : List (Nat × Nat × Nat × Nat)} {b L9 : Nat} {xs : Nat → Int32} {INV : HP → Prop} {j : Nat} (hj : 7 * j + 7 ≤ L9) (hL : L9 ≤ 3584) {h : HP} (hI : INV h) {u6 u7 u8 : Option Value} {S9 : Nat} (J : J_greatest l G ad INV) (K : ∀ (h2 : HP) (w6 w7 w8 : Option Value), INV h2 → PW l G cL_law RL 9 ret hh room_1 (lwCX b L9 xs) lwE 28 [some (.ref b), some (.ref (ad 0)), some (.ref (ad 253)), some (.ref (ad 263)), some (.ref (ad 264)), some (.int (nI (7 * (j + 1)))), w6, w7, w8] [] SW ad h2 (300 + 8 * (j + 1)) (30000 + 48 * (j + 1))) : PW l G cL_law RL 9 ret hh room_1 (lwCX b L9 xs) lwE 608 [some (.ref b), some (.ref (ad 0)), some (.ref (ad 253)), some (.ref (ad 263)), some (.ref (ad 264)), some (.int (nI (7 * j))), u6, u7, u8] [] SW ad h (300 + 8 * j) (30000 + 48 * j) := by
  obtain ⟨k, v, h1, h2, c1, c2, e5, e0, hI2⟩ := J h (xs (nI (7 * j + 1)).toNatClampNeg) (xs (nI (7 * j + 2)).toNatClampNeg) hI
  refine pw_aload_n dL_law_608 rfl ?_
  refine pw_aload_n dL_law_609 rfl ?_
  refine pw_iload dL_law_610 rfl ?_
  refine pw_iconst dL_law_612 (v := 1) (by decide) ?_
  refine pw_iadd dL_law_613 ?_
  rw [show nI (7 * j) + 1 = nI (7 * j + 1) from nI_add _ 1]
  refine pw_sld dL_law_614 rfl (vpin (N := L9) (by omega) (by omega)) ?_
  refine pw_aload_n dL_law_615 rfl ?_
  refine pw_iload dL_law_616 rfl ?_
  refine pw_iconst dL_law_618 (v := 2) (by decide) ?_
  refine pw_iadd dL_law_619 ?_
  rw [show nI (7 * j) + 2 = nI (7 * j + 2) from nI_add _ 2]
  refine pw_sld dL_law_620 rfl (vpin (N := L9) (by omega) (by omega)) ?_
  refine pw_aload_n dL_law_621 rfl ?_
  refine pw_cSW dL_law_622 c1 lwX wi_L_greatest ws_L_greatest wk_L_141 rfl (gRm_mk rfl rfl (by show 300 + 8 * j + 2 ≤ 601024; omega) (by show 30000 + 48 * j + 12 ≤ 7293034; omega)) rfl rfl ?_
  refine pw_istore dL_law_625 (by decide) rfl ?_
  refine pw_aload_n dL_law_627 rfl ?_
  refine pw_aload_n dL_law_628 rfl ?_
  refine pw_iload dL_law_629 rfl ?_
  refine pw_iconst dL_law_631 (v := 1) (by decide) ?_
  refine pw_iadd dL_law_632 ?_
  rw [show nI (7 * j) + 1 = nI (7 * j + 1) from nI_add _ 1]
  refine pw_sld dL_law_633 rfl (vpin (N := L9) (by omega) (by omega)) ?_
  refine pw_aload_n dL_law_634 rfl ?_
  refine pw_iload dL_law_635 rfl ?_
  refine pw_iconst dL_law_637 (v := 2) (by decide) ?_
  refine pw_iadd dL_law_638 ?_
  rw [show nI (7 * j) + 2 = nI (7 * j + 2) from nI_add _ 2]
  refine pw_sld dL_law_639 rfl (vpin (N := L9) (by omega) (by omega)) ?_
  refine pw_cV dL_law_640 c2 mi_X8_greatest mv_X8_greatest ml_L_143 sh_253 rfl rfl rfl (gRm_mk rfl rfl (by show 300 + 8 * j + 2 + 0 ≤ 601024; omega) (by show 30000 + 48 * j + 12 + 0 ≤ 7293034; omega)) ⟨rfl, rfl⟩ rfl rfl ?_
  refine pw_istore dL_law_643 (by decide) rfl ?_
  refine pw_aload_n dL_law_645 rfl ?_
  refine pw_cV dL_law_646 sp_X8_thrown mi_X8_thrown mv_X8_thrown ml_L_120 sh_253 rfl rfl rfl (gRm_mk rfl rfl (by show 300 + 8 * j + 2 + 0 ≤ 601024; omega) (by show 30000 + 48 * j + 12 + 0 ≤ 7293034; omega)) ⟨rfl, rfl⟩ rfl rfl ?_
  refine pw_iload dL_law_649 rfl ?_
  refine pw_icmp_eq dL_law_651 (tgt := 656) (by decide) (fun _ => ?_) (fun c => absurd e5 c)
  refine pw_iload dL_law_656 rfl ?_
  refine pw_if_ne dL_law_658 (tgt := 673) (by decide) (fun _ => ?_) (fun k0 => ?_)
  · skip
    refine pw_goto dL_law_673 (tgt := 2082) (by decide) ?_
    refine pw_iinc dL_law_2082 rfl (d := 7) (by decide) (by decide) rfl ?_
    refine pw_goto dL_law_2085 (tgt := 28) (by decide) ?_
    rw [show nI (7 * j) + 7 = nI (7 * (j + 1)) from nI_add _ 7]
    exact PW.widen (by show 300 + 8 * j + 2 ≤ 300 + 8 * (j + 1); omega) (by show 30000 + 48 * j + 12 ≤ 30000 + 48 * (j + 1); omega) (K h2 _ _ _ hI2)
  · skip
    refine pw_aload_n dL_law_661 rfl ?_
    refine pw_iconst dL_law_662 (v := 0) (by decide) ?_
    refine pw_laload dL_law_663 sh_263 (vpin (n := 0) (N := 1) (by decide) (by decide)) ?_
    refine pw_iload dL_law_664 rfl ?_
    refine pw_i2l dL_law_666 ?_
    refine pw_lcmp dL_law_667 ?_
    rw [show h2 263 (Int32.toNatClampNeg 0) = v from e0 k0, lcmp_self]
    refine pw_if_eq dL_law_668 (tgt := 673) (by decide) (fun _ => ?_) (fun c => absurd rfl c)
    refine pw_goto dL_law_673 (tgt := 2082) (by decide) ?_
    refine pw_iinc dL_law_2082 rfl (d := 7) (by decide) (by decide) rfl ?_
    refine pw_goto dL_law_2085 (tgt := 28) (by decide) ?_
    rw [show nI (7 * j) + 7 = nI (7 * (j + 1)) from nI_add _ 7]
    exact PW.widen (by show 300 + 8 * j + 2 ≤ 300 + 8 * (j + 1); omega) (by show 30000 + 48 * j + 12 ≤ 30000 + 48 * (j + 1); omega) (K h2 _ _ _ hI2)

set_option maxRecDepth 100000 in
set_option maxHeartbeats 4000000 in
theorem lc_meanVintage {l : Launch} {G : GC} {ad : Nat → Nat} {hh : List (Nat × Nat × Nat × Nat)} {b L9 : Nat} {xs : Nat → Int32} {INV : HP → Prop} {j : Nat} (hj : 7 * j + 7 ≤ L9) (hL : L9 ≤ 3584) {h : HP} (hI : INV h) {u6 u7 u8 : Option Value} {S9 : Nat} (J : J_meanVintage l G ad INV) (K : ∀ (h2 : HP) (w6 w7 w8 : Option Value), INV h2 → PW l G cL_law RL 9 ret hh room_1 (lwCX b L9 xs) lwE 28 [some (.ref b), some (.ref (ad 0)), some (.ref (ad 253)), some (.ref (ad 263)), some (.ref (ad 264)), some (.int (nI (7 * (j + 1)))), w6, w7, w8] [] SW ad h2 (300 + 8 * (j + 1)) (30000 + 48 * (j + 1))) : PW l G cL_law RL 9 ret hh room_1 (lwCX b L9 xs) lwE 676 [some (.ref b), some (.ref (ad 0)), some (.ref (ad 253)), some (.ref (ad 263)), some (.ref (ad 264)), some (.int (nI (7 * j))), u6, u7, u8] [] SW ad h (300 + 8 * j) (30000 + 48 * j) := by
  obtain ⟨k, v, h1, h2, c1, c2, e5, e0, hI2⟩ := J h (xs (nI (7 * j + 1)).toNatClampNeg) hI
  refine pw_aload_n dL_law_676 rfl ?_
  refine pw_aload_n dL_law_677 rfl ?_
  refine pw_iload dL_law_678 rfl ?_
  refine pw_iconst dL_law_680 (v := 1) (by decide) ?_
  refine pw_iadd dL_law_681 ?_
  rw [show nI (7 * j) + 1 = nI (7 * j + 1) from nI_add _ 1]
  refine pw_sld dL_law_682 rfl (vpin (N := L9) (by omega) (by omega)) ?_
  refine pw_aload dL_law_683 rfl ?_
  refine pw_cSW dL_law_685 c1 lwX wi_L_meanVintage ws_L_meanVintage wk_L_144 rfl (gRm_mk rfl rfl (by show 300 + 8 * j + 1 ≤ 601024; omega) (by show 30000 + 48 * j + 6 ≤ 7293034; omega)) rfl rfl ?_
  refine pw_istore dL_law_688 (by decide) rfl ?_
  refine pw_aload_n dL_law_690 rfl ?_
  refine pw_aload_n dL_law_691 rfl ?_
  refine pw_iload dL_law_692 rfl ?_
  refine pw_iconst dL_law_694 (v := 1) (by decide) ?_
  refine pw_iadd dL_law_695 ?_
  rw [show nI (7 * j) + 1 = nI (7 * j + 1) from nI_add _ 1]
  refine pw_sld dL_law_696 rfl (vpin (N := L9) (by omega) (by omega)) ?_
  refine pw_cV dL_law_697 c2 mi_X8_meanVintage mv_X8_meanVintage ml_L_147 sh_253 rfl rfl rfl (gRm_mk rfl rfl (by show 300 + 8 * j + 1 + 0 ≤ 601024; omega) (by show 30000 + 48 * j + 6 + 0 ≤ 7293034; omega)) ⟨rfl, rfl⟩ rfl rfl ?_
  refine pw_dstore dL_law_700 (by decide) rfl ?_
  refine pw_aload_n dL_law_702 rfl ?_
  refine pw_cV dL_law_703 sp_X8_thrown mi_X8_thrown mv_X8_thrown ml_L_120 sh_253 rfl rfl rfl (gRm_mk rfl rfl (by show 300 + 8 * j + 1 + 0 ≤ 601024; omega) (by show 30000 + 48 * j + 6 + 0 ≤ 7293034; omega)) ⟨rfl, rfl⟩ rfl rfl ?_
  refine pw_iload dL_law_706 rfl ?_
  refine pw_icmp_eq dL_law_708 (tgt := 713) (by decide) (fun _ => ?_) (fun c => absurd e5 c)
  refine pw_iload dL_law_713 rfl ?_
  refine pw_if_ne dL_law_715 (tgt := 750) (by decide) (fun _ => ?_) (fun k0 => ?_)
  · skip
    refine pw_goto dL_law_750 (tgt := 2082) (by decide) ?_
    refine pw_iinc dL_law_2082 rfl (d := 7) (by decide) (by decide) rfl ?_
    refine pw_goto dL_law_2085 (tgt := 28) (by decide) ?_
    rw [show nI (7 * j) + 7 = nI (7 * (j + 1)) from nI_add _ 7]
    exact PW.widen (by show 300 + 8 * j + 1 ≤ 300 + 8 * (j + 1); omega) (by show 30000 + 48 * j + 6 ≤ 30000 + 48 * (j + 1); omega) (K h2 _ _ _ hI2)
  · skip
    refine pw_aload dL_law_718 rfl ?_
    refine pw_iconst dL_law_720 (v := 0) (by decide) ?_
    refine pw_daload dL_law_721 sh_264 (vpin (n := 0) (N := 1) (by decide) (by decide)) ?_
    refine pw_dload dL_law_722 rfl ?_
    refine pw_dcmpl dL_law_724 ?_
    rw [show h2 264 (Int32.toNatClampNeg 0) = v from e0 k0, dcmp_mil]
    refine pw_if_eq dL_law_725 (tgt := 750) (by decide) (fun _ => ?_) (fun c => absurd rfl c)
    refine pw_goto dL_law_750 (tgt := 2082) (by decide) ?_
    refine pw_iinc dL_law_2082 rfl (d := 7) (by decide) (by decide) rfl ?_
    refine pw_goto dL_law_2085 (tgt := 28) (by decide) ?_
    rw [show nI (7 * j) + 7 = nI (7 * (j + 1)) from nI_add _ 7]
    exact PW.widen (by show 300 + 8 * j + 1 ≤ 300 + 8 * (j + 1); omega) (by show 30000 + 48 * j + 6 ≤ 30000 + 48 * (j + 1); omega) (K h2 _ _ _ hI2)

set_option maxRecDepth 100000 in
set_option maxHeartbeats 4000000 in
theorem lc_setLaw {l : Launch} {G : GC} {ad : Nat → Nat} {hh : List (Nat × Nat × Nat × Nat)} {b L9 : Nat} {xs : Nat → Int32} {INV : HP → Prop} {j : Nat} (hj : 7 * j + 7 ≤ L9) (hL : L9 ≤ 3584) {h : HP} (hI : INV h) {u6 u7 u8 : Option Value} {S9 : Nat} (J : J_setLaw l G ad INV) (K : ∀ (h2 : HP) (w6 w7 w8 : Option Value), INV h2 → PW l G cL_law RL 9 ret hh room_1 (lwCX b L9 xs) lwE 28 [some (.ref b), some (.ref (ad 0)), some (.ref (ad 253)), some (.ref (ad 263)), some (.ref (ad 264)), some (.int (nI (7 * (j + 1)))), w6, w7, w8] [] SW ad h2 (300 + 8 * (j + 1)) (30000 + 48 * (j + 1))) : PW l G cL_law RL 9 ret hh room_1 (lwCX b L9 xs) lwE 753 [some (.ref b), some (.ref (ad 0)), some (.ref (ad 253)), some (.ref (ad 263)), some (.ref (ad 264)), some (.int (nI (7 * j))), u6, u7, u8] [] SW ad h (300 + 8 * j) (30000 + 48 * j) := by
  obtain ⟨k, v, h1, h2, c1, c2, e5, e0, hI2⟩ := J h (xs (nI (7 * j + 1)).toNatClampNeg) (xs (nI (7 * j + 2)).toNatClampNeg) hI
  refine pw_aload_n dL_law_753 rfl ?_
  refine pw_aload_n dL_law_754 rfl ?_
  refine pw_iload dL_law_755 rfl ?_
  refine pw_iconst dL_law_757 (v := 1) (by decide) ?_
  refine pw_iadd dL_law_758 ?_
  rw [show nI (7 * j) + 1 = nI (7 * j + 1) from nI_add _ 1]
  refine pw_sld dL_law_759 rfl (vpin (N := L9) (by omega) (by omega)) ?_
  refine pw_aload_n dL_law_760 rfl ?_
  refine pw_iload dL_law_761 rfl ?_
  refine pw_iconst dL_law_763 (v := 2) (by decide) ?_
  refine pw_iadd dL_law_764 ?_
  rw [show nI (7 * j) + 2 = nI (7 * j + 2) from nI_add _ 2]
  refine pw_sld dL_law_765 rfl (vpin (N := L9) (by omega) (by omega)) ?_
  refine pw_aload_n dL_law_766 rfl ?_
  refine pw_cSW dL_law_767 c1 lwX wi_L_setLaw ws_L_setLaw wk_L_148 rfl (gRm_mk rfl rfl (by show 300 + 8 * j + 2 ≤ 601024; omega) (by show 30000 + 48 * j + 12 ≤ 7293034; omega)) rfl rfl ?_
  refine pw_istore dL_law_770 (by decide) rfl ?_
  refine pw_aload_n dL_law_772 rfl ?_
  refine pw_aload_n dL_law_773 rfl ?_
  refine pw_iload dL_law_774 rfl ?_
  refine pw_iconst dL_law_776 (v := 1) (by decide) ?_
  refine pw_iadd dL_law_777 ?_
  rw [show nI (7 * j) + 1 = nI (7 * j + 1) from nI_add _ 1]
  refine pw_sld dL_law_778 rfl (vpin (N := L9) (by omega) (by omega)) ?_
  refine pw_aload_n dL_law_779 rfl ?_
  refine pw_iload dL_law_780 rfl ?_
  refine pw_iconst dL_law_782 (v := 2) (by decide) ?_
  refine pw_iadd dL_law_783 ?_
  rw [show nI (7 * j) + 2 = nI (7 * j + 2) from nI_add _ 2]
  refine pw_sld dL_law_784 rfl (vpin (N := L9) (by omega) (by omega)) ?_
  refine pw_cV dL_law_785 c2 mi_X8_setLaw mv_X8_setLaw ml_L_150 sh_253 rfl rfl rfl (gRm_mk rfl rfl (by show 300 + 8 * j + 2 + 0 ≤ 601024; omega) (by show 30000 + 48 * j + 12 + 0 ≤ 7293034; omega)) ⟨rfl, rfl⟩ rfl rfl ?_
  refine pw_istore dL_law_788 (by decide) rfl ?_
  refine pw_aload_n dL_law_790 rfl ?_
  refine pw_cV dL_law_791 sp_X8_thrown mi_X8_thrown mv_X8_thrown ml_L_120 sh_253 rfl rfl rfl (gRm_mk rfl rfl (by show 300 + 8 * j + 2 + 0 ≤ 601024; omega) (by show 30000 + 48 * j + 12 + 0 ≤ 7293034; omega)) ⟨rfl, rfl⟩ rfl rfl ?_
  refine pw_iload dL_law_794 rfl ?_
  refine pw_icmp_eq dL_law_796 (tgt := 801) (by decide) (fun _ => ?_) (fun c => absurd e5 c)
  refine pw_iload dL_law_801 rfl ?_
  refine pw_if_ne dL_law_803 (tgt := 818) (by decide) (fun _ => ?_) (fun k0 => ?_)
  · skip
    refine pw_goto dL_law_818 (tgt := 2082) (by decide) ?_
    refine pw_iinc dL_law_2082 rfl (d := 7) (by decide) (by decide) rfl ?_
    refine pw_goto dL_law_2085 (tgt := 28) (by decide) ?_
    rw [show nI (7 * j) + 7 = nI (7 * (j + 1)) from nI_add _ 7]
    exact PW.widen (by show 300 + 8 * j + 2 ≤ 300 + 8 * (j + 1); omega) (by show 30000 + 48 * j + 12 ≤ 30000 + 48 * (j + 1); omega) (K h2 _ _ _ hI2)
  · skip
    refine pw_aload_n dL_law_806 rfl ?_
    refine pw_iconst dL_law_807 (v := 0) (by decide) ?_
    refine pw_laload dL_law_808 sh_263 (vpin (n := 0) (N := 1) (by decide) (by decide)) ?_
    refine pw_iload dL_law_809 rfl ?_
    refine pw_i2l dL_law_811 ?_
    refine pw_lcmp dL_law_812 ?_
    rw [show h2 263 (Int32.toNatClampNeg 0) = v from e0 k0, lcmp_self]
    refine pw_if_eq dL_law_813 (tgt := 818) (by decide) (fun _ => ?_) (fun c => absurd rfl c)
    refine pw_goto dL_law_818 (tgt := 2082) (by decide) ?_
    refine pw_iinc dL_law_2082 rfl (d := 7) (by decide) (by decide) rfl ?_
    refine pw_goto dL_law_2085 (tgt := 28) (by decide) ?_
    rw [show nI (7 * j) + 7 = nI (7 * (j + 1)) from nI_add _ 7]
    exact PW.widen (by show 300 + 8 * j + 2 ≤ 300 + 8 * (j + 1); omega) (by show 30000 + 48 * j + 12 ≤ 30000 + 48 * (j + 1); omega) (K h2 _ _ _ hI2)

set_option maxRecDepth 100000 in
set_option maxHeartbeats 4000000 in
theorem lc_bottle {l : Launch} {G : GC} {ad : Nat → Nat} {hh : List (Nat × Nat × Nat × Nat)} {b L9 : Nat} {xs : Nat → Int32} {INV : HP → Prop} {j : Nat} (hj : 7 * j + 7 ≤ L9) (hL : L9 ≤ 3584) {h : HP} (hI : INV h) {u6 u7 u8 : Option Value} {S9 : Nat} (J : J_bottle l G ad INV) (K : ∀ (h2 : HP) (w6 w7 w8 : Option Value), INV h2 → PW l G cL_law RL 9 ret hh room_1 (lwCX b L9 xs) lwE 28 [some (.ref b), some (.ref (ad 0)), some (.ref (ad 253)), some (.ref (ad 263)), some (.ref (ad 264)), some (.int (nI (7 * (j + 1)))), w6, w7, w8] [] SW ad h2 (300 + 8 * (j + 1)) (30000 + 48 * (j + 1))) : PW l G cL_law RL 9 ret hh room_1 (lwCX b L9 xs) lwE 821 [some (.ref b), some (.ref (ad 0)), some (.ref (ad 253)), some (.ref (ad 263)), some (.ref (ad 264)), some (.int (nI (7 * j))), u6, u7, u8] [] SW ad h (300 + 8 * j) (30000 + 48 * j) := by
  obtain ⟨k, v, h1, h2, c1, c2, e5, e0, hI2⟩ := J h (xs (nI (7 * j + 1)).toNatClampNeg) (xs (nI (7 * j + 2)).toNatClampNeg) (xs (nI (7 * j + 3)).toNatClampNeg) (xs (nI (7 * j + 4)).toNatClampNeg) (xs (nI (7 * j + 5)).toNatClampNeg) (xs (nI (7 * j + 6)).toNatClampNeg) hI
  refine pw_aload_n dL_law_821 rfl ?_
  refine pw_aload_n dL_law_822 rfl ?_
  refine pw_iload dL_law_823 rfl ?_
  refine pw_iconst dL_law_825 (v := 1) (by decide) ?_
  refine pw_iadd dL_law_826 ?_
  rw [show nI (7 * j) + 1 = nI (7 * j + 1) from nI_add _ 1]
  refine pw_sld dL_law_827 rfl (vpin (N := L9) (by omega) (by omega)) ?_
  refine pw_aload_n dL_law_828 rfl ?_
  refine pw_iload dL_law_829 rfl ?_
  refine pw_iconst dL_law_831 (v := 2) (by decide) ?_
  refine pw_iadd dL_law_832 ?_
  rw [show nI (7 * j) + 2 = nI (7 * j + 2) from nI_add _ 2]
  refine pw_sld dL_law_833 rfl (vpin (N := L9) (by omega) (by omega)) ?_
  refine pw_aload_n dL_law_834 rfl ?_
  refine pw_iload dL_law_835 rfl ?_
  refine pw_iconst dL_law_837 (v := 3) (by decide) ?_
  refine pw_iadd dL_law_838 ?_
  rw [show nI (7 * j) + 3 = nI (7 * j + 3) from nI_add _ 3]
  refine pw_sld dL_law_839 rfl (vpin (N := L9) (by omega) (by omega)) ?_
  refine pw_aload_n dL_law_840 rfl ?_
  refine pw_iload dL_law_841 rfl ?_
  refine pw_iconst dL_law_843 (v := 4) (by decide) ?_
  refine pw_iadd dL_law_844 ?_
  rw [show nI (7 * j) + 4 = nI (7 * j + 4) from nI_add _ 4]
  refine pw_sld dL_law_845 rfl (vpin (N := L9) (by omega) (by omega)) ?_
  refine pw_aload_n dL_law_846 rfl ?_
  refine pw_iload dL_law_847 rfl ?_
  refine pw_iconst dL_law_849 (v := 5) (by decide) ?_
  refine pw_iadd dL_law_850 ?_
  rw [show nI (7 * j) + 5 = nI (7 * j + 5) from nI_add _ 5]
  refine pw_sld dL_law_851 rfl (vpin (N := L9) (by omega) (by omega)) ?_
  refine pw_aload_n dL_law_852 rfl ?_
  refine pw_iload dL_law_853 rfl ?_
  refine pw_bipush dL_law_855 (v := 6) (by decide) ?_
  refine pw_iadd dL_law_857 ?_
  rw [show nI (7 * j) + 6 = nI (7 * j + 6) from nI_add _ 6]
  refine pw_sld dL_law_858 rfl (vpin (N := L9) (by omega) (by omega)) ?_
  refine pw_aload_n dL_law_859 rfl ?_
  refine pw_cSW dL_law_860 c1 lwX wi_L_bottle ws_L_bottle wk_L_151 rfl (gRm_mk rfl rfl (by show 300 + 8 * j + 8 ≤ 601024; omega) (by show 30000 + 48 * j + 48 ≤ 7293034; omega)) rfl rfl ?_
  refine pw_istore dL_law_863 (by decide) rfl ?_
  refine pw_aload_n dL_law_865 rfl ?_
  refine pw_aload_n dL_law_866 rfl ?_
  refine pw_iload dL_law_867 rfl ?_
  refine pw_iconst dL_law_869 (v := 1) (by decide) ?_
  refine pw_iadd dL_law_870 ?_
  rw [show nI (7 * j) + 1 = nI (7 * j + 1) from nI_add _ 1]
  refine pw_sld dL_law_871 rfl (vpin (N := L9) (by omega) (by omega)) ?_
  refine pw_aload_n dL_law_872 rfl ?_
  refine pw_iload dL_law_873 rfl ?_
  refine pw_iconst dL_law_875 (v := 2) (by decide) ?_
  refine pw_iadd dL_law_876 ?_
  rw [show nI (7 * j) + 2 = nI (7 * j + 2) from nI_add _ 2]
  refine pw_sld dL_law_877 rfl (vpin (N := L9) (by omega) (by omega)) ?_
  refine pw_aload_n dL_law_878 rfl ?_
  refine pw_iload dL_law_879 rfl ?_
  refine pw_iconst dL_law_881 (v := 3) (by decide) ?_
  refine pw_iadd dL_law_882 ?_
  rw [show nI (7 * j) + 3 = nI (7 * j + 3) from nI_add _ 3]
  refine pw_sld dL_law_883 rfl (vpin (N := L9) (by omega) (by omega)) ?_
  refine pw_aload_n dL_law_884 rfl ?_
  refine pw_iload dL_law_885 rfl ?_
  refine pw_iconst dL_law_887 (v := 4) (by decide) ?_
  refine pw_iadd dL_law_888 ?_
  rw [show nI (7 * j) + 4 = nI (7 * j + 4) from nI_add _ 4]
  refine pw_sld dL_law_889 rfl (vpin (N := L9) (by omega) (by omega)) ?_
  refine pw_aload_n dL_law_890 rfl ?_
  refine pw_iload dL_law_891 rfl ?_
  refine pw_iconst dL_law_893 (v := 5) (by decide) ?_
  refine pw_iadd dL_law_894 ?_
  rw [show nI (7 * j) + 5 = nI (7 * j + 5) from nI_add _ 5]
  refine pw_sld dL_law_895 rfl (vpin (N := L9) (by omega) (by omega)) ?_
  refine pw_aload_n dL_law_896 rfl ?_
  refine pw_iload dL_law_897 rfl ?_
  refine pw_bipush dL_law_899 (v := 6) (by decide) ?_
  refine pw_iadd dL_law_901 ?_
  rw [show nI (7 * j) + 6 = nI (7 * j + 6) from nI_add _ 6]
  refine pw_sld dL_law_902 rfl (vpin (N := L9) (by omega) (by omega)) ?_
  refine pw_cV dL_law_903 c2 mi_X8_bottle mv_X8_bottle ml_L_154 sh_253 rfl rfl rfl (gRm_mk rfl rfl (by show 300 + 8 * j + 8 + 0 ≤ 601024; omega) (by show 30000 + 48 * j + 48 + 0 ≤ 7293034; omega)) ⟨rfl, rfl⟩ rfl rfl ?_
  refine pw_istore dL_law_906 (by decide) rfl ?_
  refine pw_aload_n dL_law_908 rfl ?_
  refine pw_cV dL_law_909 sp_X8_thrown mi_X8_thrown mv_X8_thrown ml_L_120 sh_253 rfl rfl rfl (gRm_mk rfl rfl (by show 300 + 8 * j + 8 + 0 ≤ 601024; omega) (by show 30000 + 48 * j + 48 + 0 ≤ 7293034; omega)) ⟨rfl, rfl⟩ rfl rfl ?_
  refine pw_iload dL_law_912 rfl ?_
  refine pw_icmp_eq dL_law_914 (tgt := 919) (by decide) (fun _ => ?_) (fun c => absurd e5 c)
  refine pw_iload dL_law_919 rfl ?_
  refine pw_if_ne dL_law_921 (tgt := 936) (by decide) (fun _ => ?_) (fun k0 => ?_)
  · skip
    refine pw_goto dL_law_936 (tgt := 2082) (by decide) ?_
    refine pw_iinc dL_law_2082 rfl (d := 7) (by decide) (by decide) rfl ?_
    refine pw_goto dL_law_2085 (tgt := 28) (by decide) ?_
    rw [show nI (7 * j) + 7 = nI (7 * (j + 1)) from nI_add _ 7]
    exact PW.widen (by show 300 + 8 * j + 8 ≤ 300 + 8 * (j + 1); omega) (by show 30000 + 48 * j + 48 ≤ 30000 + 48 * (j + 1); omega) (K h2 _ _ _ hI2)
  · skip
    refine pw_aload_n dL_law_924 rfl ?_
    refine pw_iconst dL_law_925 (v := 0) (by decide) ?_
    refine pw_laload dL_law_926 sh_263 (vpin (n := 0) (N := 1) (by decide) (by decide)) ?_
    refine pw_iload dL_law_927 rfl ?_
    refine pw_i2l dL_law_929 ?_
    refine pw_lcmp dL_law_930 ?_
    rw [show h2 263 (Int32.toNatClampNeg 0) = v from e0 k0, lcmp_self]
    refine pw_if_eq dL_law_931 (tgt := 936) (by decide) (fun _ => ?_) (fun c => absurd rfl c)
    refine pw_goto dL_law_936 (tgt := 2082) (by decide) ?_
    refine pw_iinc dL_law_2082 rfl (d := 7) (by decide) (by decide) rfl ?_
    refine pw_goto dL_law_2085 (tgt := 28) (by decide) ?_
    rw [show nI (7 * j) + 7 = nI (7 * (j + 1)) from nI_add _ 7]
    exact PW.widen (by show 300 + 8 * j + 8 ≤ 300 + 8 * (j + 1); omega) (by show 30000 + 48 * j + 48 ≤ 30000 + 48 * (j + 1); omega) (K h2 _ _ _ hI2)

set_option maxRecDepth 100000 in
set_option maxHeartbeats 4000000 in
theorem lc_forbids {l : Launch} {G : GC} {ad : Nat → Nat} {hh : List (Nat × Nat × Nat × Nat)} {b L9 : Nat} {xs : Nat → Int32} {INV : HP → Prop} {j : Nat} (hj : 7 * j + 7 ≤ L9) (hL : L9 ≤ 3584) {h : HP} (hI : INV h) {u6 u7 u8 : Option Value} {S9 : Nat} (J : J_forbids l G ad INV) (K : ∀ (h2 : HP) (w6 w7 w8 : Option Value), INV h2 → PW l G cL_law RL 9 ret hh room_1 (lwCX b L9 xs) lwE 28 [some (.ref b), some (.ref (ad 0)), some (.ref (ad 253)), some (.ref (ad 263)), some (.ref (ad 264)), some (.int (nI (7 * (j + 1)))), w6, w7, w8] [] SW ad h2 (300 + 8 * (j + 1)) (30000 + 48 * (j + 1))) : PW l G cL_law RL 9 ret hh room_1 (lwCX b L9 xs) lwE 939 [some (.ref b), some (.ref (ad 0)), some (.ref (ad 253)), some (.ref (ad 263)), some (.ref (ad 264)), some (.int (nI (7 * j))), u6, u7, u8] [] SW ad h (300 + 8 * j) (30000 + 48 * j) := by
  obtain ⟨k, v, h1, h2, c1, c2, e5, e0, hI2⟩ := J h (xs (nI (7 * j + 1)).toNatClampNeg) (xs (nI (7 * j + 2)).toNatClampNeg) (xs (nI (7 * j + 3)).toNatClampNeg) (xs (nI (7 * j + 4)).toNatClampNeg) (xs (nI (7 * j + 5)).toNatClampNeg) hI
  refine pw_aload_n dL_law_939 rfl ?_
  refine pw_aload_n dL_law_940 rfl ?_
  refine pw_iload dL_law_941 rfl ?_
  refine pw_iconst dL_law_943 (v := 1) (by decide) ?_
  refine pw_iadd dL_law_944 ?_
  rw [show nI (7 * j) + 1 = nI (7 * j + 1) from nI_add _ 1]
  refine pw_sld dL_law_945 rfl (vpin (N := L9) (by omega) (by omega)) ?_
  refine pw_aload_n dL_law_946 rfl ?_
  refine pw_iload dL_law_947 rfl ?_
  refine pw_iconst dL_law_949 (v := 2) (by decide) ?_
  refine pw_iadd dL_law_950 ?_
  rw [show nI (7 * j) + 2 = nI (7 * j + 2) from nI_add _ 2]
  refine pw_sld dL_law_951 rfl (vpin (N := L9) (by omega) (by omega)) ?_
  refine pw_aload_n dL_law_952 rfl ?_
  refine pw_iload dL_law_953 rfl ?_
  refine pw_iconst dL_law_955 (v := 3) (by decide) ?_
  refine pw_iadd dL_law_956 ?_
  rw [show nI (7 * j) + 3 = nI (7 * j + 3) from nI_add _ 3]
  refine pw_sld dL_law_957 rfl (vpin (N := L9) (by omega) (by omega)) ?_
  refine pw_aload_n dL_law_958 rfl ?_
  refine pw_iload dL_law_959 rfl ?_
  refine pw_iconst dL_law_961 (v := 4) (by decide) ?_
  refine pw_iadd dL_law_962 ?_
  rw [show nI (7 * j) + 4 = nI (7 * j + 4) from nI_add _ 4]
  refine pw_sld dL_law_963 rfl (vpin (N := L9) (by omega) (by omega)) ?_
  refine pw_aload_n dL_law_964 rfl ?_
  refine pw_iload dL_law_965 rfl ?_
  refine pw_iconst dL_law_967 (v := 5) (by decide) ?_
  refine pw_iadd dL_law_968 ?_
  rw [show nI (7 * j) + 5 = nI (7 * j + 5) from nI_add _ 5]
  refine pw_sld dL_law_969 rfl (vpin (N := L9) (by omega) (by omega)) ?_
  refine pw_aload_n dL_law_970 rfl ?_
  refine pw_cSW dL_law_971 c1 lwX wi_L_forbids ws_L_forbids wk_L_155 rfl (gRm_mk rfl rfl (by show 300 + 8 * j + 6 ≤ 601024; omega) (by show 30000 + 48 * j + 36 ≤ 7293034; omega)) rfl rfl ?_
  refine pw_istore dL_law_974 (by decide) rfl ?_
  refine pw_aload_n dL_law_976 rfl ?_
  refine pw_aload_n dL_law_977 rfl ?_
  refine pw_iload dL_law_978 rfl ?_
  refine pw_iconst dL_law_980 (v := 1) (by decide) ?_
  refine pw_iadd dL_law_981 ?_
  rw [show nI (7 * j) + 1 = nI (7 * j + 1) from nI_add _ 1]
  refine pw_sld dL_law_982 rfl (vpin (N := L9) (by omega) (by omega)) ?_
  refine pw_aload_n dL_law_983 rfl ?_
  refine pw_iload dL_law_984 rfl ?_
  refine pw_iconst dL_law_986 (v := 2) (by decide) ?_
  refine pw_iadd dL_law_987 ?_
  rw [show nI (7 * j) + 2 = nI (7 * j + 2) from nI_add _ 2]
  refine pw_sld dL_law_988 rfl (vpin (N := L9) (by omega) (by omega)) ?_
  refine pw_aload_n dL_law_989 rfl ?_
  refine pw_iload dL_law_990 rfl ?_
  refine pw_iconst dL_law_992 (v := 3) (by decide) ?_
  refine pw_iadd dL_law_993 ?_
  rw [show nI (7 * j) + 3 = nI (7 * j + 3) from nI_add _ 3]
  refine pw_sld dL_law_994 rfl (vpin (N := L9) (by omega) (by omega)) ?_
  refine pw_aload_n dL_law_995 rfl ?_
  refine pw_iload dL_law_996 rfl ?_
  refine pw_iconst dL_law_998 (v := 4) (by decide) ?_
  refine pw_iadd dL_law_999 ?_
  rw [show nI (7 * j) + 4 = nI (7 * j + 4) from nI_add _ 4]
  refine pw_sld dL_law_1000 rfl (vpin (N := L9) (by omega) (by omega)) ?_
  refine pw_aload_n dL_law_1001 rfl ?_
  refine pw_iload dL_law_1002 rfl ?_
  refine pw_iconst dL_law_1004 (v := 5) (by decide) ?_
  refine pw_iadd dL_law_1005 ?_
  rw [show nI (7 * j) + 5 = nI (7 * j + 5) from nI_add _ 5]
  refine pw_sld dL_law_1006 rfl (vpin (N := L9) (by omega) (by omega)) ?_
  refine pw_cV dL_law_1007 c2 mi_X8_forbids mv_X8_forbids ml_L_158 sh_253 rfl rfl rfl (gRm_mk rfl rfl (by show 300 + 8 * j + 6 + 0 ≤ 601024; omega) (by show 30000 + 48 * j + 36 + 0 ≤ 7293034; omega)) ⟨rfl, rfl⟩ rfl rfl ?_
  refine pw_istore dL_law_1010 (by decide) rfl ?_
  refine pw_aload_n dL_law_1012 rfl ?_
  refine pw_cV dL_law_1013 sp_X8_thrown mi_X8_thrown mv_X8_thrown ml_L_120 sh_253 rfl rfl rfl (gRm_mk rfl rfl (by show 300 + 8 * j + 6 + 0 ≤ 601024; omega) (by show 30000 + 48 * j + 36 + 0 ≤ 7293034; omega)) ⟨rfl, rfl⟩ rfl rfl ?_
  refine pw_iload dL_law_1016 rfl ?_
  refine pw_icmp_eq dL_law_1018 (tgt := 1023) (by decide) (fun _ => ?_) (fun c => absurd e5 c)
  refine pw_iload dL_law_1023 rfl ?_
  refine pw_if_ne dL_law_1025 (tgt := 1040) (by decide) (fun _ => ?_) (fun k0 => ?_)
  · skip
    refine pw_goto dL_law_1040 (tgt := 2082) (by decide) ?_
    refine pw_iinc dL_law_2082 rfl (d := 7) (by decide) (by decide) rfl ?_
    refine pw_goto dL_law_2085 (tgt := 28) (by decide) ?_
    rw [show nI (7 * j) + 7 = nI (7 * (j + 1)) from nI_add _ 7]
    exact PW.widen (by show 300 + 8 * j + 6 ≤ 300 + 8 * (j + 1); omega) (by show 30000 + 48 * j + 36 ≤ 30000 + 48 * (j + 1); omega) (K h2 _ _ _ hI2)
  · skip
    refine pw_aload_n dL_law_1028 rfl ?_
    refine pw_iconst dL_law_1029 (v := 0) (by decide) ?_
    refine pw_laload dL_law_1030 sh_263 (vpin (n := 0) (N := 1) (by decide) (by decide)) ?_
    refine pw_iload dL_law_1031 rfl ?_
    refine pw_i2l dL_law_1033 ?_
    refine pw_lcmp dL_law_1034 ?_
    rw [show h2 263 (Int32.toNatClampNeg 0) = v from e0 k0, lcmp_self]
    refine pw_if_eq dL_law_1035 (tgt := 1040) (by decide) (fun _ => ?_) (fun c => absurd rfl c)
    refine pw_goto dL_law_1040 (tgt := 2082) (by decide) ?_
    refine pw_iinc dL_law_2082 rfl (d := 7) (by decide) (by decide) rfl ?_
    refine pw_goto dL_law_2085 (tgt := 28) (by decide) ?_
    rw [show nI (7 * j) + 7 = nI (7 * (j + 1)) from nI_add _ 7]
    exact PW.widen (by show 300 + 8 * j + 6 ≤ 300 + 8 * (j + 1); omega) (by show 30000 + 48 * j + 36 ≤ 30000 + 48 * (j + 1); omega) (K h2 _ _ _ hI2)

set_option maxRecDepth 100000 in
set_option maxHeartbeats 4000000 in
theorem lc_bottling {l : Launch} {G : GC} {ad : Nat → Nat} {hh : List (Nat × Nat × Nat × Nat)} {b L9 : Nat} {xs : Nat → Int32} {INV : HP → Prop} {j : Nat} (hj : 7 * j + 7 ≤ L9) (hL : L9 ≤ 3584) {h : HP} (hI : INV h) {u6 u7 u8 : Option Value} {S9 : Nat} (J : J_bottling l G ad INV) (K : ∀ (h2 : HP) (w6 w7 w8 : Option Value), INV h2 → PW l G cL_law RL 9 ret hh room_1 (lwCX b L9 xs) lwE 28 [some (.ref b), some (.ref (ad 0)), some (.ref (ad 253)), some (.ref (ad 263)), some (.ref (ad 264)), some (.int (nI (7 * (j + 1)))), w6, w7, w8] [] SW ad h2 (300 + 8 * (j + 1)) (30000 + 48 * (j + 1))) : PW l G cL_law RL 9 ret hh room_1 (lwCX b L9 xs) lwE 1043 [some (.ref b), some (.ref (ad 0)), some (.ref (ad 253)), some (.ref (ad 263)), some (.ref (ad 264)), some (.int (nI (7 * j))), u6, u7, u8] [] SW ad h (300 + 8 * j) (30000 + 48 * j) := by
  obtain ⟨k, v, h1, h2, c1, c2, e5, e0, hI2⟩ := J h (xs (nI (7 * j + 1)).toNatClampNeg) (xs (nI (7 * j + 2)).toNatClampNeg) hI
  refine pw_aload_n dL_law_1043 rfl ?_
  refine pw_aload_n dL_law_1044 rfl ?_
  refine pw_iload dL_law_1045 rfl ?_
  refine pw_iconst dL_law_1047 (v := 1) (by decide) ?_
  refine pw_iadd dL_law_1048 ?_
  rw [show nI (7 * j) + 1 = nI (7 * j + 1) from nI_add _ 1]
  refine pw_sld dL_law_1049 rfl (vpin (N := L9) (by omega) (by omega)) ?_
  refine pw_aload_n dL_law_1050 rfl ?_
  refine pw_iload dL_law_1051 rfl ?_
  refine pw_iconst dL_law_1053 (v := 2) (by decide) ?_
  refine pw_iadd dL_law_1054 ?_
  rw [show nI (7 * j) + 2 = nI (7 * j + 2) from nI_add _ 2]
  refine pw_sld dL_law_1055 rfl (vpin (N := L9) (by omega) (by omega)) ?_
  refine pw_aload_n dL_law_1056 rfl ?_
  refine pw_cSW dL_law_1057 c1 lwX wi_L_bottling ws_L_bottling wk_L_159 rfl (gRm_mk rfl rfl (by show 300 + 8 * j + 2 ≤ 601024; omega) (by show 30000 + 48 * j + 12 ≤ 7293034; omega)) rfl rfl ?_
  refine pw_istore dL_law_1060 (by decide) rfl ?_
  refine pw_aload_n dL_law_1062 rfl ?_
  refine pw_aload_n dL_law_1063 rfl ?_
  refine pw_iload dL_law_1064 rfl ?_
  refine pw_iconst dL_law_1066 (v := 1) (by decide) ?_
  refine pw_iadd dL_law_1067 ?_
  rw [show nI (7 * j) + 1 = nI (7 * j + 1) from nI_add _ 1]
  refine pw_sld dL_law_1068 rfl (vpin (N := L9) (by omega) (by omega)) ?_
  refine pw_aload_n dL_law_1069 rfl ?_
  refine pw_iload dL_law_1070 rfl ?_
  refine pw_iconst dL_law_1072 (v := 2) (by decide) ?_
  refine pw_iadd dL_law_1073 ?_
  rw [show nI (7 * j) + 2 = nI (7 * j + 2) from nI_add _ 2]
  refine pw_sld dL_law_1074 rfl (vpin (N := L9) (by omega) (by omega)) ?_
  refine pw_cV dL_law_1075 c2 mi_X8_bottling mv_X8_bottling ml_L_161 sh_253 rfl rfl rfl (gRm_mk rfl rfl (by show 300 + 8 * j + 2 + 0 ≤ 601024; omega) (by show 30000 + 48 * j + 12 + 0 ≤ 7293034; omega)) ⟨rfl, rfl⟩ rfl rfl ?_
  refine pw_istore dL_law_1078 (by decide) rfl ?_
  refine pw_aload_n dL_law_1080 rfl ?_
  refine pw_cV dL_law_1081 sp_X8_thrown mi_X8_thrown mv_X8_thrown ml_L_120 sh_253 rfl rfl rfl (gRm_mk rfl rfl (by show 300 + 8 * j + 2 + 0 ≤ 601024; omega) (by show 30000 + 48 * j + 12 + 0 ≤ 7293034; omega)) ⟨rfl, rfl⟩ rfl rfl ?_
  refine pw_iload dL_law_1084 rfl ?_
  refine pw_icmp_eq dL_law_1086 (tgt := 1091) (by decide) (fun _ => ?_) (fun c => absurd e5 c)
  refine pw_iload dL_law_1091 rfl ?_
  refine pw_if_ne dL_law_1093 (tgt := 1108) (by decide) (fun _ => ?_) (fun k0 => ?_)
  · skip
    refine pw_goto dL_law_1108 (tgt := 2082) (by decide) ?_
    refine pw_iinc dL_law_2082 rfl (d := 7) (by decide) (by decide) rfl ?_
    refine pw_goto dL_law_2085 (tgt := 28) (by decide) ?_
    rw [show nI (7 * j) + 7 = nI (7 * (j + 1)) from nI_add _ 7]
    exact PW.widen (by show 300 + 8 * j + 2 ≤ 300 + 8 * (j + 1); omega) (by show 30000 + 48 * j + 12 ≤ 30000 + 48 * (j + 1); omega) (K h2 _ _ _ hI2)
  · skip
    refine pw_aload_n dL_law_1096 rfl ?_
    refine pw_iconst dL_law_1097 (v := 0) (by decide) ?_
    refine pw_laload dL_law_1098 sh_263 (vpin (n := 0) (N := 1) (by decide) (by decide)) ?_
    refine pw_iload dL_law_1099 rfl ?_
    refine pw_i2l dL_law_1101 ?_
    refine pw_lcmp dL_law_1102 ?_
    rw [show h2 263 (Int32.toNatClampNeg 0) = v from e0 k0, lcmp_self]
    refine pw_if_eq dL_law_1103 (tgt := 1108) (by decide) (fun _ => ?_) (fun c => absurd rfl c)
    refine pw_goto dL_law_1108 (tgt := 2082) (by decide) ?_
    refine pw_iinc dL_law_2082 rfl (d := 7) (by decide) (by decide) rfl ?_
    refine pw_goto dL_law_2085 (tgt := 28) (by decide) ?_
    rw [show nI (7 * j) + 7 = nI (7 * (j + 1)) from nI_add _ 7]
    exact PW.widen (by show 300 + 8 * j + 2 ≤ 300 + 8 * (j + 1); omega) (by show 30000 + 48 * j + 12 ≤ 30000 + 48 * (j + 1); omega) (K h2 _ _ _ hI2)

set_option maxRecDepth 100000 in
set_option maxHeartbeats 4000000 in
theorem lc_reason {l : Launch} {G : GC} {ad : Nat → Nat} {hh : List (Nat × Nat × Nat × Nat)} {b L9 : Nat} {xs : Nat → Int32} {INV : HP → Prop} {j : Nat} (hj : 7 * j + 7 ≤ L9) (hL : L9 ≤ 3584) {h : HP} (hI : INV h) {u6 u7 u8 : Option Value} {S9 : Nat} (J : J_reason l G ad INV) (K : ∀ (h2 : HP) (w6 w7 w8 : Option Value), INV h2 → PW l G cL_law RL 9 ret hh room_1 (lwCX b L9 xs) lwE 28 [some (.ref b), some (.ref (ad 0)), some (.ref (ad 253)), some (.ref (ad 263)), some (.ref (ad 264)), some (.int (nI (7 * (j + 1)))), w6, w7, w8] [] SW ad h2 (300 + 8 * (j + 1)) (30000 + 48 * (j + 1))) : PW l G cL_law RL 9 ret hh room_1 (lwCX b L9 xs) lwE 1111 [some (.ref b), some (.ref (ad 0)), some (.ref (ad 253)), some (.ref (ad 263)), some (.ref (ad 264)), some (.int (nI (7 * j))), u6, u7, u8] [] SW ad h (300 + 8 * j) (30000 + 48 * j) := by
  obtain ⟨k, v, h1, h2, c1, c2, e5, e0, hI2⟩ := J h  hI
  refine pw_aload_n dL_law_1111 rfl ?_
  refine pw_aload_n dL_law_1112 rfl ?_
  refine pw_cSW dL_law_1113 c1 lwX wi_L_reason ws_L_reason wk_L_162 rfl (gRm_mk rfl rfl (by show 300 + 8 * j + 1 ≤ 601024; omega) (by show 30000 + 48 * j + 6 ≤ 7293034; omega)) rfl rfl ?_
  refine pw_istore dL_law_1116 (by decide) rfl ?_
  refine pw_aload_n dL_law_1118 rfl ?_
  refine pw_cV dL_law_1119 c2 mi_X8_reason mv_X8_reason ml_L_164 sh_253 rfl rfl rfl (gRm_mk rfl rfl (by show 300 + 8 * j + 1 + 0 ≤ 601024; omega) (by show 30000 + 48 * j + 6 + 0 ≤ 7293034; omega)) ⟨rfl, rfl⟩ rfl rfl ?_
  refine pw_istore dL_law_1122 (by decide) rfl ?_
  refine pw_aload_n dL_law_1124 rfl ?_
  refine pw_cV dL_law_1125 sp_X8_thrown mi_X8_thrown mv_X8_thrown ml_L_120 sh_253 rfl rfl rfl (gRm_mk rfl rfl (by show 300 + 8 * j + 1 + 0 ≤ 601024; omega) (by show 30000 + 48 * j + 6 + 0 ≤ 7293034; omega)) ⟨rfl, rfl⟩ rfl rfl ?_
  refine pw_iload dL_law_1128 rfl ?_
  refine pw_icmp_eq dL_law_1130 (tgt := 1135) (by decide) (fun _ => ?_) (fun c => absurd e5 c)
  refine pw_iload dL_law_1135 rfl ?_
  refine pw_if_ne dL_law_1137 (tgt := 1152) (by decide) (fun _ => ?_) (fun k0 => ?_)
  · skip
    refine pw_goto dL_law_1152 (tgt := 2082) (by decide) ?_
    refine pw_iinc dL_law_2082 rfl (d := 7) (by decide) (by decide) rfl ?_
    refine pw_goto dL_law_2085 (tgt := 28) (by decide) ?_
    rw [show nI (7 * j) + 7 = nI (7 * (j + 1)) from nI_add _ 7]
    exact PW.widen (by show 300 + 8 * j + 1 ≤ 300 + 8 * (j + 1); omega) (by show 30000 + 48 * j + 6 ≤ 30000 + 48 * (j + 1); omega) (K h2 _ _ _ hI2)
  · skip
    refine pw_aload_n dL_law_1140 rfl ?_
    refine pw_iconst dL_law_1141 (v := 0) (by decide) ?_
    refine pw_laload dL_law_1142 sh_263 (vpin (n := 0) (N := 1) (by decide) (by decide)) ?_
    refine pw_iload dL_law_1143 rfl ?_
    refine pw_i2l dL_law_1145 ?_
    refine pw_lcmp dL_law_1146 ?_
    rw [show h2 263 (Int32.toNatClampNeg 0) = v from e0 k0, lcmp_self]
    refine pw_if_eq dL_law_1147 (tgt := 1152) (by decide) (fun _ => ?_) (fun c => absurd rfl c)
    refine pw_goto dL_law_1152 (tgt := 2082) (by decide) ?_
    refine pw_iinc dL_law_2082 rfl (d := 7) (by decide) (by decide) rfl ?_
    refine pw_goto dL_law_2085 (tgt := 28) (by decide) ?_
    rw [show nI (7 * j) + 7 = nI (7 * (j + 1)) from nI_add _ 7]
    exact PW.widen (by show 300 + 8 * j + 1 ≤ 300 + 8 * (j + 1); omega) (by show 30000 + 48 * j + 6 ≤ 30000 + 48 * (j + 1); omega) (K h2 _ _ _ hI2)

set_option maxRecDepth 100000 in
set_option maxHeartbeats 4000000 in
theorem lc_addCustomer {l : Launch} {G : GC} {ad : Nat → Nat} {hh : List (Nat × Nat × Nat × Nat)} {b L9 : Nat} {xs : Nat → Int32} {INV : HP → Prop} {j : Nat} (hj : 7 * j + 7 ≤ L9) (hL : L9 ≤ 3584) {h : HP} (hI : INV h) {u6 u7 u8 : Option Value} {S9 : Nat} (J : J_addCustomer l G ad INV) (K : ∀ (h2 : HP) (w6 w7 w8 : Option Value), INV h2 → PW l G cL_law RL 9 ret hh room_1 (lwCX b L9 xs) lwE 28 [some (.ref b), some (.ref (ad 0)), some (.ref (ad 253)), some (.ref (ad 263)), some (.ref (ad 264)), some (.int (nI (7 * (j + 1)))), w6, w7, w8] [] SW ad h2 (300 + 8 * (j + 1)) (30000 + 48 * (j + 1))) : PW l G cL_law RL 9 ret hh room_1 (lwCX b L9 xs) lwE 1155 [some (.ref b), some (.ref (ad 0)), some (.ref (ad 253)), some (.ref (ad 263)), some (.ref (ad 264)), some (.int (nI (7 * j))), u6, u7, u8] [] SW ad h (300 + 8 * j) (30000 + 48 * j) := by
  obtain ⟨k, v, h1, h2, c1, c2, e5, e0, hI2⟩ := J h (xs (nI (7 * j + 1)).toNatClampNeg) hI
  refine pw_aload_n dL_law_1155 rfl ?_
  refine pw_aload_n dL_law_1156 rfl ?_
  refine pw_iload dL_law_1157 rfl ?_
  refine pw_iconst dL_law_1159 (v := 1) (by decide) ?_
  refine pw_iadd dL_law_1160 ?_
  rw [show nI (7 * j) + 1 = nI (7 * j + 1) from nI_add _ 1]
  refine pw_sld dL_law_1161 rfl (vpin (N := L9) (by omega) (by omega)) ?_
  refine pw_aload_n dL_law_1162 rfl ?_
  refine pw_cSW dL_law_1163 c1 lwX wi_L_addCustomer ws_L_addCustomer wk_L_165 rfl (gRm_mk rfl rfl (by show 300 + 8 * j + 2 ≤ 601024; omega) (by show 30000 + 48 * j + 12 ≤ 7293034; omega)) rfl rfl ?_
  refine pw_istore dL_law_1166 (by decide) rfl ?_
  refine pw_aload_n dL_law_1168 rfl ?_
  refine pw_aload_n dL_law_1169 rfl ?_
  refine pw_iload dL_law_1170 rfl ?_
  refine pw_iconst dL_law_1172 (v := 1) (by decide) ?_
  refine pw_iadd dL_law_1173 ?_
  rw [show nI (7 * j) + 1 = nI (7 * j + 1) from nI_add _ 1]
  refine pw_sld dL_law_1174 rfl (vpin (N := L9) (by omega) (by omega)) ?_
  refine pw_cV dL_law_1175 c2 mi_X8_addCustomer mv_X8_addCustomer ml_L_168 sh_253 rfl rfl rfl (gRm_mk rfl rfl (by show 300 + 8 * j + 2 + 0 ≤ 601024; omega) (by show 30000 + 48 * j + 12 + 0 ≤ 7293034; omega)) ⟨rfl, rfl⟩ rfl rfl ?_
  refine pw_istore dL_law_1178 (by decide) rfl ?_
  refine pw_aload_n dL_law_1180 rfl ?_
  refine pw_cV dL_law_1181 sp_X8_thrown mi_X8_thrown mv_X8_thrown ml_L_120 sh_253 rfl rfl rfl (gRm_mk rfl rfl (by show 300 + 8 * j + 2 + 0 ≤ 601024; omega) (by show 30000 + 48 * j + 12 + 0 ≤ 7293034; omega)) ⟨rfl, rfl⟩ rfl rfl ?_
  refine pw_iload dL_law_1184 rfl ?_
  refine pw_icmp_eq dL_law_1186 (tgt := 1191) (by decide) (fun _ => ?_) (fun c => absurd e5 c)
  refine pw_iload dL_law_1191 rfl ?_
  refine pw_if_ne dL_law_1193 (tgt := 1208) (by decide) (fun _ => ?_) (fun k0 => ?_)
  · skip
    refine pw_goto dL_law_1208 (tgt := 2082) (by decide) ?_
    refine pw_iinc dL_law_2082 rfl (d := 7) (by decide) (by decide) rfl ?_
    refine pw_goto dL_law_2085 (tgt := 28) (by decide) ?_
    rw [show nI (7 * j) + 7 = nI (7 * (j + 1)) from nI_add _ 7]
    exact PW.widen (by show 300 + 8 * j + 2 ≤ 300 + 8 * (j + 1); omega) (by show 30000 + 48 * j + 12 ≤ 30000 + 48 * (j + 1); omega) (K h2 _ _ _ hI2)
  · skip
    refine pw_aload_n dL_law_1196 rfl ?_
    refine pw_iconst dL_law_1197 (v := 0) (by decide) ?_
    refine pw_laload dL_law_1198 sh_263 (vpin (n := 0) (N := 1) (by decide) (by decide)) ?_
    refine pw_iload dL_law_1199 rfl ?_
    refine pw_i2l dL_law_1201 ?_
    refine pw_lcmp dL_law_1202 ?_
    rw [show h2 263 (Int32.toNatClampNeg 0) = v from e0 k0, lcmp_self]
    refine pw_if_eq dL_law_1203 (tgt := 1208) (by decide) (fun _ => ?_) (fun c => absurd rfl c)
    refine pw_goto dL_law_1208 (tgt := 2082) (by decide) ?_
    refine pw_iinc dL_law_2082 rfl (d := 7) (by decide) (by decide) rfl ?_
    refine pw_goto dL_law_2085 (tgt := 28) (by decide) ?_
    rw [show nI (7 * j) + 7 = nI (7 * (j + 1)) from nI_add _ 7]
    exact PW.widen (by show 300 + 8 * j + 2 ≤ 300 + 8 * (j + 1); omega) (by show 30000 + 48 * j + 12 ≤ 30000 + 48 * (j + 1); omega) (K h2 _ _ _ hI2)

set_option maxRecDepth 100000 in
set_option maxHeartbeats 4000000 in
theorem lc_wish {l : Launch} {G : GC} {ad : Nat → Nat} {hh : List (Nat × Nat × Nat × Nat)} {b L9 : Nat} {xs : Nat → Int32} {INV : HP → Prop} {j : Nat} (hj : 7 * j + 7 ≤ L9) (hL : L9 ≤ 3584) {h : HP} (hI : INV h) {u6 u7 u8 : Option Value} {S9 : Nat} (J : J_wish l G ad INV) (K : ∀ (h2 : HP) (w6 w7 w8 : Option Value), INV h2 → PW l G cL_law RL 9 ret hh room_1 (lwCX b L9 xs) lwE 28 [some (.ref b), some (.ref (ad 0)), some (.ref (ad 253)), some (.ref (ad 263)), some (.ref (ad 264)), some (.int (nI (7 * (j + 1)))), w6, w7, w8] [] SW ad h2 (300 + 8 * (j + 1)) (30000 + 48 * (j + 1))) : PW l G cL_law RL 9 ret hh room_1 (lwCX b L9 xs) lwE 1211 [some (.ref b), some (.ref (ad 0)), some (.ref (ad 253)), some (.ref (ad 263)), some (.ref (ad 264)), some (.int (nI (7 * j))), u6, u7, u8] [] SW ad h (300 + 8 * j) (30000 + 48 * j) := by
  obtain ⟨k, v, h1, h2, c1, c2, e5, e0, hI2⟩ := J h (xs (nI (7 * j + 1)).toNatClampNeg) (xs (nI (7 * j + 2)).toNatClampNeg) (xs (nI (7 * j + 3)).toNatClampNeg) hI
  refine pw_aload_n dL_law_1211 rfl ?_
  refine pw_aload_n dL_law_1212 rfl ?_
  refine pw_iload dL_law_1213 rfl ?_
  refine pw_iconst dL_law_1215 (v := 1) (by decide) ?_
  refine pw_iadd dL_law_1216 ?_
  rw [show nI (7 * j) + 1 = nI (7 * j + 1) from nI_add _ 1]
  refine pw_sld dL_law_1217 rfl (vpin (N := L9) (by omega) (by omega)) ?_
  refine pw_aload_n dL_law_1218 rfl ?_
  refine pw_iload dL_law_1219 rfl ?_
  refine pw_iconst dL_law_1221 (v := 2) (by decide) ?_
  refine pw_iadd dL_law_1222 ?_
  rw [show nI (7 * j) + 2 = nI (7 * j + 2) from nI_add _ 2]
  refine pw_sld dL_law_1223 rfl (vpin (N := L9) (by omega) (by omega)) ?_
  refine pw_aload_n dL_law_1224 rfl ?_
  refine pw_iload dL_law_1225 rfl ?_
  refine pw_iconst dL_law_1227 (v := 3) (by decide) ?_
  refine pw_iadd dL_law_1228 ?_
  rw [show nI (7 * j) + 3 = nI (7 * j + 3) from nI_add _ 3]
  refine pw_sld dL_law_1229 rfl (vpin (N := L9) (by omega) (by omega)) ?_
  refine pw_aload_n dL_law_1230 rfl ?_
  refine pw_cSW dL_law_1231 c1 lwX wi_L_wish ws_L_wish wk_L_169 rfl (gRm_mk rfl rfl (by show 300 + 8 * j + 3 ≤ 601024; omega) (by show 30000 + 48 * j + 18 ≤ 7293034; omega)) rfl rfl ?_
  refine pw_istore dL_law_1234 (by decide) rfl ?_
  refine pw_aload_n dL_law_1236 rfl ?_
  refine pw_aload_n dL_law_1237 rfl ?_
  refine pw_iload dL_law_1238 rfl ?_
  refine pw_iconst dL_law_1240 (v := 1) (by decide) ?_
  refine pw_iadd dL_law_1241 ?_
  rw [show nI (7 * j) + 1 = nI (7 * j + 1) from nI_add _ 1]
  refine pw_sld dL_law_1242 rfl (vpin (N := L9) (by omega) (by omega)) ?_
  refine pw_aload_n dL_law_1243 rfl ?_
  refine pw_iload dL_law_1244 rfl ?_
  refine pw_iconst dL_law_1246 (v := 2) (by decide) ?_
  refine pw_iadd dL_law_1247 ?_
  rw [show nI (7 * j) + 2 = nI (7 * j + 2) from nI_add _ 2]
  refine pw_sld dL_law_1248 rfl (vpin (N := L9) (by omega) (by omega)) ?_
  refine pw_aload_n dL_law_1249 rfl ?_
  refine pw_iload dL_law_1250 rfl ?_
  refine pw_iconst dL_law_1252 (v := 3) (by decide) ?_
  refine pw_iadd dL_law_1253 ?_
  rw [show nI (7 * j) + 3 = nI (7 * j + 3) from nI_add _ 3]
  refine pw_sld dL_law_1254 rfl (vpin (N := L9) (by omega) (by omega)) ?_
  refine pw_cV dL_law_1255 c2 mi_X8_wish mv_X8_wish ml_L_171 sh_253 rfl rfl rfl (gRm_mk rfl rfl (by show 300 + 8 * j + 3 + 0 ≤ 601024; omega) (by show 30000 + 48 * j + 18 + 0 ≤ 7293034; omega)) ⟨rfl, rfl⟩ rfl rfl ?_
  refine pw_istore dL_law_1258 (by decide) rfl ?_
  refine pw_aload_n dL_law_1260 rfl ?_
  refine pw_cV dL_law_1261 sp_X8_thrown mi_X8_thrown mv_X8_thrown ml_L_120 sh_253 rfl rfl rfl (gRm_mk rfl rfl (by show 300 + 8 * j + 3 + 0 ≤ 601024; omega) (by show 30000 + 48 * j + 18 + 0 ≤ 7293034; omega)) ⟨rfl, rfl⟩ rfl rfl ?_
  refine pw_iload dL_law_1264 rfl ?_
  refine pw_icmp_eq dL_law_1266 (tgt := 1271) (by decide) (fun _ => ?_) (fun c => absurd e5 c)
  refine pw_iload dL_law_1271 rfl ?_
  refine pw_if_ne dL_law_1273 (tgt := 1288) (by decide) (fun _ => ?_) (fun k0 => ?_)
  · skip
    refine pw_goto dL_law_1288 (tgt := 2082) (by decide) ?_
    refine pw_iinc dL_law_2082 rfl (d := 7) (by decide) (by decide) rfl ?_
    refine pw_goto dL_law_2085 (tgt := 28) (by decide) ?_
    rw [show nI (7 * j) + 7 = nI (7 * (j + 1)) from nI_add _ 7]
    exact PW.widen (by show 300 + 8 * j + 3 ≤ 300 + 8 * (j + 1); omega) (by show 30000 + 48 * j + 18 ≤ 30000 + 48 * (j + 1); omega) (K h2 _ _ _ hI2)
  · skip
    refine pw_aload_n dL_law_1276 rfl ?_
    refine pw_iconst dL_law_1277 (v := 0) (by decide) ?_
    refine pw_laload dL_law_1278 sh_263 (vpin (n := 0) (N := 1) (by decide) (by decide)) ?_
    refine pw_iload dL_law_1279 rfl ?_
    refine pw_i2l dL_law_1281 ?_
    refine pw_lcmp dL_law_1282 ?_
    rw [show h2 263 (Int32.toNatClampNeg 0) = v from e0 k0, lcmp_self]
    refine pw_if_eq dL_law_1283 (tgt := 1288) (by decide) (fun _ => ?_) (fun c => absurd rfl c)
    refine pw_goto dL_law_1288 (tgt := 2082) (by decide) ?_
    refine pw_iinc dL_law_2082 rfl (d := 7) (by decide) (by decide) rfl ?_
    refine pw_goto dL_law_2085 (tgt := 28) (by decide) ?_
    rw [show nI (7 * j) + 7 = nI (7 * (j + 1)) from nI_add _ 7]
    exact PW.widen (by show 300 + 8 * j + 3 ≤ 300 + 8 * (j + 1); omega) (by show 30000 + 48 * j + 18 ≤ 30000 + 48 * (j + 1); omega) (K h2 _ _ _ hI2)

set_option maxRecDepth 100000 in
set_option maxHeartbeats 4000000 in
theorem lc_serve {l : Launch} {G : GC} {ad : Nat → Nat} {hh : List (Nat × Nat × Nat × Nat)} {b L9 : Nat} {xs : Nat → Int32} {INV : HP → Prop} {j : Nat} (hj : 7 * j + 7 ≤ L9) (hL : L9 ≤ 3584) {h : HP} (hI : INV h) {u6 u7 u8 : Option Value} {S9 : Nat} (J : J_serve l G ad INV) (K : ∀ (h2 : HP) (w6 w7 w8 : Option Value), INV h2 → PW l G cL_law RL 9 ret hh room_1 (lwCX b L9 xs) lwE 28 [some (.ref b), some (.ref (ad 0)), some (.ref (ad 253)), some (.ref (ad 263)), some (.ref (ad 264)), some (.int (nI (7 * (j + 1)))), w6, w7, w8] [] SW ad h2 (300 + 8 * (j + 1)) (30000 + 48 * (j + 1))) : PW l G cL_law RL 9 ret hh room_1 (lwCX b L9 xs) lwE 1291 [some (.ref b), some (.ref (ad 0)), some (.ref (ad 253)), some (.ref (ad 263)), some (.ref (ad 264)), some (.int (nI (7 * j))), u6, u7, u8] [] SW ad h (300 + 8 * j) (30000 + 48 * j) := by
  obtain ⟨k, v, h1, h2, c1, c2, e5, e0, hI2⟩ := J h (xs (nI (7 * j + 1)).toNatClampNeg) hI
  refine pw_aload_n dL_law_1291 rfl ?_
  refine pw_aload_n dL_law_1292 rfl ?_
  refine pw_iload dL_law_1293 rfl ?_
  refine pw_iconst dL_law_1295 (v := 1) (by decide) ?_
  refine pw_iadd dL_law_1296 ?_
  rw [show nI (7 * j) + 1 = nI (7 * j + 1) from nI_add _ 1]
  refine pw_sld dL_law_1297 rfl (vpin (N := L9) (by omega) (by omega)) ?_
  refine pw_aload_n dL_law_1298 rfl ?_
  refine pw_cSW dL_law_1299 c1 lwX wi_L_serve ws_L_serve wk_L_172 rfl (gRm_mk rfl rfl (by show 300 + 8 * j + 1 ≤ 601024; omega) (by show 30000 + 48 * j + 6 ≤ 7293034; omega)) rfl rfl ?_
  refine pw_istore dL_law_1302 (by decide) rfl ?_
  refine pw_aload_n dL_law_1304 rfl ?_
  refine pw_aload_n dL_law_1305 rfl ?_
  refine pw_iload dL_law_1306 rfl ?_
  refine pw_iconst dL_law_1308 (v := 1) (by decide) ?_
  refine pw_iadd dL_law_1309 ?_
  rw [show nI (7 * j) + 1 = nI (7 * j + 1) from nI_add _ 1]
  refine pw_sld dL_law_1310 rfl (vpin (N := L9) (by omega) (by omega)) ?_
  refine pw_cV dL_law_1311 c2 mi_X8_serve mv_X8_serve ml_L_174 sh_253 rfl rfl rfl (gRm_mk rfl rfl (by show 300 + 8 * j + 1 + 0 ≤ 601024; omega) (by show 30000 + 48 * j + 6 + 0 ≤ 7293034; omega)) ⟨rfl, rfl⟩ rfl rfl ?_
  refine pw_istore dL_law_1314 (by decide) rfl ?_
  refine pw_aload_n dL_law_1316 rfl ?_
  refine pw_cV dL_law_1317 sp_X8_thrown mi_X8_thrown mv_X8_thrown ml_L_120 sh_253 rfl rfl rfl (gRm_mk rfl rfl (by show 300 + 8 * j + 1 + 0 ≤ 601024; omega) (by show 30000 + 48 * j + 6 + 0 ≤ 7293034; omega)) ⟨rfl, rfl⟩ rfl rfl ?_
  refine pw_iload dL_law_1320 rfl ?_
  refine pw_icmp_eq dL_law_1322 (tgt := 1327) (by decide) (fun _ => ?_) (fun c => absurd e5 c)
  refine pw_iload dL_law_1327 rfl ?_
  refine pw_if_ne dL_law_1329 (tgt := 1344) (by decide) (fun _ => ?_) (fun k0 => ?_)
  · skip
    refine pw_goto dL_law_1344 (tgt := 2082) (by decide) ?_
    refine pw_iinc dL_law_2082 rfl (d := 7) (by decide) (by decide) rfl ?_
    refine pw_goto dL_law_2085 (tgt := 28) (by decide) ?_
    rw [show nI (7 * j) + 7 = nI (7 * (j + 1)) from nI_add _ 7]
    exact PW.widen (by show 300 + 8 * j + 1 ≤ 300 + 8 * (j + 1); omega) (by show 30000 + 48 * j + 6 ≤ 30000 + 48 * (j + 1); omega) (K h2 _ _ _ hI2)
  · skip
    refine pw_aload_n dL_law_1332 rfl ?_
    refine pw_iconst dL_law_1333 (v := 0) (by decide) ?_
    refine pw_laload dL_law_1334 sh_263 (vpin (n := 0) (N := 1) (by decide) (by decide)) ?_
    refine pw_iload dL_law_1335 rfl ?_
    refine pw_i2l dL_law_1337 ?_
    refine pw_lcmp dL_law_1338 ?_
    rw [show h2 263 (Int32.toNatClampNeg 0) = v from e0 k0, lcmp_self]
    refine pw_if_eq dL_law_1339 (tgt := 1344) (by decide) (fun _ => ?_) (fun c => absurd rfl c)
    refine pw_goto dL_law_1344 (tgt := 2082) (by decide) ?_
    refine pw_iinc dL_law_2082 rfl (d := 7) (by decide) (by decide) rfl ?_
    refine pw_goto dL_law_2085 (tgt := 28) (by decide) ?_
    rw [show nI (7 * j) + 7 = nI (7 * (j + 1)) from nI_add _ 7]
    exact PW.widen (by show 300 + 8 * j + 1 ≤ 300 + 8 * (j + 1); omega) (by show 30000 + 48 * j + 6 ≤ 30000 + 48 * (j + 1); omega) (K h2 _ _ _ hI2)

set_option maxRecDepth 100000 in
set_option maxHeartbeats 4000000 in
theorem lc_giveBack {l : Launch} {G : GC} {ad : Nat → Nat} {hh : List (Nat × Nat × Nat × Nat)} {b L9 : Nat} {xs : Nat → Int32} {INV : HP → Prop} {j : Nat} (hj : 7 * j + 7 ≤ L9) (hL : L9 ≤ 3584) {h : HP} (hI : INV h) {u6 u7 u8 : Option Value} {S9 : Nat} (J : J_giveBack l G ad INV) (K : ∀ (h2 : HP) (w6 w7 w8 : Option Value), INV h2 → PW l G cL_law RL 9 ret hh room_1 (lwCX b L9 xs) lwE 28 [some (.ref b), some (.ref (ad 0)), some (.ref (ad 253)), some (.ref (ad 263)), some (.ref (ad 264)), some (.int (nI (7 * (j + 1)))), w6, w7, w8] [] SW ad h2 (300 + 8 * (j + 1)) (30000 + 48 * (j + 1))) : PW l G cL_law RL 9 ret hh room_1 (lwCX b L9 xs) lwE 1347 [some (.ref b), some (.ref (ad 0)), some (.ref (ad 253)), some (.ref (ad 263)), some (.ref (ad 264)), some (.int (nI (7 * j))), u6, u7, u8] [] SW ad h (300 + 8 * j) (30000 + 48 * j) := by
  obtain ⟨k, v, h1, h2, c1, c2, e5, e0, hI2⟩ := J h (xs (nI (7 * j + 1)).toNatClampNeg) (xs (nI (7 * j + 2)).toNatClampNeg) (xs (nI (7 * j + 3)).toNatClampNeg) hI
  refine pw_aload_n dL_law_1347 rfl ?_
  refine pw_aload_n dL_law_1348 rfl ?_
  refine pw_iload dL_law_1349 rfl ?_
  refine pw_iconst dL_law_1351 (v := 1) (by decide) ?_
  refine pw_iadd dL_law_1352 ?_
  rw [show nI (7 * j) + 1 = nI (7 * j + 1) from nI_add _ 1]
  refine pw_sld dL_law_1353 rfl (vpin (N := L9) (by omega) (by omega)) ?_
  refine pw_aload_n dL_law_1354 rfl ?_
  refine pw_iload dL_law_1355 rfl ?_
  refine pw_iconst dL_law_1357 (v := 2) (by decide) ?_
  refine pw_iadd dL_law_1358 ?_
  rw [show nI (7 * j) + 2 = nI (7 * j + 2) from nI_add _ 2]
  refine pw_sld dL_law_1359 rfl (vpin (N := L9) (by omega) (by omega)) ?_
  refine pw_aload_n dL_law_1360 rfl ?_
  refine pw_iload dL_law_1361 rfl ?_
  refine pw_iconst dL_law_1363 (v := 3) (by decide) ?_
  refine pw_iadd dL_law_1364 ?_
  rw [show nI (7 * j) + 3 = nI (7 * j + 3) from nI_add _ 3]
  refine pw_sld dL_law_1365 rfl (vpin (N := L9) (by omega) (by omega)) ?_
  refine pw_aload_n dL_law_1366 rfl ?_
  refine pw_cSW dL_law_1367 c1 lwX wi_L_giveBack ws_L_giveBack wk_L_175 rfl (gRm_mk rfl rfl (by show 300 + 8 * j + 3 ≤ 601024; omega) (by show 30000 + 48 * j + 18 ≤ 7293034; omega)) rfl rfl ?_
  refine pw_istore dL_law_1370 (by decide) rfl ?_
  refine pw_aload_n dL_law_1372 rfl ?_
  refine pw_aload_n dL_law_1373 rfl ?_
  refine pw_iload dL_law_1374 rfl ?_
  refine pw_iconst dL_law_1376 (v := 1) (by decide) ?_
  refine pw_iadd dL_law_1377 ?_
  rw [show nI (7 * j) + 1 = nI (7 * j + 1) from nI_add _ 1]
  refine pw_sld dL_law_1378 rfl (vpin (N := L9) (by omega) (by omega)) ?_
  refine pw_aload_n dL_law_1379 rfl ?_
  refine pw_iload dL_law_1380 rfl ?_
  refine pw_iconst dL_law_1382 (v := 2) (by decide) ?_
  refine pw_iadd dL_law_1383 ?_
  rw [show nI (7 * j) + 2 = nI (7 * j + 2) from nI_add _ 2]
  refine pw_sld dL_law_1384 rfl (vpin (N := L9) (by omega) (by omega)) ?_
  refine pw_aload_n dL_law_1385 rfl ?_
  refine pw_iload dL_law_1386 rfl ?_
  refine pw_iconst dL_law_1388 (v := 3) (by decide) ?_
  refine pw_iadd dL_law_1389 ?_
  rw [show nI (7 * j) + 3 = nI (7 * j + 3) from nI_add _ 3]
  refine pw_sld dL_law_1390 rfl (vpin (N := L9) (by omega) (by omega)) ?_
  refine pw_cV dL_law_1391 c2 mi_X8_giveBack mv_X8_giveBack ml_L_177 sh_253 rfl rfl rfl (gRm_mk rfl rfl (by show 300 + 8 * j + 3 + 0 ≤ 601024; omega) (by show 30000 + 48 * j + 18 + 0 ≤ 7293034; omega)) ⟨rfl, rfl⟩ rfl rfl ?_
  refine pw_istore dL_law_1394 (by decide) rfl ?_
  refine pw_aload_n dL_law_1396 rfl ?_
  refine pw_cV dL_law_1397 sp_X8_thrown mi_X8_thrown mv_X8_thrown ml_L_120 sh_253 rfl rfl rfl (gRm_mk rfl rfl (by show 300 + 8 * j + 3 + 0 ≤ 601024; omega) (by show 30000 + 48 * j + 18 + 0 ≤ 7293034; omega)) ⟨rfl, rfl⟩ rfl rfl ?_
  refine pw_iload dL_law_1400 rfl ?_
  refine pw_icmp_eq dL_law_1402 (tgt := 1407) (by decide) (fun _ => ?_) (fun c => absurd e5 c)
  refine pw_iload dL_law_1407 rfl ?_
  refine pw_if_ne dL_law_1409 (tgt := 1424) (by decide) (fun _ => ?_) (fun k0 => ?_)
  · skip
    refine pw_goto dL_law_1424 (tgt := 2082) (by decide) ?_
    refine pw_iinc dL_law_2082 rfl (d := 7) (by decide) (by decide) rfl ?_
    refine pw_goto dL_law_2085 (tgt := 28) (by decide) ?_
    rw [show nI (7 * j) + 7 = nI (7 * (j + 1)) from nI_add _ 7]
    exact PW.widen (by show 300 + 8 * j + 3 ≤ 300 + 8 * (j + 1); omega) (by show 30000 + 48 * j + 18 ≤ 30000 + 48 * (j + 1); omega) (K h2 _ _ _ hI2)
  · skip
    refine pw_aload_n dL_law_1412 rfl ?_
    refine pw_iconst dL_law_1413 (v := 0) (by decide) ?_
    refine pw_laload dL_law_1414 sh_263 (vpin (n := 0) (N := 1) (by decide) (by decide)) ?_
    refine pw_iload dL_law_1415 rfl ?_
    refine pw_i2l dL_law_1417 ?_
    refine pw_lcmp dL_law_1418 ?_
    rw [show h2 263 (Int32.toNatClampNeg 0) = v from e0 k0, lcmp_self]
    refine pw_if_eq dL_law_1419 (tgt := 1424) (by decide) (fun _ => ?_) (fun c => absurd rfl c)
    refine pw_goto dL_law_1424 (tgt := 2082) (by decide) ?_
    refine pw_iinc dL_law_2082 rfl (d := 7) (by decide) (by decide) rfl ?_
    refine pw_goto dL_law_2085 (tgt := 28) (by decide) ?_
    rw [show nI (7 * j) + 7 = nI (7 * (j + 1)) from nI_add _ 7]
    exact PW.widen (by show 300 + 8 * j + 3 ≤ 300 + 8 * (j + 1); omega) (by show 30000 + 48 * j + 18 ≤ 30000 + 48 * (j + 1); omega) (K h2 _ _ _ hI2)

set_option maxRecDepth 100000 in
set_option maxHeartbeats 4000000 in
theorem lc_holds {l : Launch} {G : GC} {ad : Nat → Nat} {hh : List (Nat × Nat × Nat × Nat)} {b L9 : Nat} {xs : Nat → Int32} {INV : HP → Prop} {j : Nat} (hj : 7 * j + 7 ≤ L9) (hL : L9 ≤ 3584) {h : HP} (hI : INV h) {u6 u7 u8 : Option Value} {S9 : Nat} (J : J_holds l G ad INV) (K : ∀ (h2 : HP) (w6 w7 w8 : Option Value), INV h2 → PW l G cL_law RL 9 ret hh room_1 (lwCX b L9 xs) lwE 28 [some (.ref b), some (.ref (ad 0)), some (.ref (ad 253)), some (.ref (ad 263)), some (.ref (ad 264)), some (.int (nI (7 * (j + 1)))), w6, w7, w8] [] SW ad h2 (300 + 8 * (j + 1)) (30000 + 48 * (j + 1))) : PW l G cL_law RL 9 ret hh room_1 (lwCX b L9 xs) lwE 1427 [some (.ref b), some (.ref (ad 0)), some (.ref (ad 253)), some (.ref (ad 263)), some (.ref (ad 264)), some (.int (nI (7 * j))), u6, u7, u8] [] SW ad h (300 + 8 * j) (30000 + 48 * j) := by
  obtain ⟨k, v, h1, h2, c1, c2, e5, e0, hI2⟩ := J h (xs (nI (7 * j + 1)).toNatClampNeg) (xs (nI (7 * j + 2)).toNatClampNeg) (xs (nI (7 * j + 3)).toNatClampNeg) hI
  refine pw_aload_n dL_law_1427 rfl ?_
  refine pw_aload_n dL_law_1428 rfl ?_
  refine pw_iload dL_law_1429 rfl ?_
  refine pw_iconst dL_law_1431 (v := 1) (by decide) ?_
  refine pw_iadd dL_law_1432 ?_
  rw [show nI (7 * j) + 1 = nI (7 * j + 1) from nI_add _ 1]
  refine pw_sld dL_law_1433 rfl (vpin (N := L9) (by omega) (by omega)) ?_
  refine pw_aload_n dL_law_1434 rfl ?_
  refine pw_iload dL_law_1435 rfl ?_
  refine pw_iconst dL_law_1437 (v := 2) (by decide) ?_
  refine pw_iadd dL_law_1438 ?_
  rw [show nI (7 * j) + 2 = nI (7 * j + 2) from nI_add _ 2]
  refine pw_sld dL_law_1439 rfl (vpin (N := L9) (by omega) (by omega)) ?_
  refine pw_aload_n dL_law_1440 rfl ?_
  refine pw_iload dL_law_1441 rfl ?_
  refine pw_iconst dL_law_1443 (v := 3) (by decide) ?_
  refine pw_iadd dL_law_1444 ?_
  rw [show nI (7 * j) + 3 = nI (7 * j + 3) from nI_add _ 3]
  refine pw_sld dL_law_1445 rfl (vpin (N := L9) (by omega) (by omega)) ?_
  refine pw_aload_n dL_law_1446 rfl ?_
  refine pw_cSW dL_law_1447 c1 lwX wi_L_holds ws_L_holds wk_L_178 rfl (gRm_mk rfl rfl (by show 300 + 8 * j + 3 ≤ 601024; omega) (by show 30000 + 48 * j + 18 ≤ 7293034; omega)) rfl rfl ?_
  refine pw_istore dL_law_1450 (by decide) rfl ?_
  refine pw_aload_n dL_law_1452 rfl ?_
  refine pw_aload_n dL_law_1453 rfl ?_
  refine pw_iload dL_law_1454 rfl ?_
  refine pw_iconst dL_law_1456 (v := 1) (by decide) ?_
  refine pw_iadd dL_law_1457 ?_
  rw [show nI (7 * j) + 1 = nI (7 * j + 1) from nI_add _ 1]
  refine pw_sld dL_law_1458 rfl (vpin (N := L9) (by omega) (by omega)) ?_
  refine pw_aload_n dL_law_1459 rfl ?_
  refine pw_iload dL_law_1460 rfl ?_
  refine pw_iconst dL_law_1462 (v := 2) (by decide) ?_
  refine pw_iadd dL_law_1463 ?_
  rw [show nI (7 * j) + 2 = nI (7 * j + 2) from nI_add _ 2]
  refine pw_sld dL_law_1464 rfl (vpin (N := L9) (by omega) (by omega)) ?_
  refine pw_aload_n dL_law_1465 rfl ?_
  refine pw_iload dL_law_1466 rfl ?_
  refine pw_iconst dL_law_1468 (v := 3) (by decide) ?_
  refine pw_iadd dL_law_1469 ?_
  rw [show nI (7 * j) + 3 = nI (7 * j + 3) from nI_add _ 3]
  refine pw_sld dL_law_1470 rfl (vpin (N := L9) (by omega) (by omega)) ?_
  refine pw_cV dL_law_1471 c2 mi_X8_holds mv_X8_holds ml_L_180 sh_253 rfl rfl rfl (gRm_mk rfl rfl (by show 300 + 8 * j + 3 + 0 ≤ 601024; omega) (by show 30000 + 48 * j + 18 + 0 ≤ 7293034; omega)) ⟨rfl, rfl⟩ rfl rfl ?_
  refine pw_istore dL_law_1474 (by decide) rfl ?_
  refine pw_aload_n dL_law_1476 rfl ?_
  refine pw_cV dL_law_1477 sp_X8_thrown mi_X8_thrown mv_X8_thrown ml_L_120 sh_253 rfl rfl rfl (gRm_mk rfl rfl (by show 300 + 8 * j + 3 + 0 ≤ 601024; omega) (by show 30000 + 48 * j + 18 + 0 ≤ 7293034; omega)) ⟨rfl, rfl⟩ rfl rfl ?_
  refine pw_iload dL_law_1480 rfl ?_
  refine pw_icmp_eq dL_law_1482 (tgt := 1487) (by decide) (fun _ => ?_) (fun c => absurd e5 c)
  refine pw_iload dL_law_1487 rfl ?_
  refine pw_if_ne dL_law_1489 (tgt := 1504) (by decide) (fun _ => ?_) (fun k0 => ?_)
  · skip
    refine pw_goto dL_law_1504 (tgt := 2082) (by decide) ?_
    refine pw_iinc dL_law_2082 rfl (d := 7) (by decide) (by decide) rfl ?_
    refine pw_goto dL_law_2085 (tgt := 28) (by decide) ?_
    rw [show nI (7 * j) + 7 = nI (7 * (j + 1)) from nI_add _ 7]
    exact PW.widen (by show 300 + 8 * j + 3 ≤ 300 + 8 * (j + 1); omega) (by show 30000 + 48 * j + 18 ≤ 30000 + 48 * (j + 1); omega) (K h2 _ _ _ hI2)
  · skip
    refine pw_aload_n dL_law_1492 rfl ?_
    refine pw_iconst dL_law_1493 (v := 0) (by decide) ?_
    refine pw_laload dL_law_1494 sh_263 (vpin (n := 0) (N := 1) (by decide) (by decide)) ?_
    refine pw_iload dL_law_1495 rfl ?_
    refine pw_i2l dL_law_1497 ?_
    refine pw_lcmp dL_law_1498 ?_
    rw [show h2 263 (Int32.toNatClampNeg 0) = v from e0 k0, lcmp_self]
    refine pw_if_eq dL_law_1499 (tgt := 1504) (by decide) (fun _ => ?_) (fun c => absurd rfl c)
    refine pw_goto dL_law_1504 (tgt := 2082) (by decide) ?_
    refine pw_iinc dL_law_2082 rfl (d := 7) (by decide) (by decide) rfl ?_
    refine pw_goto dL_law_2085 (tgt := 28) (by decide) ?_
    rw [show nI (7 * j) + 7 = nI (7 * (j + 1)) from nI_add _ 7]
    exact PW.widen (by show 300 + 8 * j + 3 ≤ 300 + 8 * (j + 1); omega) (by show 30000 + 48 * j + 18 ≤ 30000 + 48 * (j + 1); omega) (K h2 _ _ _ hI2)

set_option maxRecDepth 100000 in
set_option maxHeartbeats 4000000 in
theorem lc_listed {l : Launch} {G : GC} {ad : Nat → Nat} {hh : List (Nat × Nat × Nat × Nat)} {b L9 : Nat} {xs : Nat → Int32} {INV : HP → Prop} {j : Nat} (hj : 7 * j + 7 ≤ L9) (hL : L9 ≤ 3584) {h : HP} (hI : INV h) {u6 u7 u8 : Option Value} {S9 : Nat} (J : J_listed l G ad INV) (K : ∀ (h2 : HP) (w6 w7 w8 : Option Value), INV h2 → PW l G cL_law RL 9 ret hh room_1 (lwCX b L9 xs) lwE 28 [some (.ref b), some (.ref (ad 0)), some (.ref (ad 253)), some (.ref (ad 263)), some (.ref (ad 264)), some (.int (nI (7 * (j + 1)))), w6, w7, w8] [] SW ad h2 (300 + 8 * (j + 1)) (30000 + 48 * (j + 1))) : PW l G cL_law RL 9 ret hh room_1 (lwCX b L9 xs) lwE 1507 [some (.ref b), some (.ref (ad 0)), some (.ref (ad 253)), some (.ref (ad 263)), some (.ref (ad 264)), some (.int (nI (7 * j))), u6, u7, u8] [] SW ad h (300 + 8 * j) (30000 + 48 * j) := by
  obtain ⟨k, v, h1, h2, c1, c2, e5, e0, hI2⟩ := J h (xs (nI (7 * j + 1)).toNatClampNeg) (xs (nI (7 * j + 2)).toNatClampNeg) hI
  refine pw_aload_n dL_law_1507 rfl ?_
  refine pw_aload_n dL_law_1508 rfl ?_
  refine pw_iload dL_law_1509 rfl ?_
  refine pw_iconst dL_law_1511 (v := 1) (by decide) ?_
  refine pw_iadd dL_law_1512 ?_
  rw [show nI (7 * j) + 1 = nI (7 * j + 1) from nI_add _ 1]
  refine pw_sld dL_law_1513 rfl (vpin (N := L9) (by omega) (by omega)) ?_
  refine pw_aload_n dL_law_1514 rfl ?_
  refine pw_iload dL_law_1515 rfl ?_
  refine pw_iconst dL_law_1517 (v := 2) (by decide) ?_
  refine pw_iadd dL_law_1518 ?_
  rw [show nI (7 * j) + 2 = nI (7 * j + 2) from nI_add _ 2]
  refine pw_sld dL_law_1519 rfl (vpin (N := L9) (by omega) (by omega)) ?_
  refine pw_aload_n dL_law_1520 rfl ?_
  refine pw_cSW dL_law_1521 c1 lwX wi_L_listed ws_L_listed wk_L_181 rfl (gRm_mk rfl rfl (by show 300 + 8 * j + 2 ≤ 601024; omega) (by show 30000 + 48 * j + 12 ≤ 7293034; omega)) rfl rfl ?_
  refine pw_istore dL_law_1524 (by decide) rfl ?_
  refine pw_aload_n dL_law_1526 rfl ?_
  refine pw_aload_n dL_law_1527 rfl ?_
  refine pw_iload dL_law_1528 rfl ?_
  refine pw_iconst dL_law_1530 (v := 1) (by decide) ?_
  refine pw_iadd dL_law_1531 ?_
  rw [show nI (7 * j) + 1 = nI (7 * j + 1) from nI_add _ 1]
  refine pw_sld dL_law_1532 rfl (vpin (N := L9) (by omega) (by omega)) ?_
  refine pw_aload_n dL_law_1533 rfl ?_
  refine pw_iload dL_law_1534 rfl ?_
  refine pw_iconst dL_law_1536 (v := 2) (by decide) ?_
  refine pw_iadd dL_law_1537 ?_
  rw [show nI (7 * j) + 2 = nI (7 * j + 2) from nI_add _ 2]
  refine pw_sld dL_law_1538 rfl (vpin (N := L9) (by omega) (by omega)) ?_
  refine pw_cV dL_law_1539 c2 mi_X8_listed mv_X8_listed ml_L_183 sh_253 rfl rfl rfl (gRm_mk rfl rfl (by show 300 + 8 * j + 2 + 0 ≤ 601024; omega) (by show 30000 + 48 * j + 12 + 0 ≤ 7293034; omega)) ⟨rfl, rfl⟩ rfl rfl ?_
  refine pw_istore dL_law_1542 (by decide) rfl ?_
  refine pw_aload_n dL_law_1544 rfl ?_
  refine pw_cV dL_law_1545 sp_X8_thrown mi_X8_thrown mv_X8_thrown ml_L_120 sh_253 rfl rfl rfl (gRm_mk rfl rfl (by show 300 + 8 * j + 2 + 0 ≤ 601024; omega) (by show 30000 + 48 * j + 12 + 0 ≤ 7293034; omega)) ⟨rfl, rfl⟩ rfl rfl ?_
  refine pw_iload dL_law_1548 rfl ?_
  refine pw_icmp_eq dL_law_1550 (tgt := 1555) (by decide) (fun _ => ?_) (fun c => absurd e5 c)
  refine pw_iload dL_law_1555 rfl ?_
  refine pw_if_ne dL_law_1557 (tgt := 1572) (by decide) (fun _ => ?_) (fun k0 => ?_)
  · skip
    refine pw_goto dL_law_1572 (tgt := 2082) (by decide) ?_
    refine pw_iinc dL_law_2082 rfl (d := 7) (by decide) (by decide) rfl ?_
    refine pw_goto dL_law_2085 (tgt := 28) (by decide) ?_
    rw [show nI (7 * j) + 7 = nI (7 * (j + 1)) from nI_add _ 7]
    exact PW.widen (by show 300 + 8 * j + 2 ≤ 300 + 8 * (j + 1); omega) (by show 30000 + 48 * j + 12 ≤ 30000 + 48 * (j + 1); omega) (K h2 _ _ _ hI2)
  · skip
    refine pw_aload_n dL_law_1560 rfl ?_
    refine pw_iconst dL_law_1561 (v := 0) (by decide) ?_
    refine pw_laload dL_law_1562 sh_263 (vpin (n := 0) (N := 1) (by decide) (by decide)) ?_
    refine pw_iload dL_law_1563 rfl ?_
    refine pw_i2l dL_law_1565 ?_
    refine pw_lcmp dL_law_1566 ?_
    rw [show h2 263 (Int32.toNatClampNeg 0) = v from e0 k0, lcmp_self]
    refine pw_if_eq dL_law_1567 (tgt := 1572) (by decide) (fun _ => ?_) (fun c => absurd rfl c)
    refine pw_goto dL_law_1572 (tgt := 2082) (by decide) ?_
    refine pw_iinc dL_law_2082 rfl (d := 7) (by decide) (by decide) rfl ?_
    refine pw_goto dL_law_2085 (tgt := 28) (by decide) ?_
    rw [show nI (7 * j) + 7 = nI (7 * (j + 1)) from nI_add _ 7]
    exact PW.widen (by show 300 + 8 * j + 2 ≤ 300 + 8 * (j + 1); omega) (by show 30000 + 48 * j + 12 ≤ 30000 + 48 * (j + 1); omega) (K h2 _ _ _ hI2)

set_option maxRecDepth 100000 in
set_option maxHeartbeats 4000000 in
theorem lc_recalled {l : Launch} {G : GC} {ad : Nat → Nat} {hh : List (Nat × Nat × Nat × Nat)} {b L9 : Nat} {xs : Nat → Int32} {INV : HP → Prop} {j : Nat} (hj : 7 * j + 7 ≤ L9) (hL : L9 ≤ 3584) {h : HP} (hI : INV h) {u6 u7 u8 : Option Value} {S9 : Nat} (J : J_recalled l G ad INV) (K : ∀ (h2 : HP) (w6 w7 w8 : Option Value), INV h2 → PW l G cL_law RL 9 ret hh room_1 (lwCX b L9 xs) lwE 28 [some (.ref b), some (.ref (ad 0)), some (.ref (ad 253)), some (.ref (ad 263)), some (.ref (ad 264)), some (.int (nI (7 * (j + 1)))), w6, w7, w8] [] SW ad h2 (300 + 8 * (j + 1)) (30000 + 48 * (j + 1))) : PW l G cL_law RL 9 ret hh room_1 (lwCX b L9 xs) lwE 1575 [some (.ref b), some (.ref (ad 0)), some (.ref (ad 253)), some (.ref (ad 263)), some (.ref (ad 264)), some (.int (nI (7 * j))), u6, u7, u8] [] SW ad h (300 + 8 * j) (30000 + 48 * j) := by
  obtain ⟨k, v, h1, h2, c1, c2, e5, e0, hI2⟩ := J h (xs (nI (7 * j + 1)).toNatClampNeg) hI
  refine pw_aload_n dL_law_1575 rfl ?_
  refine pw_aload_n dL_law_1576 rfl ?_
  refine pw_iload dL_law_1577 rfl ?_
  refine pw_iconst dL_law_1579 (v := 1) (by decide) ?_
  refine pw_iadd dL_law_1580 ?_
  rw [show nI (7 * j) + 1 = nI (7 * j + 1) from nI_add _ 1]
  refine pw_sld dL_law_1581 rfl (vpin (N := L9) (by omega) (by omega)) ?_
  refine pw_aload_n dL_law_1582 rfl ?_
  refine pw_cSW dL_law_1583 c1 lwX wi_L_recalled ws_L_recalled wk_L_184 rfl (gRm_mk rfl rfl (by show 300 + 8 * j + 1 ≤ 601024; omega) (by show 30000 + 48 * j + 6 ≤ 7293034; omega)) rfl rfl ?_
  refine pw_istore dL_law_1586 (by decide) rfl ?_
  refine pw_aload_n dL_law_1588 rfl ?_
  refine pw_aload_n dL_law_1589 rfl ?_
  refine pw_iload dL_law_1590 rfl ?_
  refine pw_iconst dL_law_1592 (v := 1) (by decide) ?_
  refine pw_iadd dL_law_1593 ?_
  rw [show nI (7 * j) + 1 = nI (7 * j + 1) from nI_add _ 1]
  refine pw_sld dL_law_1594 rfl (vpin (N := L9) (by omega) (by omega)) ?_
  refine pw_cV dL_law_1595 c2 mi_X8_recalled mv_X8_recalled ml_L_186 sh_253 rfl rfl rfl (gRm_mk rfl rfl (by show 300 + 8 * j + 1 + 0 ≤ 601024; omega) (by show 30000 + 48 * j + 6 + 0 ≤ 7293034; omega)) ⟨rfl, rfl⟩ rfl rfl ?_
  refine pw_istore dL_law_1598 (by decide) rfl ?_
  refine pw_aload_n dL_law_1600 rfl ?_
  refine pw_cV dL_law_1601 sp_X8_thrown mi_X8_thrown mv_X8_thrown ml_L_120 sh_253 rfl rfl rfl (gRm_mk rfl rfl (by show 300 + 8 * j + 1 + 0 ≤ 601024; omega) (by show 30000 + 48 * j + 6 + 0 ≤ 7293034; omega)) ⟨rfl, rfl⟩ rfl rfl ?_
  refine pw_iload dL_law_1604 rfl ?_
  refine pw_icmp_eq dL_law_1606 (tgt := 1611) (by decide) (fun _ => ?_) (fun c => absurd e5 c)
  refine pw_iload dL_law_1611 rfl ?_
  refine pw_if_ne dL_law_1613 (tgt := 1628) (by decide) (fun _ => ?_) (fun k0 => ?_)
  · skip
    refine pw_goto dL_law_1628 (tgt := 2082) (by decide) ?_
    refine pw_iinc dL_law_2082 rfl (d := 7) (by decide) (by decide) rfl ?_
    refine pw_goto dL_law_2085 (tgt := 28) (by decide) ?_
    rw [show nI (7 * j) + 7 = nI (7 * (j + 1)) from nI_add _ 7]
    exact PW.widen (by show 300 + 8 * j + 1 ≤ 300 + 8 * (j + 1); omega) (by show 30000 + 48 * j + 6 ≤ 30000 + 48 * (j + 1); omega) (K h2 _ _ _ hI2)
  · skip
    refine pw_aload_n dL_law_1616 rfl ?_
    refine pw_iconst dL_law_1617 (v := 0) (by decide) ?_
    refine pw_laload dL_law_1618 sh_263 (vpin (n := 0) (N := 1) (by decide) (by decide)) ?_
    refine pw_iload dL_law_1619 rfl ?_
    refine pw_i2l dL_law_1621 ?_
    refine pw_lcmp dL_law_1622 ?_
    rw [show h2 263 (Int32.toNatClampNeg 0) = v from e0 k0, lcmp_self]
    refine pw_if_eq dL_law_1623 (tgt := 1628) (by decide) (fun _ => ?_) (fun c => absurd rfl c)
    refine pw_goto dL_law_1628 (tgt := 2082) (by decide) ?_
    refine pw_iinc dL_law_2082 rfl (d := 7) (by decide) (by decide) rfl ?_
    refine pw_goto dL_law_2085 (tgt := 28) (by decide) ?_
    rw [show nI (7 * j) + 7 = nI (7 * (j + 1)) from nI_add _ 7]
    exact PW.widen (by show 300 + 8 * j + 1 ≤ 300 + 8 * (j + 1); omega) (by show 30000 + 48 * j + 6 ≤ 30000 + 48 * (j + 1); omega) (K h2 _ _ _ hI2)

set_option maxRecDepth 100000 in
set_option maxHeartbeats 4000000 in
theorem lc_recalledAgain {l : Launch} {G : GC} {ad : Nat → Nat} {hh : List (Nat × Nat × Nat × Nat)} {b L9 : Nat} {xs : Nat → Int32} {INV : HP → Prop} {j : Nat} (hj : 7 * j + 7 ≤ L9) (hL : L9 ≤ 3584) {h : HP} (hI : INV h) {u6 u7 u8 : Option Value} {S9 : Nat} (J : J_recalledAgain l G ad INV) (K : ∀ (h2 : HP) (w6 w7 w8 : Option Value), INV h2 → PW l G cL_law RL 9 ret hh room_1 (lwCX b L9 xs) lwE 28 [some (.ref b), some (.ref (ad 0)), some (.ref (ad 253)), some (.ref (ad 263)), some (.ref (ad 264)), some (.int (nI (7 * (j + 1)))), w6, w7, w8] [] SW ad h2 (300 + 8 * (j + 1)) (30000 + 48 * (j + 1))) : PW l G cL_law RL 9 ret hh room_1 (lwCX b L9 xs) lwE 1631 [some (.ref b), some (.ref (ad 0)), some (.ref (ad 253)), some (.ref (ad 263)), some (.ref (ad 264)), some (.int (nI (7 * j))), u6, u7, u8] [] SW ad h (300 + 8 * j) (30000 + 48 * j) := by
  obtain ⟨k, v, h1, h2, c1, c2, e5, e0, hI2⟩ := J h (xs (nI (7 * j + 1)).toNatClampNeg) hI
  refine pw_aload_n dL_law_1631 rfl ?_
  refine pw_aload_n dL_law_1632 rfl ?_
  refine pw_iload dL_law_1633 rfl ?_
  refine pw_iconst dL_law_1635 (v := 1) (by decide) ?_
  refine pw_iadd dL_law_1636 ?_
  rw [show nI (7 * j) + 1 = nI (7 * j + 1) from nI_add _ 1]
  refine pw_sld dL_law_1637 rfl (vpin (N := L9) (by omega) (by omega)) ?_
  refine pw_aload_n dL_law_1638 rfl ?_
  refine pw_cSW dL_law_1639 c1 lwX wi_L_recalledAgain ws_L_recalledAgain wk_L_187 rfl (gRm_mk rfl rfl (by show 300 + 8 * j + 1 ≤ 601024; omega) (by show 30000 + 48 * j + 6 ≤ 7293034; omega)) rfl rfl ?_
  refine pw_istore dL_law_1642 (by decide) rfl ?_
  refine pw_aload_n dL_law_1644 rfl ?_
  refine pw_aload_n dL_law_1645 rfl ?_
  refine pw_iload dL_law_1646 rfl ?_
  refine pw_iconst dL_law_1648 (v := 1) (by decide) ?_
  refine pw_iadd dL_law_1649 ?_
  rw [show nI (7 * j) + 1 = nI (7 * j + 1) from nI_add _ 1]
  refine pw_sld dL_law_1650 rfl (vpin (N := L9) (by omega) (by omega)) ?_
  refine pw_cV dL_law_1651 c2 mi_X8_recalledAgain mv_X8_recalledAgain ml_L_189 sh_253 rfl rfl rfl (gRm_mk rfl rfl (by show 300 + 8 * j + 1 + 0 ≤ 601024; omega) (by show 30000 + 48 * j + 6 + 0 ≤ 7293034; omega)) ⟨rfl, rfl⟩ rfl rfl ?_
  refine pw_istore dL_law_1654 (by decide) rfl ?_
  refine pw_aload_n dL_law_1656 rfl ?_
  refine pw_cV dL_law_1657 sp_X8_thrown mi_X8_thrown mv_X8_thrown ml_L_120 sh_253 rfl rfl rfl (gRm_mk rfl rfl (by show 300 + 8 * j + 1 + 0 ≤ 601024; omega) (by show 30000 + 48 * j + 6 + 0 ≤ 7293034; omega)) ⟨rfl, rfl⟩ rfl rfl ?_
  refine pw_iload dL_law_1660 rfl ?_
  refine pw_icmp_eq dL_law_1662 (tgt := 1667) (by decide) (fun _ => ?_) (fun c => absurd e5 c)
  refine pw_iload dL_law_1667 rfl ?_
  refine pw_if_ne dL_law_1669 (tgt := 1684) (by decide) (fun _ => ?_) (fun k0 => ?_)
  · skip
    refine pw_goto dL_law_1684 (tgt := 2082) (by decide) ?_
    refine pw_iinc dL_law_2082 rfl (d := 7) (by decide) (by decide) rfl ?_
    refine pw_goto dL_law_2085 (tgt := 28) (by decide) ?_
    rw [show nI (7 * j) + 7 = nI (7 * (j + 1)) from nI_add _ 7]
    exact PW.widen (by show 300 + 8 * j + 1 ≤ 300 + 8 * (j + 1); omega) (by show 30000 + 48 * j + 6 ≤ 30000 + 48 * (j + 1); omega) (K h2 _ _ _ hI2)
  · skip
    refine pw_aload_n dL_law_1672 rfl ?_
    refine pw_iconst dL_law_1673 (v := 0) (by decide) ?_
    refine pw_laload dL_law_1674 sh_263 (vpin (n := 0) (N := 1) (by decide) (by decide)) ?_
    refine pw_iload dL_law_1675 rfl ?_
    refine pw_i2l dL_law_1677 ?_
    refine pw_lcmp dL_law_1678 ?_
    rw [show h2 263 (Int32.toNatClampNeg 0) = v from e0 k0, lcmp_self]
    refine pw_if_eq dL_law_1679 (tgt := 1684) (by decide) (fun _ => ?_) (fun c => absurd rfl c)
    refine pw_goto dL_law_1684 (tgt := 2082) (by decide) ?_
    refine pw_iinc dL_law_2082 rfl (d := 7) (by decide) (by decide) rfl ?_
    refine pw_goto dL_law_2085 (tgt := 28) (by decide) ?_
    rw [show nI (7 * j) + 7 = nI (7 * (j + 1)) from nI_add _ 7]
    exact PW.widen (by show 300 + 8 * j + 1 ≤ 300 + 8 * (j + 1); omega) (by show 30000 + 48 * j + 6 ≤ 30000 + 48 * (j + 1); omega) (K h2 _ _ _ hI2)

set_option maxRecDepth 100000 in
set_option maxHeartbeats 4000000 in
theorem lc_bottlesOf {l : Launch} {G : GC} {ad : Nat → Nat} {hh : List (Nat × Nat × Nat × Nat)} {b L9 : Nat} {xs : Nat → Int32} {INV : HP → Prop} {j : Nat} (hj : 7 * j + 7 ≤ L9) (hL : L9 ≤ 3584) {h : HP} (hI : INV h) {u6 u7 u8 : Option Value} {S9 : Nat} (J : J_bottlesOf l G ad INV) (K : ∀ (h2 : HP) (w6 w7 w8 : Option Value), INV h2 → PW l G cL_law RL 9 ret hh room_1 (lwCX b L9 xs) lwE 28 [some (.ref b), some (.ref (ad 0)), some (.ref (ad 253)), some (.ref (ad 263)), some (.ref (ad 264)), some (.int (nI (7 * (j + 1)))), w6, w7, w8] [] SW ad h2 (300 + 8 * (j + 1)) (30000 + 48 * (j + 1))) : PW l G cL_law RL 9 ret hh room_1 (lwCX b L9 xs) lwE 1687 [some (.ref b), some (.ref (ad 0)), some (.ref (ad 253)), some (.ref (ad 263)), some (.ref (ad 264)), some (.int (nI (7 * j))), u6, u7, u8] [] SW ad h (300 + 8 * j) (30000 + 48 * j) := by
  obtain ⟨k, v, h1, h2, c1, c2, e5, e0, hI2⟩ := J h (xs (nI (7 * j + 1)).toNatClampNeg) (xs (nI (7 * j + 2)).toNatClampNeg) hI
  refine pw_aload_n dL_law_1687 rfl ?_
  refine pw_aload_n dL_law_1688 rfl ?_
  refine pw_iload dL_law_1689 rfl ?_
  refine pw_iconst dL_law_1691 (v := 1) (by decide) ?_
  refine pw_iadd dL_law_1692 ?_
  rw [show nI (7 * j) + 1 = nI (7 * j + 1) from nI_add _ 1]
  refine pw_sld dL_law_1693 rfl (vpin (N := L9) (by omega) (by omega)) ?_
  refine pw_aload_n dL_law_1694 rfl ?_
  refine pw_iload dL_law_1695 rfl ?_
  refine pw_iconst dL_law_1697 (v := 2) (by decide) ?_
  refine pw_iadd dL_law_1698 ?_
  rw [show nI (7 * j) + 2 = nI (7 * j + 2) from nI_add _ 2]
  refine pw_sld dL_law_1699 rfl (vpin (N := L9) (by omega) (by omega)) ?_
  refine pw_aload_n dL_law_1700 rfl ?_
  refine pw_cSW dL_law_1701 c1 lwX wi_L_bottlesOf ws_L_bottlesOf wk_L_190 rfl (gRm_mk rfl rfl (by show 300 + 8 * j + 2 ≤ 601024; omega) (by show 30000 + 48 * j + 12 ≤ 7293034; omega)) rfl rfl ?_
  refine pw_istore dL_law_1704 (by decide) rfl ?_
  refine pw_aload_n dL_law_1706 rfl ?_
  refine pw_aload_n dL_law_1707 rfl ?_
  refine pw_iload dL_law_1708 rfl ?_
  refine pw_iconst dL_law_1710 (v := 1) (by decide) ?_
  refine pw_iadd dL_law_1711 ?_
  rw [show nI (7 * j) + 1 = nI (7 * j + 1) from nI_add _ 1]
  refine pw_sld dL_law_1712 rfl (vpin (N := L9) (by omega) (by omega)) ?_
  refine pw_aload_n dL_law_1713 rfl ?_
  refine pw_iload dL_law_1714 rfl ?_
  refine pw_iconst dL_law_1716 (v := 2) (by decide) ?_
  refine pw_iadd dL_law_1717 ?_
  rw [show nI (7 * j) + 2 = nI (7 * j + 2) from nI_add _ 2]
  refine pw_sld dL_law_1718 rfl (vpin (N := L9) (by omega) (by omega)) ?_
  refine pw_cV dL_law_1719 c2 mi_X8_bottlesOf mv_X8_bottlesOf ml_L_192 sh_253 rfl rfl rfl (gRm_mk rfl rfl (by show 300 + 8 * j + 2 + 0 ≤ 601024; omega) (by show 30000 + 48 * j + 12 + 0 ≤ 7293034; omega)) ⟨rfl, rfl⟩ rfl rfl ?_
  refine pw_istore dL_law_1722 (by decide) rfl ?_
  refine pw_aload_n dL_law_1724 rfl ?_
  refine pw_cV dL_law_1725 sp_X8_thrown mi_X8_thrown mv_X8_thrown ml_L_120 sh_253 rfl rfl rfl (gRm_mk rfl rfl (by show 300 + 8 * j + 2 + 0 ≤ 601024; omega) (by show 30000 + 48 * j + 12 + 0 ≤ 7293034; omega)) ⟨rfl, rfl⟩ rfl rfl ?_
  refine pw_iload dL_law_1728 rfl ?_
  refine pw_icmp_eq dL_law_1730 (tgt := 1735) (by decide) (fun _ => ?_) (fun c => absurd e5 c)
  refine pw_iload dL_law_1735 rfl ?_
  refine pw_if_ne dL_law_1737 (tgt := 1752) (by decide) (fun _ => ?_) (fun k0 => ?_)
  · skip
    refine pw_goto dL_law_1752 (tgt := 2082) (by decide) ?_
    refine pw_iinc dL_law_2082 rfl (d := 7) (by decide) (by decide) rfl ?_
    refine pw_goto dL_law_2085 (tgt := 28) (by decide) ?_
    rw [show nI (7 * j) + 7 = nI (7 * (j + 1)) from nI_add _ 7]
    exact PW.widen (by show 300 + 8 * j + 2 ≤ 300 + 8 * (j + 1); omega) (by show 30000 + 48 * j + 12 ≤ 30000 + 48 * (j + 1); omega) (K h2 _ _ _ hI2)
  · skip
    refine pw_aload_n dL_law_1740 rfl ?_
    refine pw_iconst dL_law_1741 (v := 0) (by decide) ?_
    refine pw_laload dL_law_1742 sh_263 (vpin (n := 0) (N := 1) (by decide) (by decide)) ?_
    refine pw_iload dL_law_1743 rfl ?_
    refine pw_i2l dL_law_1745 ?_
    refine pw_lcmp dL_law_1746 ?_
    rw [show h2 263 (Int32.toNatClampNeg 0) = v from e0 k0, lcmp_self]
    refine pw_if_eq dL_law_1747 (tgt := 1752) (by decide) (fun _ => ?_) (fun c => absurd rfl c)
    refine pw_goto dL_law_1752 (tgt := 2082) (by decide) ?_
    refine pw_iinc dL_law_2082 rfl (d := 7) (by decide) (by decide) rfl ?_
    refine pw_goto dL_law_2085 (tgt := 28) (by decide) ?_
    rw [show nI (7 * j) + 7 = nI (7 * (j + 1)) from nI_add _ 7]
    exact PW.widen (by show 300 + 8 * j + 2 ≤ 300 + 8 * (j + 1); omega) (by show 30000 + 48 * j + 12 ≤ 30000 + 48 * (j + 1); omega) (K h2 _ _ _ hI2)

set_option maxRecDepth 100000 in
set_option maxHeartbeats 4000000 in
theorem lc_ways {l : Launch} {G : GC} {ad : Nat → Nat} {hh : List (Nat × Nat × Nat × Nat)} {b L9 : Nat} {xs : Nat → Int32} {INV : HP → Prop} {j : Nat} (hj : 7 * j + 7 ≤ L9) (hL : L9 ≤ 3584) {h : HP} (hI : INV h) {u6 u7 u8 : Option Value} {S9 : Nat} (J : J_ways l G ad INV) (K : ∀ (h2 : HP) (w6 w7 w8 : Option Value), INV h2 → PW l G cL_law RL 9 ret hh room_1 (lwCX b L9 xs) lwE 28 [some (.ref b), some (.ref (ad 0)), some (.ref (ad 253)), some (.ref (ad 263)), some (.ref (ad 264)), some (.int (nI (7 * (j + 1)))), w6, w7, w8] [] SW ad h2 (300 + 8 * (j + 1)) (30000 + 48 * (j + 1))) : PW l G cL_law RL 9 ret hh room_1 (lwCX b L9 xs) lwE 1755 [some (.ref b), some (.ref (ad 0)), some (.ref (ad 253)), some (.ref (ad 263)), some (.ref (ad 264)), some (.int (nI (7 * j))), u6, u7, u8] [] SW ad h (300 + 8 * j) (30000 + 48 * j) := by
  obtain ⟨k, v, h1, h2, c1, c2, e5, e0, hI2⟩ := J h (xs (nI (7 * j + 1)).toNatClampNeg) (xs (nI (7 * j + 2)).toNatClampNeg) hI
  refine pw_aload_n dL_law_1755 rfl ?_
  refine pw_aload_n dL_law_1756 rfl ?_
  refine pw_iload dL_law_1757 rfl ?_
  refine pw_iconst dL_law_1759 (v := 1) (by decide) ?_
  refine pw_iadd dL_law_1760 ?_
  rw [show nI (7 * j) + 1 = nI (7 * j + 1) from nI_add _ 1]
  refine pw_sld dL_law_1761 rfl (vpin (N := L9) (by omega) (by omega)) ?_
  refine pw_aload_n dL_law_1762 rfl ?_
  refine pw_iload dL_law_1763 rfl ?_
  refine pw_iconst dL_law_1765 (v := 2) (by decide) ?_
  refine pw_iadd dL_law_1766 ?_
  rw [show nI (7 * j) + 2 = nI (7 * j + 2) from nI_add _ 2]
  refine pw_sld dL_law_1767 rfl (vpin (N := L9) (by omega) (by omega)) ?_
  refine pw_aload_n dL_law_1768 rfl ?_
  refine pw_cSW dL_law_1769 c1 lwX wi_L_ways ws_L_ways wk_L_193 rfl (gRm_mk rfl rfl (by show 300 + 8 * j + 2 ≤ 601024; omega) (by show 30000 + 48 * j + 12 ≤ 7293034; omega)) rfl rfl ?_
  refine pw_istore dL_law_1772 (by decide) rfl ?_
  refine pw_aload_n dL_law_1774 rfl ?_
  refine pw_aload_n dL_law_1775 rfl ?_
  refine pw_iload dL_law_1776 rfl ?_
  refine pw_iconst dL_law_1778 (v := 1) (by decide) ?_
  refine pw_iadd dL_law_1779 ?_
  rw [show nI (7 * j) + 1 = nI (7 * j + 1) from nI_add _ 1]
  refine pw_sld dL_law_1780 rfl (vpin (N := L9) (by omega) (by omega)) ?_
  refine pw_aload_n dL_law_1781 rfl ?_
  refine pw_iload dL_law_1782 rfl ?_
  refine pw_iconst dL_law_1784 (v := 2) (by decide) ?_
  refine pw_iadd dL_law_1785 ?_
  rw [show nI (7 * j) + 2 = nI (7 * j + 2) from nI_add _ 2]
  refine pw_sld dL_law_1786 rfl (vpin (N := L9) (by omega) (by omega)) ?_
  refine pw_cV dL_law_1787 c2 mi_X8_ways mv_X8_ways ml_L_195 sh_253 rfl rfl rfl (gRm_mk rfl rfl (by show 300 + 8 * j + 2 + 0 ≤ 601024; omega) (by show 30000 + 48 * j + 12 + 0 ≤ 7293034; omega)) ⟨rfl, rfl⟩ rfl rfl ?_
  refine pw_istore dL_law_1790 (by decide) rfl ?_
  refine pw_aload_n dL_law_1792 rfl ?_
  refine pw_cV dL_law_1793 sp_X8_thrown mi_X8_thrown mv_X8_thrown ml_L_120 sh_253 rfl rfl rfl (gRm_mk rfl rfl (by show 300 + 8 * j + 2 + 0 ≤ 601024; omega) (by show 30000 + 48 * j + 12 + 0 ≤ 7293034; omega)) ⟨rfl, rfl⟩ rfl rfl ?_
  refine pw_iload dL_law_1796 rfl ?_
  refine pw_icmp_eq dL_law_1798 (tgt := 1803) (by decide) (fun _ => ?_) (fun c => absurd e5 c)
  refine pw_iload dL_law_1803 rfl ?_
  refine pw_if_ne dL_law_1805 (tgt := 1820) (by decide) (fun _ => ?_) (fun k0 => ?_)
  · skip
    refine pw_goto dL_law_1820 (tgt := 2082) (by decide) ?_
    refine pw_iinc dL_law_2082 rfl (d := 7) (by decide) (by decide) rfl ?_
    refine pw_goto dL_law_2085 (tgt := 28) (by decide) ?_
    rw [show nI (7 * j) + 7 = nI (7 * (j + 1)) from nI_add _ 7]
    exact PW.widen (by show 300 + 8 * j + 2 ≤ 300 + 8 * (j + 1); omega) (by show 30000 + 48 * j + 12 ≤ 30000 + 48 * (j + 1); omega) (K h2 _ _ _ hI2)
  · skip
    refine pw_aload_n dL_law_1808 rfl ?_
    refine pw_iconst dL_law_1809 (v := 0) (by decide) ?_
    refine pw_laload dL_law_1810 sh_263 (vpin (n := 0) (N := 1) (by decide) (by decide)) ?_
    refine pw_iload dL_law_1811 rfl ?_
    refine pw_i2l dL_law_1813 ?_
    refine pw_lcmp dL_law_1814 ?_
    rw [show h2 263 (Int32.toNatClampNeg 0) = v from e0 k0, lcmp_self]
    refine pw_if_eq dL_law_1815 (tgt := 1820) (by decide) (fun _ => ?_) (fun c => absurd rfl c)
    refine pw_goto dL_law_1820 (tgt := 2082) (by decide) ?_
    refine pw_iinc dL_law_2082 rfl (d := 7) (by decide) (by decide) rfl ?_
    refine pw_goto dL_law_2085 (tgt := 28) (by decide) ?_
    rw [show nI (7 * j) + 7 = nI (7 * (j + 1)) from nI_add _ 7]
    exact PW.widen (by show 300 + 8 * j + 2 ≤ 300 + 8 * (j + 1); omega) (by show 30000 + 48 * j + 12 ≤ 30000 + 48 * (j + 1); omega) (K h2 _ _ _ hI2)

set_option maxRecDepth 100000 in
set_option maxHeartbeats 4000000 in
theorem lc_account {l : Launch} {G : GC} {ad : Nat → Nat} {hh : List (Nat × Nat × Nat × Nat)} {b L9 : Nat} {xs : Nat → Int32} {INV : HP → Prop} {j : Nat} (hj : 7 * j + 7 ≤ L9) (hL : L9 ≤ 3584) {h : HP} (hI : INV h) {u6 u7 u8 : Option Value} {S9 : Nat} (J : J_account l G ad INV) (K : ∀ (h2 : HP) (w6 w7 w8 : Option Value), INV h2 → PW l G cL_law RL 9 ret hh room_1 (lwCX b L9 xs) lwE 28 [some (.ref b), some (.ref (ad 0)), some (.ref (ad 253)), some (.ref (ad 263)), some (.ref (ad 264)), some (.int (nI (7 * (j + 1)))), w6, w7, w8] [] SW ad h2 (300 + 8 * (j + 1)) (30000 + 48 * (j + 1))) : PW l G cL_law RL 9 ret hh room_1 (lwCX b L9 xs) lwE 1823 [some (.ref b), some (.ref (ad 0)), some (.ref (ad 253)), some (.ref (ad 263)), some (.ref (ad 264)), some (.int (nI (7 * j))), u6, u7, u8] [] SW ad h (300 + 8 * j) (30000 + 48 * j) := by
  obtain ⟨k, v, h1, h2, c1, c2, e5, e0, hI2⟩ := J h (xs (nI (7 * j + 1)).toNatClampNeg) hI
  refine pw_aload_n dL_law_1823 rfl ?_
  refine pw_aload_n dL_law_1824 rfl ?_
  refine pw_iload dL_law_1825 rfl ?_
  refine pw_iconst dL_law_1827 (v := 1) (by decide) ?_
  refine pw_iadd dL_law_1828 ?_
  rw [show nI (7 * j) + 1 = nI (7 * j + 1) from nI_add _ 1]
  refine pw_sld dL_law_1829 rfl (vpin (N := L9) (by omega) (by omega)) ?_
  refine pw_aload_n dL_law_1830 rfl ?_
  refine pw_cSW dL_law_1831 c1 lwX wi_L_account ws_L_account wk_L_196 rfl (gRm_mk rfl rfl (by show 300 + 8 * j + 1 ≤ 601024; omega) (by show 30000 + 48 * j + 6 ≤ 7293034; omega)) rfl rfl ?_
  refine pw_istore dL_law_1834 (by decide) rfl ?_
  refine pw_aload_n dL_law_1836 rfl ?_
  refine pw_aload_n dL_law_1837 rfl ?_
  refine pw_iload dL_law_1838 rfl ?_
  refine pw_iconst dL_law_1840 (v := 1) (by decide) ?_
  refine pw_iadd dL_law_1841 ?_
  rw [show nI (7 * j) + 1 = nI (7 * j + 1) from nI_add _ 1]
  refine pw_sld dL_law_1842 rfl (vpin (N := L9) (by omega) (by omega)) ?_
  refine pw_cV dL_law_1843 c2 mi_X8_account mv_X8_account ml_L_198 sh_253 rfl rfl rfl (gRm_mk rfl rfl (by show 300 + 8 * j + 1 + 0 ≤ 601024; omega) (by show 30000 + 48 * j + 6 + 0 ≤ 7293034; omega)) ⟨rfl, rfl⟩ rfl rfl ?_
  refine pw_istore dL_law_1846 (by decide) rfl ?_
  refine pw_aload_n dL_law_1848 rfl ?_
  refine pw_cV dL_law_1849 sp_X8_thrown mi_X8_thrown mv_X8_thrown ml_L_120 sh_253 rfl rfl rfl (gRm_mk rfl rfl (by show 300 + 8 * j + 1 + 0 ≤ 601024; omega) (by show 30000 + 48 * j + 6 + 0 ≤ 7293034; omega)) ⟨rfl, rfl⟩ rfl rfl ?_
  refine pw_iload dL_law_1852 rfl ?_
  refine pw_icmp_eq dL_law_1854 (tgt := 1859) (by decide) (fun _ => ?_) (fun c => absurd e5 c)
  refine pw_iload dL_law_1859 rfl ?_
  refine pw_if_ne dL_law_1861 (tgt := 1876) (by decide) (fun _ => ?_) (fun k0 => ?_)
  · skip
    refine pw_goto dL_law_1876 (tgt := 2082) (by decide) ?_
    refine pw_iinc dL_law_2082 rfl (d := 7) (by decide) (by decide) rfl ?_
    refine pw_goto dL_law_2085 (tgt := 28) (by decide) ?_
    rw [show nI (7 * j) + 7 = nI (7 * (j + 1)) from nI_add _ 7]
    exact PW.widen (by show 300 + 8 * j + 1 ≤ 300 + 8 * (j + 1); omega) (by show 30000 + 48 * j + 6 ≤ 30000 + 48 * (j + 1); omega) (K h2 _ _ _ hI2)
  · skip
    refine pw_aload_n dL_law_1864 rfl ?_
    refine pw_iconst dL_law_1865 (v := 0) (by decide) ?_
    refine pw_laload dL_law_1866 sh_263 (vpin (n := 0) (N := 1) (by decide) (by decide)) ?_
    refine pw_iload dL_law_1867 rfl ?_
    refine pw_i2l dL_law_1869 ?_
    refine pw_lcmp dL_law_1870 ?_
    rw [show h2 263 (Int32.toNatClampNeg 0) = v from e0 k0, lcmp_self]
    refine pw_if_eq dL_law_1871 (tgt := 1876) (by decide) (fun _ => ?_) (fun c => absurd rfl c)
    refine pw_goto dL_law_1876 (tgt := 2082) (by decide) ?_
    refine pw_iinc dL_law_2082 rfl (d := 7) (by decide) (by decide) rfl ?_
    refine pw_goto dL_law_2085 (tgt := 28) (by decide) ?_
    rw [show nI (7 * j) + 7 = nI (7 * (j + 1)) from nI_add _ 7]
    exact PW.widen (by show 300 + 8 * j + 1 ≤ 300 + 8 * (j + 1); omega) (by show 30000 + 48 * j + 6 ≤ 30000 + 48 * (j + 1); omega) (K h2 _ _ _ hI2)

set_option maxRecDepth 100000 in
set_option maxHeartbeats 4000000 in
theorem lc_feed {l : Launch} {G : GC} {ad : Nat → Nat} {hh : List (Nat × Nat × Nat × Nat)} {b L9 : Nat} {xs : Nat → Int32} {INV : HP → Prop} {j : Nat} (hj : 7 * j + 7 ≤ L9) (hL : L9 ≤ 3584) {h : HP} (hI : INV h) {u6 u7 u8 : Option Value} {S9 : Nat} (J : J_feed l G ad INV) (K : ∀ (h2 : HP) (w6 w7 w8 : Option Value), INV h2 → PW l G cL_law RL 9 ret hh room_1 (lwCX b L9 xs) lwE 28 [some (.ref b), some (.ref (ad 0)), some (.ref (ad 253)), some (.ref (ad 263)), some (.ref (ad 264)), some (.int (nI (7 * (j + 1)))), w6, w7, w8] [] SW ad h2 (300 + 8 * (j + 1)) (30000 + 48 * (j + 1))) : PW l G cL_law RL 9 ret hh room_1 (lwCX b L9 xs) lwE 1879 [some (.ref b), some (.ref (ad 0)), some (.ref (ad 253)), some (.ref (ad 263)), some (.ref (ad 264)), some (.int (nI (7 * j))), u6, u7, u8] [] SW ad h (300 + 8 * j) (30000 + 48 * j) := by
  obtain ⟨k, v, h1, h2, c1, c2, e5, e0, hI2⟩ := J h (((xs (nI (7 * j + 1)).toNatClampNeg).toUInt32 % 65536).toInt32) ⟨_, rfl⟩ hI
  refine pw_aload_n dL_law_1879 rfl ?_
  refine pw_aload_n dL_law_1880 rfl ?_
  refine pw_iload dL_law_1881 rfl ?_
  refine pw_iconst dL_law_1883 (v := 1) (by decide) ?_
  refine pw_iadd dL_law_1884 ?_
  rw [show nI (7 * j) + 1 = nI (7 * j + 1) from nI_add _ 1]
  refine pw_sld dL_law_1885 rfl (vpin (N := L9) (by omega) (by omega)) ?_
  refine pw_i2c dL_law_1886 ?_
  refine pw_aload_n dL_law_1887 rfl ?_
  refine pw_cSW dL_law_1888 c1 lwX wi_L_feed ws_L_feed wk_L_199 rfl (gRm_mk rfl rfl (by show 300 + 8 * j + 1 ≤ 601024; omega) (by show 30000 + 48 * j + 6 ≤ 7293034; omega)) rfl rfl ?_
  refine pw_istore dL_law_1891 (by decide) rfl ?_
  refine pw_aload_n dL_law_1893 rfl ?_
  refine pw_aload_n dL_law_1894 rfl ?_
  refine pw_iload dL_law_1895 rfl ?_
  refine pw_iconst dL_law_1897 (v := 1) (by decide) ?_
  refine pw_iadd dL_law_1898 ?_
  rw [show nI (7 * j) + 1 = nI (7 * j + 1) from nI_add _ 1]
  refine pw_sld dL_law_1899 rfl (vpin (N := L9) (by omega) (by omega)) ?_
  refine pw_i2c dL_law_1900 ?_
  refine pw_cV dL_law_1901 c2 mi_X8_feed mv_X8_feed ml_L_202 sh_253 rfl rfl rfl (gRm_mk rfl rfl (by show 300 + 8 * j + 1 + 0 ≤ 601024; omega) (by show 30000 + 48 * j + 6 + 0 ≤ 7293034; omega)) ⟨rfl, rfl⟩ rfl rfl ?_
  refine pw_istore dL_law_1904 (by decide) rfl ?_
  refine pw_aload_n dL_law_1906 rfl ?_
  refine pw_cV dL_law_1907 sp_X8_thrown mi_X8_thrown mv_X8_thrown ml_L_120 sh_253 rfl rfl rfl (gRm_mk rfl rfl (by show 300 + 8 * j + 1 + 0 ≤ 601024; omega) (by show 30000 + 48 * j + 6 + 0 ≤ 7293034; omega)) ⟨rfl, rfl⟩ rfl rfl ?_
  refine pw_iload dL_law_1910 rfl ?_
  refine pw_icmp_eq dL_law_1912 (tgt := 1917) (by decide) (fun _ => ?_) (fun c => absurd e5 c)
  refine pw_iload dL_law_1917 rfl ?_
  refine pw_if_ne dL_law_1919 (tgt := 1934) (by decide) (fun _ => ?_) (fun k0 => ?_)
  · skip
    refine pw_goto dL_law_1934 (tgt := 2082) (by decide) ?_
    refine pw_iinc dL_law_2082 rfl (d := 7) (by decide) (by decide) rfl ?_
    refine pw_goto dL_law_2085 (tgt := 28) (by decide) ?_
    rw [show nI (7 * j) + 7 = nI (7 * (j + 1)) from nI_add _ 7]
    exact PW.widen (by show 300 + 8 * j + 1 ≤ 300 + 8 * (j + 1); omega) (by show 30000 + 48 * j + 6 ≤ 30000 + 48 * (j + 1); omega) (K h2 _ _ _ hI2)
  · skip
    refine pw_aload_n dL_law_1922 rfl ?_
    refine pw_iconst dL_law_1923 (v := 0) (by decide) ?_
    refine pw_laload dL_law_1924 sh_263 (vpin (n := 0) (N := 1) (by decide) (by decide)) ?_
    refine pw_iload dL_law_1925 rfl ?_
    refine pw_i2l dL_law_1927 ?_
    refine pw_lcmp dL_law_1928 ?_
    rw [show h2 263 (Int32.toNatClampNeg 0) = v from e0 k0, lcmp_self]
    refine pw_if_eq dL_law_1929 (tgt := 1934) (by decide) (fun _ => ?_) (fun c => absurd rfl c)
    refine pw_goto dL_law_1934 (tgt := 2082) (by decide) ?_
    refine pw_iinc dL_law_2082 rfl (d := 7) (by decide) (by decide) rfl ?_
    refine pw_goto dL_law_2085 (tgt := 28) (by decide) ?_
    rw [show nI (7 * j) + 7 = nI (7 * (j + 1)) from nI_add _ 7]
    exact PW.widen (by show 300 + 8 * j + 1 ≤ 300 + 8 * (j + 1); omega) (by show 30000 + 48 * j + 6 ≤ 30000 + 48 * (j + 1); omega) (K h2 _ _ _ hI2)

set_option maxRecDepth 100000 in
set_option maxHeartbeats 4000000 in
theorem lc_errorPosition {l : Launch} {G : GC} {ad : Nat → Nat} {hh : List (Nat × Nat × Nat × Nat)} {b L9 : Nat} {xs : Nat → Int32} {INV : HP → Prop} {j : Nat} (hj : 7 * j + 7 ≤ L9) (hL : L9 ≤ 3584) {h : HP} (hI : INV h) {u6 u7 u8 : Option Value} {S9 : Nat} (J : J_errorPosition l G ad INV) (K : ∀ (h2 : HP) (w6 w7 w8 : Option Value), INV h2 → PW l G cL_law RL 9 ret hh room_1 (lwCX b L9 xs) lwE 28 [some (.ref b), some (.ref (ad 0)), some (.ref (ad 253)), some (.ref (ad 263)), some (.ref (ad 264)), some (.int (nI (7 * (j + 1)))), w6, w7, w8] [] SW ad h2 (300 + 8 * (j + 1)) (30000 + 48 * (j + 1))) : PW l G cL_law RL 9 ret hh room_1 (lwCX b L9 xs) lwE 1937 [some (.ref b), some (.ref (ad 0)), some (.ref (ad 253)), some (.ref (ad 263)), some (.ref (ad 264)), some (.int (nI (7 * j))), u6, u7, u8] [] SW ad h (300 + 8 * j) (30000 + 48 * j) := by
  obtain ⟨k, v, h1, h2, c1, c2, e5, e0, hI2⟩ := J h  hI
  refine pw_aload_n dL_law_1937 rfl ?_
  refine pw_aload_n dL_law_1938 rfl ?_
  refine pw_cSW dL_law_1939 c1 lwX wi_L_errorPosition ws_L_errorPosition wk_L_203 rfl (gRm_mk rfl rfl (by show 300 + 8 * j + 1 ≤ 601024; omega) (by show 30000 + 48 * j + 6 ≤ 7293034; omega)) rfl rfl ?_
  refine pw_istore dL_law_1942 (by decide) rfl ?_
  refine pw_aload_n dL_law_1944 rfl ?_
  refine pw_cV dL_law_1945 c2 mi_X8_errorPosition mv_X8_errorPosition ml_L_205 sh_253 rfl rfl rfl (gRm_mk rfl rfl (by show 300 + 8 * j + 1 + 0 ≤ 601024; omega) (by show 30000 + 48 * j + 6 + 0 ≤ 7293034; omega)) ⟨rfl, rfl⟩ rfl rfl ?_
  refine pw_istore dL_law_1948 (by decide) rfl ?_
  refine pw_aload_n dL_law_1950 rfl ?_
  refine pw_cV dL_law_1951 sp_X8_thrown mi_X8_thrown mv_X8_thrown ml_L_120 sh_253 rfl rfl rfl (gRm_mk rfl rfl (by show 300 + 8 * j + 1 + 0 ≤ 601024; omega) (by show 30000 + 48 * j + 6 + 0 ≤ 7293034; omega)) ⟨rfl, rfl⟩ rfl rfl ?_
  refine pw_iload dL_law_1954 rfl ?_
  refine pw_icmp_eq dL_law_1956 (tgt := 1961) (by decide) (fun _ => ?_) (fun c => absurd e5 c)
  refine pw_iload dL_law_1961 rfl ?_
  refine pw_if_ne dL_law_1963 (tgt := 1978) (by decide) (fun _ => ?_) (fun k0 => ?_)
  · skip
    refine pw_goto dL_law_1978 (tgt := 2082) (by decide) ?_
    refine pw_iinc dL_law_2082 rfl (d := 7) (by decide) (by decide) rfl ?_
    refine pw_goto dL_law_2085 (tgt := 28) (by decide) ?_
    rw [show nI (7 * j) + 7 = nI (7 * (j + 1)) from nI_add _ 7]
    exact PW.widen (by show 300 + 8 * j + 1 ≤ 300 + 8 * (j + 1); omega) (by show 30000 + 48 * j + 6 ≤ 30000 + 48 * (j + 1); omega) (K h2 _ _ _ hI2)
  · skip
    refine pw_aload_n dL_law_1966 rfl ?_
    refine pw_iconst dL_law_1967 (v := 0) (by decide) ?_
    refine pw_laload dL_law_1968 sh_263 (vpin (n := 0) (N := 1) (by decide) (by decide)) ?_
    refine pw_iload dL_law_1969 rfl ?_
    refine pw_i2l dL_law_1971 ?_
    refine pw_lcmp dL_law_1972 ?_
    rw [show h2 263 (Int32.toNatClampNeg 0) = v from e0 k0, lcmp_self]
    refine pw_if_eq dL_law_1973 (tgt := 1978) (by decide) (fun _ => ?_) (fun c => absurd rfl c)
    refine pw_goto dL_law_1978 (tgt := 2082) (by decide) ?_
    refine pw_iinc dL_law_2082 rfl (d := 7) (by decide) (by decide) rfl ?_
    refine pw_goto dL_law_2085 (tgt := 28) (by decide) ?_
    rw [show nI (7 * j) + 7 = nI (7 * (j + 1)) from nI_add _ 7]
    exact PW.widen (by show 300 + 8 * j + 1 ≤ 300 + 8 * (j + 1); omega) (by show 30000 + 48 * j + 6 ≤ 30000 + 48 * (j + 1); omega) (K h2 _ _ _ hI2)

set_option maxRecDepth 100000 in
set_option maxHeartbeats 4000000 in
theorem lc_undo {l : Launch} {G : GC} {ad : Nat → Nat} {hh : List (Nat × Nat × Nat × Nat)} {b L9 : Nat} {xs : Nat → Int32} {INV : HP → Prop} {j : Nat} (hj : 7 * j + 7 ≤ L9) (hL : L9 ≤ 3584) {h : HP} (hI : INV h) {u6 u7 u8 : Option Value} {S9 : Nat} (J : J_undo l G ad INV) (K : ∀ (h2 : HP) (w6 w7 w8 : Option Value), INV h2 → PW l G cL_law RL 9 ret hh room_1 (lwCX b L9 xs) lwE 28 [some (.ref b), some (.ref (ad 0)), some (.ref (ad 253)), some (.ref (ad 263)), some (.ref (ad 264)), some (.int (nI (7 * (j + 1)))), w6, w7, w8] [] SW ad h2 (300 + 8 * (j + 1)) (30000 + 48 * (j + 1))) : PW l G cL_law RL 9 ret hh room_1 (lwCX b L9 xs) lwE 1981 [some (.ref b), some (.ref (ad 0)), some (.ref (ad 253)), some (.ref (ad 263)), some (.ref (ad 264)), some (.int (nI (7 * j))), u6, u7, u8] [] SW ad h (300 + 8 * j) (30000 + 48 * j) := by
  obtain ⟨k, v, h1, h2, c1, c2, e5, e0, hI2⟩ := J h  hI
  refine pw_aload_n dL_law_1981 rfl ?_
  refine pw_aload_n dL_law_1982 rfl ?_
  refine pw_cSW dL_law_1983 c1 lwX wi_L_undo ws_L_undo wk_L_206 rfl (gRm_mk rfl rfl (by show 300 + 8 * j + 1 ≤ 601024; omega) (by show 30000 + 48 * j + 6 ≤ 7293034; omega)) rfl rfl ?_
  refine pw_istore dL_law_1986 (by decide) rfl ?_
  refine pw_aload_n dL_law_1988 rfl ?_
  refine pw_cV dL_law_1989 c2 mi_X8_undo mv_X8_undo ml_L_208 sh_253 rfl rfl rfl (gRm_mk rfl rfl (by show 300 + 8 * j + 1 + 0 ≤ 601024; omega) (by show 30000 + 48 * j + 6 + 0 ≤ 7293034; omega)) ⟨rfl, rfl⟩ rfl rfl ?_
  refine pw_istore dL_law_1992 (by decide) rfl ?_
  refine pw_aload_n dL_law_1994 rfl ?_
  refine pw_cV dL_law_1995 sp_X8_thrown mi_X8_thrown mv_X8_thrown ml_L_120 sh_253 rfl rfl rfl (gRm_mk rfl rfl (by show 300 + 8 * j + 1 + 0 ≤ 601024; omega) (by show 30000 + 48 * j + 6 + 0 ≤ 7293034; omega)) ⟨rfl, rfl⟩ rfl rfl ?_
  refine pw_iload dL_law_1998 rfl ?_
  refine pw_icmp_eq dL_law_2000 (tgt := 2005) (by decide) (fun _ => ?_) (fun c => absurd e5 c)
  refine pw_iload dL_law_2005 rfl ?_
  refine pw_if_ne dL_law_2007 (tgt := 2022) (by decide) (fun _ => ?_) (fun k0 => ?_)
  · skip
    refine pw_goto dL_law_2022 (tgt := 2082) (by decide) ?_
    refine pw_iinc dL_law_2082 rfl (d := 7) (by decide) (by decide) rfl ?_
    refine pw_goto dL_law_2085 (tgt := 28) (by decide) ?_
    rw [show nI (7 * j) + 7 = nI (7 * (j + 1)) from nI_add _ 7]
    exact PW.widen (by show 300 + 8 * j + 1 ≤ 300 + 8 * (j + 1); omega) (by show 30000 + 48 * j + 6 ≤ 30000 + 48 * (j + 1); omega) (K h2 _ _ _ hI2)
  · skip
    refine pw_aload_n dL_law_2010 rfl ?_
    refine pw_iconst dL_law_2011 (v := 0) (by decide) ?_
    refine pw_laload dL_law_2012 sh_263 (vpin (n := 0) (N := 1) (by decide) (by decide)) ?_
    refine pw_iload dL_law_2013 rfl ?_
    refine pw_i2l dL_law_2015 ?_
    refine pw_lcmp dL_law_2016 ?_
    rw [show h2 263 (Int32.toNatClampNeg 0) = v from e0 k0, lcmp_self]
    refine pw_if_eq dL_law_2017 (tgt := 2022) (by decide) (fun _ => ?_) (fun c => absurd rfl c)
    refine pw_goto dL_law_2022 (tgt := 2082) (by decide) ?_
    refine pw_iinc dL_law_2082 rfl (d := 7) (by decide) (by decide) rfl ?_
    refine pw_goto dL_law_2085 (tgt := 28) (by decide) ?_
    rw [show nI (7 * j) + 7 = nI (7 * (j + 1)) from nI_add _ 7]
    exact PW.widen (by show 300 + 8 * j + 1 ≤ 300 + 8 * (j + 1); omega) (by show 30000 + 48 * j + 6 ≤ 30000 + 48 * (j + 1); omega) (K h2 _ _ _ hI2)

set_option maxRecDepth 100000 in
set_option maxHeartbeats 4000000 in
theorem lc_save {l : Launch} {G : GC} {ad : Nat → Nat} {hh : List (Nat × Nat × Nat × Nat)} {b L9 : Nat} {xs : Nat → Int32} {INV : HP → Prop} {j : Nat} (hj : 7 * j + 7 ≤ L9) (hL : L9 ≤ 3584) {h : HP} (hI : INV h) {u6 u7 u8 : Option Value} {S9 : Nat} (J : J_save l G ad INV) (K : ∀ (h2 : HP) (w6 w7 w8 : Option Value), INV h2 → PW l G cL_law RL 9 ret hh room_1 (lwCX b L9 xs) lwE 28 [some (.ref b), some (.ref (ad 0)), some (.ref (ad 253)), some (.ref (ad 263)), some (.ref (ad 264)), some (.int (nI (7 * (j + 1)))), w6, w7, w8] [] SW ad h2 (300 + 8 * (j + 1)) (30000 + 48 * (j + 1))) : PW l G cL_law RL 9 ret hh room_1 (lwCX b L9 xs) lwE 2025 [some (.ref b), some (.ref (ad 0)), some (.ref (ad 253)), some (.ref (ad 263)), some (.ref (ad 264)), some (.int (nI (7 * j))), u6, u7, u8] [] SW ad h (300 + 8 * j) (30000 + 48 * j) := by
  obtain ⟨v, h1, h2, c1, c2, hI2⟩ := J h hI
  refine pw_aload_n dL_law_2025 rfl ?_
  refine pw_tV dL_law_2026 c1 mi_X7_save mv_X7_save ml_L_209 sh_0 rfl rfl rfl (gRm_mk rfl rfl (by show 300 + 8 * j + 0 ≤ 601024; omega) (by show 30000 + 48 * j + 0 ≤ 7293034; omega)) rfl rfl (fun _ q => by cases q) (fun _ q => ?_)
  cases q
  refine pw_aload_n dL_law_2029 rfl ?_
  refine pw_cV dL_law_2030 c2 mi_X8_save mv_X8_save ml_L_212 sh_253 rfl rfl rfl (gRm_mk rfl rfl (by show 300 + 8 * j + 0 ≤ 601024; omega) (by show 30000 + 48 * j + 0 ≤ 7293034; omega)) ⟨rfl, rfl⟩ rfl rfl ?_
  refine pw_icmp_eq dL_law_2033 (tgt := 2082) (by decide) (fun _ => ?_) (fun c => absurd rfl c)
  refine pw_iinc dL_law_2082 rfl (d := 7) (by decide) (by decide) rfl ?_
  refine pw_goto dL_law_2085 (tgt := 28) (by decide) ?_
  rw [show nI (7 * j) + 7 = nI (7 * (j + 1)) from nI_add _ 7]
  exact PW.widen (by show 300 + 8 * j ≤ 300 + 8 * (j + 1); omega) (by show 30000 + 48 * j ≤ 30000 + 48 * (j + 1); omega) (K h2 _ _ _ hI2)

set_option maxRecDepth 100000 in
set_option maxHeartbeats 4000000 in
theorem lc_restore {l : Launch} {G : GC} {ad : Nat → Nat} {hh : List (Nat × Nat × Nat × Nat)} {b L9 : Nat} {xs : Nat → Int32} {INV : HP → Prop} {j : Nat} (hj : 7 * j + 7 ≤ L9) (hL : L9 ≤ 3584) {h : HP} (hI : INV h) {u6 u7 u8 : Option Value} {S9 : Nat} (J : J_restore l G ad INV) (K : ∀ (h2 : HP) (w6 w7 w8 : Option Value), INV h2 → PW l G cL_law RL 9 ret hh room_1 (lwCX b L9 xs) lwE 28 [some (.ref b), some (.ref (ad 0)), some (.ref (ad 253)), some (.ref (ad 263)), some (.ref (ad 264)), some (.int (nI (7 * (j + 1)))), w6, w7, w8] [] SW ad h2 (300 + 8 * (j + 1)) (30000 + 48 * (j + 1))) : PW l G cL_law RL 9 ret hh room_1 (lwCX b L9 xs) lwE 2038 [some (.ref b), some (.ref (ad 0)), some (.ref (ad 253)), some (.ref (ad 263)), some (.ref (ad 264)), some (.int (nI (7 * j))), u6, u7, u8] [] SW ad h (300 + 8 * j) (30000 + 48 * j) := by
  obtain ⟨k, v, h1, h2, c1, c2, e5, e0, hI2⟩ := J h  hI
  refine pw_aload_n dL_law_2038 rfl ?_
  refine pw_aload_n dL_law_2039 rfl ?_
  refine pw_cSW dL_law_2040 c1 lwX wi_L_restore ws_L_restore wk_L_213 rfl (gRm_mk rfl rfl (by show 300 + 8 * j + 1 ≤ 601024; omega) (by show 30000 + 48 * j + 6 ≤ 7293034; omega)) rfl rfl ?_
  refine pw_istore dL_law_2043 (by decide) rfl ?_
  refine pw_aload_n dL_law_2045 rfl ?_
  refine pw_cV dL_law_2046 c2 mi_X8_restore mv_X8_restore ml_L_215 sh_253 rfl rfl rfl (gRm_mk rfl rfl (by show 300 + 8 * j + 1 + 0 ≤ 601024; omega) (by show 30000 + 48 * j + 6 + 0 ≤ 7293034; omega)) ⟨rfl, rfl⟩ rfl rfl ?_
  refine pw_istore dL_law_2049 (by decide) rfl ?_
  refine pw_aload_n dL_law_2051 rfl ?_
  refine pw_cV dL_law_2052 sp_X8_thrown mi_X8_thrown mv_X8_thrown ml_L_120 sh_253 rfl rfl rfl (gRm_mk rfl rfl (by show 300 + 8 * j + 1 + 0 ≤ 601024; omega) (by show 30000 + 48 * j + 6 + 0 ≤ 7293034; omega)) ⟨rfl, rfl⟩ rfl rfl ?_
  refine pw_iload dL_law_2055 rfl ?_
  refine pw_icmp_eq dL_law_2057 (tgt := 2062) (by decide) (fun _ => ?_) (fun c => absurd e5 c)
  refine pw_iload dL_law_2062 rfl ?_
  refine pw_if_ne dL_law_2064 (tgt := 2079) (by decide) (fun _ => ?_) (fun k0 => ?_)
  · skip
    refine pw_goto dL_law_2079 (tgt := 2082) (by decide) ?_
    refine pw_iinc dL_law_2082 rfl (d := 7) (by decide) (by decide) rfl ?_
    refine pw_goto dL_law_2085 (tgt := 28) (by decide) ?_
    rw [show nI (7 * j) + 7 = nI (7 * (j + 1)) from nI_add _ 7]
    exact PW.widen (by show 300 + 8 * j + 1 ≤ 300 + 8 * (j + 1); omega) (by show 30000 + 48 * j + 6 ≤ 30000 + 48 * (j + 1); omega) (K h2 _ _ _ hI2)
  · skip
    refine pw_aload_n dL_law_2067 rfl ?_
    refine pw_iconst dL_law_2068 (v := 0) (by decide) ?_
    refine pw_laload dL_law_2069 sh_263 (vpin (n := 0) (N := 1) (by decide) (by decide)) ?_
    refine pw_iload dL_law_2070 rfl ?_
    refine pw_i2l dL_law_2072 ?_
    refine pw_lcmp dL_law_2073 ?_
    rw [show h2 263 (Int32.toNatClampNeg 0) = v from e0 k0, lcmp_self]
    refine pw_if_eq dL_law_2074 (tgt := 2079) (by decide) (fun _ => ?_) (fun c => absurd rfl c)
    refine pw_goto dL_law_2079 (tgt := 2082) (by decide) ?_
    refine pw_iinc dL_law_2082 rfl (d := 7) (by decide) (by decide) rfl ?_
    refine pw_goto dL_law_2085 (tgt := 28) (by decide) ?_
    rw [show nI (7 * j) + 7 = nI (7 * (j + 1)) from nI_add _ 7]
    exact PW.widen (by show 300 + 8 * j + 1 ≤ 300 + 8 * (j + 1); omega) (by show 30000 + 48 * j + 6 ≤ 30000 + 48 * (j + 1); omega) (K h2 _ _ _ hI2)
