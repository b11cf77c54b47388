/-! the law's own text -/
def lw_l (a b : Int32) : Int64 := a.toInt64 <<< ((nI 32).toInt64 &&& 63) ||| (b.toInt64 &&& (4294967295 : Int64))
abbrev lw_X (L : Nat) (xs : Nat → Int32) : State → Nat → Nat → Prop := fun s b sc => va_X sc L xs s s.heap ∧ sc < b ∧ s.heap.size ≤ b
theorem lw_hX (nm : String) (L : Nat) (xs : Nat → Int32) : ∀ (s : State) (b sc : Nat), (lw_M (lw_X L xs, nm)).2.2.2.2.2 s b sc → va_X sc L xs s s.heap ∧ sc < b := fun _ _ _ h => ⟨h.1, h.2.1⟩
abbrev lw_lv (z : UInt32) (i : Nat) : List (Nat × Value) := [(3, .int (nI i)), (2, .ref 36), (1, .ref 0), (0, .float z)]
theorem lw_c0 {nm : String} {L : Nat} {xs : Nat → Int32} (hL : L ≤ 3584) {rc rs cells slots : Nat} (hrc : cells ≤ rc) (hrs : slots ≤ rs) {Z : am_E} {z : UInt32} {i : Nat} (hi : i + 7 ≤ L) {C M : cs_S} (h : Inv C M) (K : ∀ C1 M1, Inv C1 M1 → AW (lw_M (lw_X L xs, nm)) 9 rc rs 1097 (lw_lv z i) [] (cs_w C1 ++ ms_w M1) cells slots Z) : AW (lw_M (lw_X L xs, nm)) 9 rc rs 128 (lw_lv z i) [] (cs_w C ++ ms_w M) cells slots Z := by
  obtain ⟨x, C1, M1, c1, c2, hI⟩ := s_plant h
  refine aw_aload_n d_law_128 rfl ?_
  refine aw_cV1 d_law_129 c1 mk_RC_plant is_RC_plant ln_La_13 rfl rfl rfl rfl (Nat.le_of_ble_eq_true rfl) (Nat.le_of_ble_eq_true rfl) hrc hrs ?_
  refine aw_aload_n d_law_132 rfl ?_
  refine aw_cV1 d_law_133 c2 mk_Mo_plant is_Mo_plant ln_La_17 rfl rfl rfl rfl (Nat.le_of_ble_eq_true rfl) (Nat.le_of_ble_eq_true rfl) hrc hrs ?_
  exact aw_icmp_eq (tgt := 1097) d_law_136 (by decide) (fun _ => K C1 M1 hI) (fun z => absurd rfl z)
theorem lw_c1 {nm : String} {L : Nat} {xs : Nat → Int32} (hL : L ≤ 3584) {rc rs cells slots : Nat} (hrc : cells ≤ rc) (hrs : slots ≤ rs) {Z : am_E} {z : UInt32} {i : Nat} (hi : i + 7 ≤ L) {C M : cs_S} (h : Inv C M) (K : ∀ C1 M1, Inv C1 M1 → AW (lw_M (lw_X L xs, nm)) 9 rc rs 1097 (lw_lv z i) [] (cs_w C1 ++ ms_w M1) cells slots Z) : AW (lw_M (lw_X L xs, nm)) 9 rc rs 141 (lw_lv z i) [] (cs_w C ++ ms_w M) cells slots Z := by
  obtain ⟨x, C1, M1, c1, c2, hI⟩ := s_share h (xs (i + 1)) (xs (i + 2)) (lw_l (xs (i + 3)) (xs (i + 4))) (lw_l (xs (i + 5)) (xs (i + 6)))
  refine aw_aload_n d_law_141 rfl ?_
  refine aw_aload_nS d_law_142 rfl ?_
  refine aw_iload_n d_law_143 rfl ?_
  refine aw_iconst (v := nI 1) d_law_144 (by decide) ?_
  refine aw_iadd d_law_145 ?_
  rw [nI_add]
  refine aw_sld d_law_146 (lw_hX nm L xs) (vp_in_nI (show i + 1 < L by omega) (by omega)) ?_
  rw [nI_clamp (by omega)]
  refine aw_aload_nS d_law_147 rfl ?_
  refine aw_iload_n d_law_148 rfl ?_
  refine aw_iconst (v := nI 2) d_law_149 (by decide) ?_
  refine aw_iadd d_law_150 ?_
  rw [nI_add]
  refine aw_sld d_law_151 (lw_hX nm L xs) (vp_in_nI (show i + 2 < L by omega) (by omega)) ?_
  rw [nI_clamp (by omega)]
  refine aw_aload_nS d_law_152 rfl ?_
  refine aw_iload_n d_law_153 rfl ?_
  refine aw_iconst (v := nI 3) d_law_154 (by decide) ?_
  refine aw_iadd d_law_155 ?_
  rw [nI_add]
  refine aw_sld d_law_156 (lw_hX nm L xs) (vp_in_nI (show i + 3 < L by omega) (by omega)) ?_
  rw [nI_clamp (by omega)]
  refine aw_i2l d_law_157 ?_
  refine aw_bipush (v := nI 32) d_law_158 (by decide) ?_
  refine aw_lshl d_law_160 ?_
  refine aw_aload_nS d_law_161 rfl ?_
  refine aw_iload_n d_law_162 rfl ?_
  refine aw_iconst (v := nI 4) d_law_163 (by decide) ?_
  refine aw_iadd d_law_164 ?_
  rw [nI_add]
  refine aw_sld d_law_165 (lw_hX nm L xs) (vp_in_nI (show i + 4 < L by omega) (by omega)) ?_
  rw [nI_clamp (by omega)]
  refine aw_i2l d_law_166 ?_
  refine aw_ldc2 (v := (4294967295 : Int64)) d_law_167 kl_La_18 ?_
  refine aw_land d_law_170 ?_
  refine aw_lor d_law_171 ?_
  refine aw_aload_nS d_law_172 rfl ?_
  refine aw_iload_n d_law_173 rfl ?_
  refine aw_iconst (v := nI 5) d_law_174 (by decide) ?_
  refine aw_iadd d_law_175 ?_
  rw [nI_add]
  refine aw_sld d_law_176 (lw_hX nm L xs) (vp_in_nI (show i + 5 < L by omega) (by omega)) ?_
  rw [nI_clamp (by omega)]
  refine aw_i2l d_law_177 ?_
  refine aw_bipush (v := nI 32) d_law_178 (by decide) ?_
  refine aw_lshl d_law_180 ?_
  refine aw_aload_nS d_law_181 rfl ?_
  refine aw_iload_n d_law_182 rfl ?_
  refine aw_bipush (v := nI 6) d_law_183 (by decide) ?_
  refine aw_iadd d_law_185 ?_
  rw [nI_add]
  refine aw_sld d_law_186 (lw_hX nm L xs) (vp_in_nI (show i + 6 < L by omega) (by omega)) ?_
  rw [nI_clamp (by omega)]
  refine aw_i2l d_law_187 ?_
  refine aw_ldc2 (v := (4294967295 : Int64)) d_law_188 kl_La_18 ?_
  refine aw_land d_law_191 ?_
  refine aw_lor d_law_192 ?_
  refine aw_eqs (st' := [.long (lw_l (xs (i + 5)) (xs (i + 6))), .long (lw_l (xs (i + 3)) (xs (i + 4))), .int (xs (i + 2)), .int (xs (i + 1)), .ref 0]) rfl ?_
  refine aw_cV1 d_law_193 c1 mk_RC_share is_RC_share ln_La_20 rfl rfl rfl rfl (Nat.le_of_ble_eq_true rfl) (Nat.le_of_ble_eq_true rfl) hrc hrs ?_
  refine aw_aload_n d_law_196 rfl ?_
  refine aw_aload_nS d_law_197 rfl ?_
  refine aw_iload_n d_law_198 rfl ?_
  refine aw_iconst (v := nI 1) d_law_199 (by decide) ?_
  refine aw_iadd d_law_200 ?_
  rw [nI_add]
  refine aw_sld d_law_201 (lw_hX nm L xs) (vp_in_nI (show i + 1 < L by omega) (by omega)) ?_
  rw [nI_clamp (by omega)]
  refine aw_aload_nS d_law_202 rfl ?_
  refine aw_iload_n d_law_203 rfl ?_
  refine aw_iconst (v := nI 2) d_law_204 (by decide) ?_
  refine aw_iadd d_law_205 ?_
  rw [nI_add]
  refine aw_sld d_law_206 (lw_hX nm L xs) (vp_in_nI (show i + 2 < L by omega) (by omega)) ?_
  rw [nI_clamp (by omega)]
  refine aw_aload_nS d_law_207 rfl ?_
  refine aw_iload_n d_law_208 rfl ?_
  refine aw_iconst (v := nI 3) d_law_209 (by decide) ?_
  refine aw_iadd d_law_210 ?_
  rw [nI_add]
  refine aw_sld d_law_211 (lw_hX nm L xs) (vp_in_nI (show i + 3 < L by omega) (by omega)) ?_
  rw [nI_clamp (by omega)]
  refine aw_i2l d_law_212 ?_
  refine aw_bipush (v := nI 32) d_law_213 (by decide) ?_
  refine aw_lshl d_law_215 ?_
  refine aw_aload_nS d_law_216 rfl ?_
  refine aw_iload_n d_law_217 rfl ?_
  refine aw_iconst (v := nI 4) d_law_218 (by decide) ?_
  refine aw_iadd d_law_219 ?_
  rw [nI_add]
  refine aw_sld d_law_220 (lw_hX nm L xs) (vp_in_nI (show i + 4 < L by omega) (by omega)) ?_
  rw [nI_clamp (by omega)]
  refine aw_i2l d_law_221 ?_
  refine aw_ldc2 (v := (4294967295 : Int64)) d_law_222 kl_La_18 ?_
  refine aw_land d_law_225 ?_
  refine aw_lor d_law_226 ?_
  refine aw_aload_nS d_law_227 rfl ?_
  refine aw_iload_n d_law_228 rfl ?_
  refine aw_iconst (v := nI 5) d_law_229 (by decide) ?_
  refine aw_iadd d_law_230 ?_
  rw [nI_add]
  refine aw_sld d_law_231 (lw_hX nm L xs) (vp_in_nI (show i + 5 < L by omega) (by omega)) ?_
  rw [nI_clamp (by omega)]
  refine aw_i2l d_law_232 ?_
  refine aw_bipush (v := nI 32) d_law_233 (by decide) ?_
  refine aw_lshl d_law_235 ?_
  refine aw_aload_nS d_law_236 rfl ?_
  refine aw_iload_n d_law_237 rfl ?_
  refine aw_bipush (v := nI 6) d_law_238 (by decide) ?_
  refine aw_iadd d_law_240 ?_
  rw [nI_add]
  refine aw_sld d_law_241 (lw_hX nm L xs) (vp_in_nI (show i + 6 < L by omega) (by omega)) ?_
  rw [nI_clamp (by omega)]
  refine aw_i2l d_law_242 ?_
  refine aw_ldc2 (v := (4294967295 : Int64)) d_law_243 kl_La_18 ?_
  refine aw_land d_law_246 ?_
  refine aw_lor d_law_247 ?_
  refine aw_eqs (st' := [.long (lw_l (xs (i + 5)) (xs (i + 6))), .long (lw_l (xs (i + 3)) (xs (i + 4))), .int (xs (i + 2)), .int (xs (i + 1)), .ref 36, .int x]) rfl ?_
  refine aw_cV1 d_law_248 c2 mk_Mo_share is_Mo_share ln_La_24 rfl rfl rfl rfl (Nat.le_of_ble_eq_true rfl) (Nat.le_of_ble_eq_true rfl) hrc hrs ?_
  exact aw_icmp_eq (tgt := 1097) d_law_251 (by decide) (fun _ => K C1 M1 hI) (fun z => absurd rfl z)
theorem lw_c2 {nm : String} {L : Nat} {xs : Nat → Int32} (hL : L ≤ 3584) {rc rs cells slots : Nat} (hrc : cells ≤ rc) (hrs : slots ≤ rs) {Z : am_E} {z : UInt32} {i : Nat} (hi : i + 7 ≤ L) {C M : cs_S} (h : Inv C M) (K : ∀ C1 M1, Inv C1 M1 → AW (lw_M (lw_X L xs, nm)) 9 rc rs 1097 (lw_lv z i) [] (cs_w C1 ++ ms_w M1) cells slots Z) : AW (lw_M (lw_X L xs, nm)) 9 rc rs 256 (lw_lv z i) [] (cs_w C ++ ms_w M) cells slots Z := by
  obtain ⟨x, C1, M1, c1, c2, hI⟩ := s_point h (xs (i + 1)) (xs (i + 2))
  refine aw_aload_n d_law_256 rfl ?_
  refine aw_aload_nS d_law_257 rfl ?_
  refine aw_iload_n d_law_258 rfl ?_
  refine aw_iconst (v := nI 1) d_law_259 (by decide) ?_
  refine aw_iadd d_law_260 ?_
  rw [nI_add]
  refine aw_sld d_law_261 (lw_hX nm L xs) (vp_in_nI (show i + 1 < L by omega) (by omega)) ?_
  rw [nI_clamp (by omega)]
  refine aw_aload_nS d_law_262 rfl ?_
  refine aw_iload_n d_law_263 rfl ?_
  refine aw_iconst (v := nI 2) d_law_264 (by decide) ?_
  refine aw_iadd d_law_265 ?_
  rw [nI_add]
  refine aw_sld d_law_266 (lw_hX nm L xs) (vp_in_nI (show i + 2 < L by omega) (by omega)) ?_
  rw [nI_clamp (by omega)]
  refine aw_eqs (st' := [.int (xs (i + 2)), .int (xs (i + 1)), .ref 0]) rfl ?_
  refine aw_cV1 d_law_267 c1 mk_RC_point is_RC_point ln_La_25 rfl rfl rfl rfl (Nat.le_of_ble_eq_true rfl) (Nat.le_of_ble_eq_true rfl) hrc hrs ?_
  refine aw_aload_n d_law_270 rfl ?_
  refine aw_aload_nS d_law_271 rfl ?_
  refine aw_iload_n d_law_272 rfl ?_
  refine aw_iconst (v := nI 1) d_law_273 (by decide) ?_
  refine aw_iadd d_law_274 ?_
  rw [nI_add]
  refine aw_sld d_law_275 (lw_hX nm L xs) (vp_in_nI (show i + 1 < L by omega) (by omega)) ?_
  rw [nI_clamp (by omega)]
  refine aw_aload_nS d_law_276 rfl ?_
  refine aw_iload_n d_law_277 rfl ?_
  refine aw_iconst (v := nI 2) d_law_278 (by decide) ?_
  refine aw_iadd d_law_279 ?_
  rw [nI_add]
  refine aw_sld d_law_280 (lw_hX nm L xs) (vp_in_nI (show i + 2 < L by omega) (by omega)) ?_
  rw [nI_clamp (by omega)]
  refine aw_eqs (st' := [.int (xs (i + 2)), .int (xs (i + 1)), .ref 36, .int x]) rfl ?_
  refine aw_cV1 d_law_281 c2 mk_Mo_point is_Mo_point ln_La_29 rfl rfl rfl rfl (Nat.le_of_ble_eq_true rfl) (Nat.le_of_ble_eq_true rfl) hrc hrs ?_
  exact aw_icmp_eq (tgt := 1097) d_law_284 (by decide) (fun _ => K C1 M1 hI) (fun z => absurd rfl z)
theorem lw_c3 {nm : String} {L : Nat} {xs : Nat → Int32} (hL : L ≤ 3584) {rc rs cells slots : Nat} (hrc : cells ≤ rc) (hrs : slots ≤ rs) {Z : am_E} {z : UInt32} {i : Nat} (hi : i + 7 ≤ L) {C M : cs_S} (h : Inv C M) (K : ∀ C1 M1, Inv C1 M1 → AW (lw_M (lw_X L xs, nm)) 9 rc rs 1097 (lw_lv z i) [] (cs_w C1 ++ ms_w M1) cells slots Z) : AW (lw_M (lw_X L xs, nm)) 9 rc rs 289 (lw_lv z i) [] (cs_w C ++ ms_w M) cells slots Z := by
  obtain ⟨x, C1, M1, c1, c2, hI⟩ := s_average h (xs (i + 1)) (lw_l (xs (i + 2)) (xs (i + 3))) (lw_l (xs (i + 4)) (xs (i + 5)))
  refine aw_aload_n d_law_289 rfl ?_
  refine aw_aload_nS d_law_290 rfl ?_
  refine aw_iload_n d_law_291 rfl ?_
  refine aw_iconst (v := nI 1) d_law_292 (by decide) ?_
  refine aw_iadd d_law_293 ?_
  rw [nI_add]
  refine aw_sld d_law_294 (lw_hX nm L xs) (vp_in_nI (show i + 1 < L by omega) (by omega)) ?_
  rw [nI_clamp (by omega)]
  refine aw_aload_nS d_law_295 rfl ?_
  refine aw_iload_n d_law_296 rfl ?_
  refine aw_iconst (v := nI 2) d_law_297 (by decide) ?_
  refine aw_iadd d_law_298 ?_
  rw [nI_add]
  refine aw_sld d_law_299 (lw_hX nm L xs) (vp_in_nI (show i + 2 < L by omega) (by omega)) ?_
  rw [nI_clamp (by omega)]
  refine aw_i2l d_law_300 ?_
  refine aw_bipush (v := nI 32) d_law_301 (by decide) ?_
  refine aw_lshl d_law_303 ?_
  refine aw_aload_nS d_law_304 rfl ?_
  refine aw_iload_n d_law_305 rfl ?_
  refine aw_iconst (v := nI 3) d_law_306 (by decide) ?_
  refine aw_iadd d_law_307 ?_
  rw [nI_add]
  refine aw_sld d_law_308 (lw_hX nm L xs) (vp_in_nI (show i + 3 < L by omega) (by omega)) ?_
  rw [nI_clamp (by omega)]
  refine aw_i2l d_law_309 ?_
  refine aw_ldc2 (v := (4294967295 : Int64)) d_law_310 kl_La_18 ?_
  refine aw_land d_law_313 ?_
  refine aw_lor d_law_314 ?_
  refine aw_aload_nS d_law_315 rfl ?_
  refine aw_iload_n d_law_316 rfl ?_
  refine aw_iconst (v := nI 4) d_law_317 (by decide) ?_
  refine aw_iadd d_law_318 ?_
  rw [nI_add]
  refine aw_sld d_law_319 (lw_hX nm L xs) (vp_in_nI (show i + 4 < L by omega) (by omega)) ?_
  rw [nI_clamp (by omega)]
  refine aw_i2l d_law_320 ?_
  refine aw_bipush (v := nI 32) d_law_321 (by decide) ?_
  refine aw_lshl d_law_323 ?_
  refine aw_aload_nS d_law_324 rfl ?_
  refine aw_iload_n d_law_325 rfl ?_
  refine aw_iconst (v := nI 5) d_law_326 (by decide) ?_
  refine aw_iadd d_law_327 ?_
  rw [nI_add]
  refine aw_sld d_law_328 (lw_hX nm L xs) (vp_in_nI (show i + 5 < L by omega) (by omega)) ?_
  rw [nI_clamp (by omega)]
  refine aw_i2l d_law_329 ?_
  refine aw_ldc2 (v := (4294967295 : Int64)) d_law_330 kl_La_18 ?_
  refine aw_land d_law_333 ?_
  refine aw_lor d_law_334 ?_
  refine aw_eqs (st' := [.long (lw_l (xs (i + 4)) (xs (i + 5))), .long (lw_l (xs (i + 2)) (xs (i + 3))), .int (xs (i + 1)), .ref 0]) rfl ?_
  refine aw_cV1 d_law_335 c1 mk_RC_average is_RC_average ln_La_30 rfl rfl rfl rfl (Nat.le_of_ble_eq_true rfl) (Nat.le_of_ble_eq_true rfl) hrc hrs ?_
  refine aw_aload_n d_law_338 rfl ?_
  refine aw_aload_nS d_law_339 rfl ?_
  refine aw_iload_n d_law_340 rfl ?_
  refine aw_iconst (v := nI 1) d_law_341 (by decide) ?_
  refine aw_iadd d_law_342 ?_
  rw [nI_add]
  refine aw_sld d_law_343 (lw_hX nm L xs) (vp_in_nI (show i + 1 < L by omega) (by omega)) ?_
  rw [nI_clamp (by omega)]
  refine aw_aload_nS d_law_344 rfl ?_
  refine aw_iload_n d_law_345 rfl ?_
  refine aw_iconst (v := nI 2) d_law_346 (by decide) ?_
  refine aw_iadd d_law_347 ?_
  rw [nI_add]
  refine aw_sld d_law_348 (lw_hX nm L xs) (vp_in_nI (show i + 2 < L by omega) (by omega)) ?_
  rw [nI_clamp (by omega)]
  refine aw_i2l d_law_349 ?_
  refine aw_bipush (v := nI 32) d_law_350 (by decide) ?_
  refine aw_lshl d_law_352 ?_
  refine aw_aload_nS d_law_353 rfl ?_
  refine aw_iload_n d_law_354 rfl ?_
  refine aw_iconst (v := nI 3) d_law_355 (by decide) ?_
  refine aw_iadd d_law_356 ?_
  rw [nI_add]
  refine aw_sld d_law_357 (lw_hX nm L xs) (vp_in_nI (show i + 3 < L by omega) (by omega)) ?_
  rw [nI_clamp (by omega)]
  refine aw_i2l d_law_358 ?_
  refine aw_ldc2 (v := (4294967295 : Int64)) d_law_359 kl_La_18 ?_
  refine aw_land d_law_362 ?_
  refine aw_lor d_law_363 ?_
  refine aw_aload_nS d_law_364 rfl ?_
  refine aw_iload_n d_law_365 rfl ?_
  refine aw_iconst (v := nI 4) d_law_366 (by decide) ?_
  refine aw_iadd d_law_367 ?_
  rw [nI_add]
  refine aw_sld d_law_368 (lw_hX nm L xs) (vp_in_nI (show i + 4 < L by omega) (by omega)) ?_
  rw [nI_clamp (by omega)]
  refine aw_i2l d_law_369 ?_
  refine aw_bipush (v := nI 32) d_law_370 (by decide) ?_
  refine aw_lshl d_law_372 ?_
  refine aw_aload_nS d_law_373 rfl ?_
  refine aw_iload_n d_law_374 rfl ?_
  refine aw_iconst (v := nI 5) d_law_375 (by decide) ?_
  refine aw_iadd d_law_376 ?_
  rw [nI_add]
  refine aw_sld d_law_377 (lw_hX nm L xs) (vp_in_nI (show i + 5 < L by omega) (by omega)) ?_
  rw [nI_clamp (by omega)]
  refine aw_i2l d_law_378 ?_
  refine aw_ldc2 (v := (4294967295 : Int64)) d_law_379 kl_La_18 ?_
  refine aw_land d_law_382 ?_
  refine aw_lor d_law_383 ?_
  refine aw_eqs (st' := [.long (lw_l (xs (i + 4)) (xs (i + 5))), .long (lw_l (xs (i + 2)) (xs (i + 3))), .int (xs (i + 1)), .ref 36, .int x]) rfl ?_
  refine aw_cV1 d_law_384 c2 mk_Mo_average is_Mo_average ln_La_34 rfl rfl rfl rfl (Nat.le_of_ble_eq_true rfl) (Nat.le_of_ble_eq_true rfl) hrc hrs ?_
  exact aw_icmp_eq (tgt := 1097) d_law_387 (by decide) (fun _ => K C1 M1 hI) (fun z => absurd rfl z)
theorem lw_c4 {nm : String} {L : Nat} {xs : Nat → Int32} (hL : L ≤ 3584) {rc rs cells slots : Nat} (hrc : cells ≤ rc) (hrs : slots ≤ rs) {Z : am_E} {z : UInt32} {i : Nat} (hi : i + 7 ≤ L) {C M : cs_S} (h : Inv C M) (K : ∀ C1 M1, Inv C1 M1 → AW (lw_M (lw_X L xs, nm)) 9 rc rs 1097 (lw_lv z i) [] (cs_w C1 ++ ms_w M1) cells slots Z) : AW (lw_M (lw_X L xs, nm)) 9 rc rs 392 (lw_lv z i) [] (cs_w C ++ ms_w M) cells slots Z := by
  obtain ⟨x, C1, M1, c1, c2, hI⟩ := s_feed h (xs (i + 1)) (xs (i + 2)) (lw_l (xs (i + 3)) (xs (i + 4))) (xs (i + 5)) (xs (i + 6))
  refine aw_aload_n d_law_392 rfl ?_
  refine aw_aload_nS d_law_393 rfl ?_
  refine aw_iload_n d_law_394 rfl ?_
  refine aw_iconst (v := nI 1) d_law_395 (by decide) ?_
  refine aw_iadd d_law_396 ?_
  rw [nI_add]
  refine aw_sld d_law_397 (lw_hX nm L xs) (vp_in_nI (show i + 1 < L by omega) (by omega)) ?_
  rw [nI_clamp (by omega)]
  refine aw_aload_nS d_law_398 rfl ?_
  refine aw_iload_n d_law_399 rfl ?_
  refine aw_iconst (v := nI 2) d_law_400 (by decide) ?_
  refine aw_iadd d_law_401 ?_
  rw [nI_add]
  refine aw_sld d_law_402 (lw_hX nm L xs) (vp_in_nI (show i + 2 < L by omega) (by omega)) ?_
  rw [nI_clamp (by omega)]
  refine aw_aload_nS d_law_403 rfl ?_
  refine aw_iload_n d_law_404 rfl ?_
  refine aw_iconst (v := nI 3) d_law_405 (by decide) ?_
  refine aw_iadd d_law_406 ?_
  rw [nI_add]
  refine aw_sld d_law_407 (lw_hX nm L xs) (vp_in_nI (show i + 3 < L by omega) (by omega)) ?_
  rw [nI_clamp (by omega)]
  refine aw_i2l d_law_408 ?_
  refine aw_bipush (v := nI 32) d_law_409 (by decide) ?_
  refine aw_lshl d_law_411 ?_
  refine aw_aload_nS d_law_412 rfl ?_
  refine aw_iload_n d_law_413 rfl ?_
  refine aw_iconst (v := nI 4) d_law_414 (by decide) ?_
  refine aw_iadd d_law_415 ?_
  rw [nI_add]
  refine aw_sld d_law_416 (lw_hX nm L xs) (vp_in_nI (show i + 4 < L by omega) (by omega)) ?_
  rw [nI_clamp (by omega)]
  refine aw_i2l d_law_417 ?_
  refine aw_ldc2 (v := (4294967295 : Int64)) d_law_418 kl_La_18 ?_
  refine aw_land d_law_421 ?_
  refine aw_lor d_law_422 ?_
  refine aw_aload_nS d_law_423 rfl ?_
  refine aw_iload_n d_law_424 rfl ?_
  refine aw_iconst (v := nI 5) d_law_425 (by decide) ?_
  refine aw_iadd d_law_426 ?_
  rw [nI_add]
  refine aw_sld d_law_427 (lw_hX nm L xs) (vp_in_nI (show i + 5 < L by omega) (by omega)) ?_
  rw [nI_clamp (by omega)]
  refine aw_aload_nS d_law_428 rfl ?_
  refine aw_iload_n d_law_429 rfl ?_
  refine aw_bipush (v := nI 6) d_law_430 (by decide) ?_
  refine aw_iadd d_law_432 ?_
  rw [nI_add]
  refine aw_sld d_law_433 (lw_hX nm L xs) (vp_in_nI (show i + 6 < L by omega) (by omega)) ?_
  rw [nI_clamp (by omega)]
  refine aw_eqs (st' := [.int (xs (i + 6)), .int (xs (i + 5)), .long (lw_l (xs (i + 3)) (xs (i + 4))), .int (xs (i + 2)), .int (xs (i + 1)), .ref 0]) rfl ?_
  refine aw_cV1 d_law_434 c1 mk_RC_feed is_RC_feed ln_La_35 rfl rfl rfl rfl (Nat.le_of_ble_eq_true rfl) (Nat.le_of_ble_eq_true rfl) hrc hrs ?_
  refine aw_aload_n d_law_437 rfl ?_
  refine aw_aload_nS d_law_438 rfl ?_
  refine aw_iload_n d_law_439 rfl ?_
  refine aw_iconst (v := nI 1) d_law_440 (by decide) ?_
  refine aw_iadd d_law_441 ?_
  rw [nI_add]
  refine aw_sld d_law_442 (lw_hX nm L xs) (vp_in_nI (show i + 1 < L by omega) (by omega)) ?_
  rw [nI_clamp (by omega)]
  refine aw_aload_nS d_law_443 rfl ?_
  refine aw_iload_n d_law_444 rfl ?_
  refine aw_iconst (v := nI 2) d_law_445 (by decide) ?_
  refine aw_iadd d_law_446 ?_
  rw [nI_add]
  refine aw_sld d_law_447 (lw_hX nm L xs) (vp_in_nI (show i + 2 < L by omega) (by omega)) ?_
  rw [nI_clamp (by omega)]
  refine aw_aload_nS d_law_448 rfl ?_
  refine aw_iload_n d_law_449 rfl ?_
  refine aw_iconst (v := nI 3) d_law_450 (by decide) ?_
  refine aw_iadd d_law_451 ?_
  rw [nI_add]
  refine aw_sld d_law_452 (lw_hX nm L xs) (vp_in_nI (show i + 3 < L by omega) (by omega)) ?_
  rw [nI_clamp (by omega)]
  refine aw_i2l d_law_453 ?_
  refine aw_bipush (v := nI 32) d_law_454 (by decide) ?_
  refine aw_lshl d_law_456 ?_
  refine aw_aload_nS d_law_457 rfl ?_
  refine aw_iload_n d_law_458 rfl ?_
  refine aw_iconst (v := nI 4) d_law_459 (by decide) ?_
  refine aw_iadd d_law_460 ?_
  rw [nI_add]
  refine aw_sld d_law_461 (lw_hX nm L xs) (vp_in_nI (show i + 4 < L by omega) (by omega)) ?_
  rw [nI_clamp (by omega)]
  refine aw_i2l d_law_462 ?_
  refine aw_ldc2 (v := (4294967295 : Int64)) d_law_463 kl_La_18 ?_
  refine aw_land d_law_466 ?_
  refine aw_lor d_law_467 ?_
  refine aw_aload_nS d_law_468 rfl ?_
  refine aw_iload_n d_law_469 rfl ?_
  refine aw_iconst (v := nI 5) d_law_470 (by decide) ?_
  refine aw_iadd d_law_471 ?_
  rw [nI_add]
  refine aw_sld d_law_472 (lw_hX nm L xs) (vp_in_nI (show i + 5 < L by omega) (by omega)) ?_
  rw [nI_clamp (by omega)]
  refine aw_aload_nS d_law_473 rfl ?_
  refine aw_iload_n d_law_474 rfl ?_
  refine aw_bipush (v := nI 6) d_law_475 (by decide) ?_
  refine aw_iadd d_law_477 ?_
  rw [nI_add]
  refine aw_sld d_law_478 (lw_hX nm L xs) (vp_in_nI (show i + 6 < L by omega) (by omega)) ?_
  rw [nI_clamp (by omega)]
  refine aw_eqs (st' := [.int (xs (i + 6)), .int (xs (i + 5)), .long (lw_l (xs (i + 3)) (xs (i + 4))), .int (xs (i + 2)), .int (xs (i + 1)), .ref 36, .int x]) rfl ?_
  refine aw_cV1 d_law_479 c2 mk_Mo_feed is_Mo_feed ln_La_39 rfl rfl rfl rfl (Nat.le_of_ble_eq_true rfl) (Nat.le_of_ble_eq_true rfl) hrc hrs ?_
  exact aw_icmp_eq (tgt := 1097) d_law_482 (by decide) (fun _ => K C1 M1 hI) (fun z => absurd rfl z)
theorem lw_c5 {nm : String} {L : Nat} {xs : Nat → Int32} (hL : L ≤ 3584) {rc rs cells slots : Nat} (hrc : cells ≤ rc) (hrs : slots ≤ rs) {Z : am_E} {z : UInt32} {i : Nat} (hi : i + 7 ≤ L) {C M : cs_S} (h : Inv C M) (K : ∀ C1 M1, Inv C1 M1 → AW (lw_M (lw_X L xs, nm)) 9 rc rs 1097 (lw_lv z i) [] (cs_w C1 ++ ms_w M1) cells slots Z) : AW (lw_M (lw_X L xs, nm)) 9 rc rs 487 (lw_lv z i) [] (cs_w C ++ ms_w M) cells slots Z := by
  obtain ⟨x, C1, M1, c1, c2, hI⟩ := s_metals h (xs (i + 1)) (lw_l (xs (i + 2)) (xs (i + 3)))
  refine aw_aload_n d_law_487 rfl ?_
  refine aw_aload_nS d_law_488 rfl ?_
  refine aw_iload_n d_law_489 rfl ?_
  refine aw_iconst (v := nI 1) d_law_490 (by decide) ?_
  refine aw_iadd d_law_491 ?_
  rw [nI_add]
  refine aw_sld d_law_492 (lw_hX nm L xs) (vp_in_nI (show i + 1 < L by omega) (by omega)) ?_
  rw [nI_clamp (by omega)]
  refine aw_aload_nS d_law_493 rfl ?_
  refine aw_iload_n d_law_494 rfl ?_
  refine aw_iconst (v := nI 2) d_law_495 (by decide) ?_
  refine aw_iadd d_law_496 ?_
  rw [nI_add]
  refine aw_sld d_law_497 (lw_hX nm L xs) (vp_in_nI (show i + 2 < L by omega) (by omega)) ?_
  rw [nI_clamp (by omega)]
  refine aw_i2l d_law_498 ?_
  refine aw_bipush (v := nI 32) d_law_499 (by decide) ?_
  refine aw_lshl d_law_501 ?_
  refine aw_aload_nS d_law_502 rfl ?_
  refine aw_iload_n d_law_503 rfl ?_
  refine aw_iconst (v := nI 3) d_law_504 (by decide) ?_
  refine aw_iadd d_law_505 ?_
  rw [nI_add]
  refine aw_sld d_law_506 (lw_hX nm L xs) (vp_in_nI (show i + 3 < L by omega) (by omega)) ?_
  rw [nI_clamp (by omega)]
  refine aw_i2l d_law_507 ?_
  refine aw_ldc2 (v := (4294967295 : Int64)) d_law_508 kl_La_18 ?_
  refine aw_land d_law_511 ?_
  refine aw_lor d_law_512 ?_
  refine aw_eqs (st' := [.long (lw_l (xs (i + 2)) (xs (i + 3))), .int (xs (i + 1)), .ref 0]) rfl ?_
  refine aw_cV1 d_law_513 c1 mk_RC_metals is_RC_metals ln_La_40 rfl rfl rfl rfl (Nat.le_of_ble_eq_true rfl) (Nat.le_of_ble_eq_true rfl) hrc hrs ?_
  refine aw_aload_n d_law_516 rfl ?_
  refine aw_aload_nS d_law_517 rfl ?_
  refine aw_iload_n d_law_518 rfl ?_
  refine aw_iconst (v := nI 1) d_law_519 (by decide) ?_
  refine aw_iadd d_law_520 ?_
  rw [nI_add]
  refine aw_sld d_law_521 (lw_hX nm L xs) (vp_in_nI (show i + 1 < L by omega) (by omega)) ?_
  rw [nI_clamp (by omega)]
  refine aw_aload_nS d_law_522 rfl ?_
  refine aw_iload_n d_law_523 rfl ?_
  refine aw_iconst (v := nI 2) d_law_524 (by decide) ?_
  refine aw_iadd d_law_525 ?_
  rw [nI_add]
  refine aw_sld d_law_526 (lw_hX nm L xs) (vp_in_nI (show i + 2 < L by omega) (by omega)) ?_
  rw [nI_clamp (by omega)]
  refine aw_i2l d_law_527 ?_
  refine aw_bipush (v := nI 32) d_law_528 (by decide) ?_
  refine aw_lshl d_law_530 ?_
  refine aw_aload_nS d_law_531 rfl ?_
  refine aw_iload_n d_law_532 rfl ?_
  refine aw_iconst (v := nI 3) d_law_533 (by decide) ?_
  refine aw_iadd d_law_534 ?_
  rw [nI_add]
  refine aw_sld d_law_535 (lw_hX nm L xs) (vp_in_nI (show i + 3 < L by omega) (by omega)) ?_
  rw [nI_clamp (by omega)]
  refine aw_i2l d_law_536 ?_
  refine aw_ldc2 (v := (4294967295 : Int64)) d_law_537 kl_La_18 ?_
  refine aw_land d_law_540 ?_
  refine aw_lor d_law_541 ?_
  refine aw_eqs (st' := [.long (lw_l (xs (i + 2)) (xs (i + 3))), .int (xs (i + 1)), .ref 36, .int x]) rfl ?_
  refine aw_cV1 d_law_542 c2 mk_Mo_metals is_Mo_metals ln_La_44 rfl rfl rfl rfl (Nat.le_of_ble_eq_true rfl) (Nat.le_of_ble_eq_true rfl) hrc hrs ?_
  exact aw_icmp_eq (tgt := 1097) d_law_545 (by decide) (fun _ => K C1 M1 hI) (fun z => absurd rfl z)
theorem lw_c6 {nm : String} {L : Nat} {xs : Nat → Int32} (hL : L ≤ 3584) {rc rs cells slots : Nat} (hrc : cells ≤ rc) (hrs : slots ≤ rs) {Z : am_E} {z : UInt32} {i : Nat} (hi : i + 7 ≤ L) {C M : cs_S} (h : Inv C M) (K : ∀ C1 M1, Inv C1 M1 → AW (lw_M (lw_X L xs, nm)) 9 rc rs 1097 (lw_lv z i) [] (cs_w C1 ++ ms_w M1) cells slots Z) : AW (lw_M (lw_X L xs, nm)) 9 rc rs 550 (lw_lv z i) [] (cs_w C ++ ms_w M) cells slots Z := by
  obtain ⟨x, C1, M1, c1, c2, hI⟩ := s_placed h (xs (i + 1)) (xs (i + 2)) (lw_l (xs (i + 3)) (xs (i + 4)))
  refine aw_aload_n d_law_550 rfl ?_
  refine aw_aload_nS d_law_551 rfl ?_
  refine aw_iload_n d_law_552 rfl ?_
  refine aw_iconst (v := nI 1) d_law_553 (by decide) ?_
  refine aw_iadd d_law_554 ?_
  rw [nI_add]
  refine aw_sld d_law_555 (lw_hX nm L xs) (vp_in_nI (show i + 1 < L by omega) (by omega)) ?_
  rw [nI_clamp (by omega)]
  refine aw_aload_nS d_law_556 rfl ?_
  refine aw_iload_n d_law_557 rfl ?_
  refine aw_iconst (v := nI 2) d_law_558 (by decide) ?_
  refine aw_iadd d_law_559 ?_
  rw [nI_add]
  refine aw_sld d_law_560 (lw_hX nm L xs) (vp_in_nI (show i + 2 < L by omega) (by omega)) ?_
  rw [nI_clamp (by omega)]
  refine aw_aload_nS d_law_561 rfl ?_
  refine aw_iload_n d_law_562 rfl ?_
  refine aw_iconst (v := nI 3) d_law_563 (by decide) ?_
  refine aw_iadd d_law_564 ?_
  rw [nI_add]
  refine aw_sld d_law_565 (lw_hX nm L xs) (vp_in_nI (show i + 3 < L by omega) (by omega)) ?_
  rw [nI_clamp (by omega)]
  refine aw_i2l d_law_566 ?_
  refine aw_bipush (v := nI 32) d_law_567 (by decide) ?_
  refine aw_lshl d_law_569 ?_
  refine aw_aload_nS d_law_570 rfl ?_
  refine aw_iload_n d_law_571 rfl ?_
  refine aw_iconst (v := nI 4) d_law_572 (by decide) ?_
  refine aw_iadd d_law_573 ?_
  rw [nI_add]
  refine aw_sld d_law_574 (lw_hX nm L xs) (vp_in_nI (show i + 4 < L by omega) (by omega)) ?_
  rw [nI_clamp (by omega)]
  refine aw_i2l d_law_575 ?_
  refine aw_ldc2 (v := (4294967295 : Int64)) d_law_576 kl_La_18 ?_
  refine aw_land d_law_579 ?_
  refine aw_lor d_law_580 ?_
  refine aw_eqs (st' := [.long (lw_l (xs (i + 3)) (xs (i + 4))), .int (xs (i + 2)), .int (xs (i + 1)), .ref 0]) rfl ?_
  refine aw_cV1 d_law_581 c1 mk_RC_placed is_RC_placed ln_La_45 rfl rfl rfl rfl (Nat.le_of_ble_eq_true rfl) (Nat.le_of_ble_eq_true rfl) hrc hrs ?_
  refine aw_aload_n d_law_584 rfl ?_
  refine aw_aload_nS d_law_585 rfl ?_
  refine aw_iload_n d_law_586 rfl ?_
  refine aw_iconst (v := nI 1) d_law_587 (by decide) ?_
  refine aw_iadd d_law_588 ?_
  rw [nI_add]
  refine aw_sld d_law_589 (lw_hX nm L xs) (vp_in_nI (show i + 1 < L by omega) (by omega)) ?_
  rw [nI_clamp (by omega)]
  refine aw_aload_nS d_law_590 rfl ?_
  refine aw_iload_n d_law_591 rfl ?_
  refine aw_iconst (v := nI 2) d_law_592 (by decide) ?_
  refine aw_iadd d_law_593 ?_
  rw [nI_add]
  refine aw_sld d_law_594 (lw_hX nm L xs) (vp_in_nI (show i + 2 < L by omega) (by omega)) ?_
  rw [nI_clamp (by omega)]
  refine aw_aload_nS d_law_595 rfl ?_
  refine aw_iload_n d_law_596 rfl ?_
  refine aw_iconst (v := nI 3) d_law_597 (by decide) ?_
  refine aw_iadd d_law_598 ?_
  rw [nI_add]
  refine aw_sld d_law_599 (lw_hX nm L xs) (vp_in_nI (show i + 3 < L by omega) (by omega)) ?_
  rw [nI_clamp (by omega)]
  refine aw_i2l d_law_600 ?_
  refine aw_bipush (v := nI 32) d_law_601 (by decide) ?_
  refine aw_lshl d_law_603 ?_
  refine aw_aload_nS d_law_604 rfl ?_
  refine aw_iload_n d_law_605 rfl ?_
  refine aw_iconst (v := nI 4) d_law_606 (by decide) ?_
  refine aw_iadd d_law_607 ?_
  rw [nI_add]
  refine aw_sld d_law_608 (lw_hX nm L xs) (vp_in_nI (show i + 4 < L by omega) (by omega)) ?_
  rw [nI_clamp (by omega)]
  refine aw_i2l d_law_609 ?_
  refine aw_ldc2 (v := (4294967295 : Int64)) d_law_610 kl_La_18 ?_
  refine aw_land d_law_613 ?_
  refine aw_lor d_law_614 ?_
  refine aw_eqs (st' := [.long (lw_l (xs (i + 3)) (xs (i + 4))), .int (xs (i + 2)), .int (xs (i + 1)), .ref 36, .int x]) rfl ?_
  refine aw_cV1 d_law_615 c2 mk_Mo_placed is_Mo_placed ln_La_49 rfl rfl rfl rfl (Nat.le_of_ble_eq_true rfl) (Nat.le_of_ble_eq_true rfl) hrc hrs ?_
  exact aw_icmp_eq (tgt := 1097) d_law_618 (by decide) (fun _ => K C1 M1 hI) (fun z => absurd rfl z)
theorem lw_c7 {nm : String} {L : Nat} {xs : Nat → Int32} (hL : L ≤ 3584) {rc rs cells slots : Nat} (hrc : cells ≤ rc) (hrs : slots ≤ rs) {Z : am_E} {z : UInt32} {i : Nat} (hi : i + 7 ≤ L) {C M : cs_S} (h : Inv C M) (K : ∀ C1 M1, Inv C1 M1 → AW (lw_M (lw_X L xs, nm)) 9 rc rs 1097 (lw_lv z i) [] (cs_w C1 ++ ms_w M1) cells slots Z) : AW (lw_M (lw_X L xs, nm)) 9 rc rs 623 (lw_lv z i) [] (cs_w C ++ ms_w M) cells slots Z := by
  obtain ⟨x, C1, M1, c1, c2, hI⟩ := s_solve h
  refine aw_aload_n d_law_623 rfl ?_
  refine aw_cV1 d_law_624 c1 mk_RC_solve is_RC_solve ln_La_50 rfl rfl rfl rfl (Nat.le_of_ble_eq_true rfl) (Nat.le_of_ble_eq_true rfl) hrc hrs ?_
  refine aw_aload_n d_law_627 rfl ?_
  refine aw_cV1 d_law_628 c2 mk_Mo_solve is_Mo_solve ln_La_53 rfl rfl rfl rfl (Nat.le_of_ble_eq_true rfl) (Nat.le_of_ble_eq_true rfl) hrc hrs ?_
  exact aw_icmp_eq (tgt := 1097) d_law_631 (by decide) (fun _ => K C1 M1 hI) (fun z => absurd rfl z)
theorem lw_c8 {nm : String} {L : Nat} {xs : Nat → Int32} (hL : L ≤ 3584) {rc rs cells slots : Nat} (hrc : cells ≤ rc) (hrs : slots ≤ rs) {Z : am_E} {z : UInt32} {i : Nat} (hi : i + 7 ≤ L) {C M : cs_S} (h : Inv C M) (K : ∀ C1 M1, Inv C1 M1 → AW (lw_M (lw_X L xs, nm)) 9 rc rs 1097 (lw_lv z i) [] (cs_w C1 ++ ms_w M1) cells slots Z) : AW (lw_M (lw_X L xs, nm)) 9 rc rs 636 (lw_lv z i) [] (cs_w C ++ ms_w M) cells slots Z := by
  obtain ⟨x, C1, M1, c1, c2, hI⟩ := s_counted h (xs (i + 1)) (xs (i + 2)) (xs (i + 3))
  refine aw_aload_n d_law_636 rfl ?_
  refine aw_aload_nS d_law_637 rfl ?_
  refine aw_iload_n d_law_638 rfl ?_
  refine aw_iconst (v := nI 1) d_law_639 (by decide) ?_
  refine aw_iadd d_law_640 ?_
  rw [nI_add]
  refine aw_sld d_law_641 (lw_hX nm L xs) (vp_in_nI (show i + 1 < L by omega) (by omega)) ?_
  rw [nI_clamp (by omega)]
  refine aw_aload_nS d_law_642 rfl ?_
  refine aw_iload_n d_law_643 rfl ?_
  refine aw_iconst (v := nI 2) d_law_644 (by decide) ?_
  refine aw_iadd d_law_645 ?_
  rw [nI_add]
  refine aw_sld d_law_646 (lw_hX nm L xs) (vp_in_nI (show i + 2 < L by omega) (by omega)) ?_
  rw [nI_clamp (by omega)]
  refine aw_aload_nS d_law_647 rfl ?_
  refine aw_iload_n d_law_648 rfl ?_
  refine aw_iconst (v := nI 3) d_law_649 (by decide) ?_
  refine aw_iadd d_law_650 ?_
  rw [nI_add]
  refine aw_sld d_law_651 (lw_hX nm L xs) (vp_in_nI (show i + 3 < L by omega) (by omega)) ?_
  rw [nI_clamp (by omega)]
  refine aw_eqs (st' := [.int (xs (i + 3)), .int (xs (i + 2)), .int (xs (i + 1)), .ref 0]) rfl ?_
  refine aw_cV1 d_law_652 c1 mk_RC_counted is_RC_counted ln_La_54 rfl rfl rfl rfl (Nat.le_of_ble_eq_true rfl) (Nat.le_of_ble_eq_true rfl) hrc hrs ?_
  refine aw_aload_n d_law_655 rfl ?_
  refine aw_aload_nS d_law_656 rfl ?_
  refine aw_iload_n d_law_657 rfl ?_
  refine aw_iconst (v := nI 1) d_law_658 (by decide) ?_
  refine aw_iadd d_law_659 ?_
  rw [nI_add]
  refine aw_sld d_law_660 (lw_hX nm L xs) (vp_in_nI (show i + 1 < L by omega) (by omega)) ?_
  rw [nI_clamp (by omega)]
  refine aw_aload_nS d_law_661 rfl ?_
  refine aw_iload_n d_law_662 rfl ?_
  refine aw_iconst (v := nI 2) d_law_663 (by decide) ?_
  refine aw_iadd d_law_664 ?_
  rw [nI_add]
  refine aw_sld d_law_665 (lw_hX nm L xs) (vp_in_nI (show i + 2 < L by omega) (by omega)) ?_
  rw [nI_clamp (by omega)]
  refine aw_aload_nS d_law_666 rfl ?_
  refine aw_iload_n d_law_667 rfl ?_
  refine aw_iconst (v := nI 3) d_law_668 (by decide) ?_
  refine aw_iadd d_law_669 ?_
  rw [nI_add]
  refine aw_sld d_law_670 (lw_hX nm L xs) (vp_in_nI (show i + 3 < L by omega) (by omega)) ?_
  rw [nI_clamp (by omega)]
  refine aw_eqs (st' := [.int (xs (i + 3)), .int (xs (i + 2)), .int (xs (i + 1)), .ref 36, .long x]) rfl ?_
  refine aw_cV1 d_law_671 c2 mk_Mo_counted is_Mo_counted ln_La_58 rfl rfl rfl rfl (Nat.le_of_ble_eq_true rfl) (Nat.le_of_ble_eq_true rfl) hrc hrs ?_
  exact aw_lc_eq (tgt := 1097) d_law_674 d_law_675 (by decide) (fun _ => K C1 M1 hI) (fun z => absurd rfl z)
theorem lw_c9 {nm : String} {L : Nat} {xs : Nat → Int32} (hL : L ≤ 3584) {rc rs cells slots : Nat} (hrc : cells ≤ rc) (hrs : slots ≤ rs) {Z : am_E} {z : UInt32} {i : Nat} (hi : i + 7 ≤ L) {C M : cs_S} (h : Inv C M) (K : ∀ C1 M1, Inv C1 M1 → AW (lw_M (lw_X L xs, nm)) 9 rc rs 1097 (lw_lv z i) [] (cs_w C1 ++ ms_w M1) cells slots Z) : AW (lw_M (lw_X L xs, nm)) 9 rc rs 680 (lw_lv z i) [] (cs_w C ++ ms_w M) cells slots Z := by
  obtain ⟨x, C1, M1, c1, c2, hI⟩ := s_rate h (xs (i + 1)) (xs (i + 2)) (xs (i + 3))
  refine aw_aload_n d_law_680 rfl ?_
  refine aw_aload_nS d_law_681 rfl ?_
  refine aw_iload_n d_law_682 rfl ?_
  refine aw_iconst (v := nI 1) d_law_683 (by decide) ?_
  refine aw_iadd d_law_684 ?_
  rw [nI_add]
  refine aw_sld d_law_685 (lw_hX nm L xs) (vp_in_nI (show i + 1 < L by omega) (by omega)) ?_
  rw [nI_clamp (by omega)]
  refine aw_aload_nS d_law_686 rfl ?_
  refine aw_iload_n d_law_687 rfl ?_
  refine aw_iconst (v := nI 2) d_law_688 (by decide) ?_
  refine aw_iadd d_law_689 ?_
  rw [nI_add]
  refine aw_sld d_law_690 (lw_hX nm L xs) (vp_in_nI (show i + 2 < L by omega) (by omega)) ?_
  rw [nI_clamp (by omega)]
  refine aw_aload_nS d_law_691 rfl ?_
  refine aw_iload_n d_law_692 rfl ?_
  refine aw_iconst (v := nI 3) d_law_693 (by decide) ?_
  refine aw_iadd d_law_694 ?_
  rw [nI_add]
  refine aw_sld d_law_695 (lw_hX nm L xs) (vp_in_nI (show i + 3 < L by omega) (by omega)) ?_
  rw [nI_clamp (by omega)]
  refine aw_eqs (st' := [.int (xs (i + 3)), .int (xs (i + 2)), .int (xs (i + 1)), .ref 0]) rfl ?_
  refine aw_cV1 d_law_696 c1 mk_RC_rate is_RC_rate ln_La_59 rfl rfl rfl rfl (Nat.le_of_ble_eq_true rfl) (Nat.le_of_ble_eq_true rfl) hrc hrs ?_
  refine aw_aload_n d_law_699 rfl ?_
  refine aw_aload_nS d_law_700 rfl ?_
  refine aw_iload_n d_law_701 rfl ?_
  refine aw_iconst (v := nI 1) d_law_702 (by decide) ?_
  refine aw_iadd d_law_703 ?_
  rw [nI_add]
  refine aw_sld d_law_704 (lw_hX nm L xs) (vp_in_nI (show i + 1 < L by omega) (by omega)) ?_
  rw [nI_clamp (by omega)]
  refine aw_aload_nS d_law_705 rfl ?_
  refine aw_iload_n d_law_706 rfl ?_
  refine aw_iconst (v := nI 2) d_law_707 (by decide) ?_
  refine aw_iadd d_law_708 ?_
  rw [nI_add]
  refine aw_sld d_law_709 (lw_hX nm L xs) (vp_in_nI (show i + 2 < L by omega) (by omega)) ?_
  rw [nI_clamp (by omega)]
  refine aw_aload_nS d_law_710 rfl ?_
  refine aw_iload_n d_law_711 rfl ?_
  refine aw_iconst (v := nI 3) d_law_712 (by decide) ?_
  refine aw_iadd d_law_713 ?_
  rw [nI_add]
  refine aw_sld d_law_714 (lw_hX nm L xs) (vp_in_nI (show i + 3 < L by omega) (by omega)) ?_
  rw [nI_clamp (by omega)]
  refine aw_eqs (st' := [.int (xs (i + 3)), .int (xs (i + 2)), .int (xs (i + 1)), .ref 36, .long x]) rfl ?_
  refine aw_cV1 d_law_715 c2 mk_Mo_rate is_Mo_rate ln_La_62 rfl rfl rfl rfl (Nat.le_of_ble_eq_true rfl) (Nat.le_of_ble_eq_true rfl) hrc hrs ?_
  exact aw_lc_eq (tgt := 1097) d_law_718 d_law_719 (by decide) (fun _ => K C1 M1 hI) (fun z => absurd rfl z)
theorem lw_c10 {nm : String} {L : Nat} {xs : Nat → Int32} (hL : L ≤ 3584) {rc rs cells slots : Nat} (hrc : cells ≤ rc) (hrs : slots ≤ rs) {Z : am_E} {z : UInt32} {i : Nat} (hi : i + 7 ≤ L) {C M : cs_S} (h : Inv C M) (K : ∀ C1 M1, Inv C1 M1 → AW (lw_M (lw_X L xs, nm)) 9 rc rs 1097 (lw_lv z i) [] (cs_w C1 ++ ms_w M1) cells slots Z) : AW (lw_M (lw_X L xs, nm)) 9 rc rs 724 (lw_lv z i) [] (cs_w C ++ ms_w M) cells slots Z := by
  obtain ⟨x, C1, M1, c1, c2, hI⟩ := s_twice h (xs (i + 1))
  refine aw_aload_n d_law_724 rfl ?_
  refine aw_aload_nS d_law_725 rfl ?_
  refine aw_iload_n d_law_726 rfl ?_
  refine aw_iconst (v := nI 1) d_law_727 (by decide) ?_
  refine aw_iadd d_law_728 ?_
  rw [nI_add]
  refine aw_sld d_law_729 (lw_hX nm L xs) (vp_in_nI (show i + 1 < L by omega) (by omega)) ?_
  rw [nI_clamp (by omega)]
  refine aw_eqs (st' := [.int (xs (i + 1)), .ref 0]) rfl ?_
  refine aw_cV1 d_law_730 c1 mk_RC_twice is_RC_twice ln_La_63 rfl rfl rfl rfl (Nat.le_of_ble_eq_true rfl) (Nat.le_of_ble_eq_true rfl) hrc hrs ?_
  refine aw_aload_n d_law_733 rfl ?_
  refine aw_aload_nS d_law_734 rfl ?_
  refine aw_iload_n d_law_735 rfl ?_
  refine aw_iconst (v := nI 1) d_law_736 (by decide) ?_
  refine aw_iadd d_law_737 ?_
  rw [nI_add]
  refine aw_sld d_law_738 (lw_hX nm L xs) (vp_in_nI (show i + 1 < L by omega) (by omega)) ?_
  rw [nI_clamp (by omega)]
  refine aw_eqs (st' := [.int (xs (i + 1)), .ref 36, .int x]) rfl ?_
  refine aw_cV1 d_law_739 c2 mk_Mo_twice is_Mo_twice ln_La_67 rfl rfl rfl rfl (Nat.le_of_ble_eq_true rfl) (Nat.le_of_ble_eq_true rfl) hrc hrs ?_
  exact aw_icmp_eq (tgt := 1097) d_law_742 (by decide) (fun _ => K C1 M1 hI) (fun z => absurd rfl z)
theorem lw_c11 {nm : String} {L : Nat} {xs : Nat → Int32} (hL : L ≤ 3584) {rc rs cells slots : Nat} (hrc : cells ≤ rc) (hrs : slots ≤ rs) {Z : am_E} {z : UInt32} {i : Nat} (hi : i + 7 ≤ L) {C M : cs_S} (h : Inv C M) (K : ∀ C1 M1, Inv C1 M1 → AW (lw_M (lw_X L xs, nm)) 9 rc rs 1097 (lw_lv z i) [] (cs_w C1 ++ ms_w M1) cells slots Z) : AW (lw_M (lw_X L xs, nm)) 9 rc rs 747 (lw_lv z i) [] (cs_w C ++ ms_w M) cells slots Z := by
  obtain ⟨x, C1, M1, c1, c2, hI⟩ := s_told h (xs (i + 1))
  refine aw_aload_n d_law_747 rfl ?_
  refine aw_aload_nS d_law_748 rfl ?_
  refine aw_iload_n d_law_749 rfl ?_
  refine aw_iconst (v := nI 1) d_law_750 (by decide) ?_
  refine aw_iadd d_law_751 ?_
  rw [nI_add]
  refine aw_sld d_law_752 (lw_hX nm L xs) (vp_in_nI (show i + 1 < L by omega) (by omega)) ?_
  rw [nI_clamp (by omega)]
  refine aw_eqs (st' := [.int (xs (i + 1)), .ref 0]) rfl ?_
  refine aw_cV1 d_law_753 c1 mk_RC_told is_RC_told ln_La_68 rfl rfl rfl rfl (Nat.le_of_ble_eq_true rfl) (Nat.le_of_ble_eq_true rfl) hrc hrs ?_
  refine aw_aload_n d_law_756 rfl ?_
  refine aw_aload_nS d_law_757 rfl ?_
  refine aw_iload_n d_law_758 rfl ?_
  refine aw_iconst (v := nI 1) d_law_759 (by decide) ?_
  refine aw_iadd d_law_760 ?_
  rw [nI_add]
  refine aw_sld d_law_761 (lw_hX nm L xs) (vp_in_nI (show i + 1 < L by omega) (by omega)) ?_
  rw [nI_clamp (by omega)]
  refine aw_eqs (st' := [.int (xs (i + 1)), .ref 36, .int x]) rfl ?_
  refine aw_cV1 d_law_762 c2 mk_Mo_told is_Mo_told ln_La_71 rfl rfl rfl rfl (Nat.le_of_ble_eq_true rfl) (Nat.le_of_ble_eq_true rfl) hrc hrs ?_
  exact aw_icmp_eq (tgt := 1097) d_law_765 (by decide) (fun _ => K C1 M1 hI) (fun z => absurd rfl z)
theorem lw_c12 {nm : String} {L : Nat} {xs : Nat → Int32} (hL : L ≤ 3584) {rc rs cells slots : Nat} (hrc : cells ≤ rc) (hrs : slots ≤ rs) {Z : am_E} {z : UInt32} {i : Nat} (hi : i + 7 ≤ L) {C M : cs_S} (h : Inv C M) (K : ∀ C1 M1, Inv C1 M1 → AW (lw_M (lw_X L xs, nm)) 9 rc rs 1097 (lw_lv z i) [] (cs_w C1 ++ ms_w M1) cells slots Z) : AW (lw_M (lw_X L xs, nm)) 9 rc rs 770 (lw_lv z i) [] (cs_w C ++ ms_w M) cells slots Z := by
  obtain ⟨x, C1, M1, c1, c2, hI⟩ := s_once h
  refine aw_aload_n d_law_770 rfl ?_
  refine aw_cV1 d_law_771 c1 mk_RC_once is_RC_once ln_La_72 rfl rfl rfl rfl (Nat.le_of_ble_eq_true rfl) (Nat.le_of_ble_eq_true rfl) hrc hrs ?_
  refine aw_aload_n d_law_774 rfl ?_
  refine aw_cV1 d_law_775 c2 mk_Mo_once is_Mo_once ln_La_76 rfl rfl rfl rfl (Nat.le_of_ble_eq_true rfl) (Nat.le_of_ble_eq_true rfl) hrc hrs ?_
  exact aw_icmp_eq (tgt := 1097) d_law_778 (by decide) (fun _ => K C1 M1 hI) (fun z => absurd rfl z)
theorem lw_c13 {nm : String} {L : Nat} {xs : Nat → Int32} (hL : L ≤ 3584) {rc rs cells slots : Nat} (hrc : cells ≤ rc) (hrs : slots ≤ rs) {Z : am_E} {z : UInt32} {i : Nat} (hi : i + 7 ≤ L) {C M : cs_S} (h : Inv C M) (K : ∀ C1 M1, Inv C1 M1 → AW (lw_M (lw_X L xs, nm)) 9 rc rs 1097 (lw_lv z i) [] (cs_w C1 ++ ms_w M1) cells slots Z) : AW (lw_M (lw_X L xs, nm)) 9 rc rs 783 (lw_lv z i) [] (cs_w C ++ ms_w M) cells slots Z := by
  obtain ⟨x, C1, M1, c1, c2, hI⟩ := s_claim h (xs (i + 1)) (xs (i + 2)) (xs (i + 3)) (lw_l (xs (i + 4)) (xs (i + 5)))
  refine aw_aload_n d_law_783 rfl ?_
  refine aw_aload_nS d_law_784 rfl ?_
  refine aw_iload_n d_law_785 rfl ?_
  refine aw_iconst (v := nI 1) d_law_786 (by decide) ?_
  refine aw_iadd d_law_787 ?_
  rw [nI_add]
  refine aw_sld d_law_788 (lw_hX nm L xs) (vp_in_nI (show i + 1 < L by omega) (by omega)) ?_
  rw [nI_clamp (by omega)]
  refine aw_aload_nS d_law_789 rfl ?_
  refine aw_iload_n d_law_790 rfl ?_
  refine aw_iconst (v := nI 2) d_law_791 (by decide) ?_
  refine aw_iadd d_law_792 ?_
  rw [nI_add]
  refine aw_sld d_law_793 (lw_hX nm L xs) (vp_in_nI (show i + 2 < L by omega) (by omega)) ?_
  rw [nI_clamp (by omega)]
  refine aw_aload_nS d_law_794 rfl ?_
  refine aw_iload_n d_law_795 rfl ?_
  refine aw_iconst (v := nI 3) d_law_796 (by decide) ?_
  refine aw_iadd d_law_797 ?_
  rw [nI_add]
  refine aw_sld d_law_798 (lw_hX nm L xs) (vp_in_nI (show i + 3 < L by omega) (by omega)) ?_
  rw [nI_clamp (by omega)]
  refine aw_aload_nS d_law_799 rfl ?_
  refine aw_iload_n d_law_800 rfl ?_
  refine aw_iconst (v := nI 4) d_law_801 (by decide) ?_
  refine aw_iadd d_law_802 ?_
  rw [nI_add]
  refine aw_sld d_law_803 (lw_hX nm L xs) (vp_in_nI (show i + 4 < L by omega) (by omega)) ?_
  rw [nI_clamp (by omega)]
  refine aw_i2l d_law_804 ?_
  refine aw_bipush (v := nI 32) d_law_805 (by decide) ?_
  refine aw_lshl d_law_807 ?_
  refine aw_aload_nS d_law_808 rfl ?_
  refine aw_iload_n d_law_809 rfl ?_
  refine aw_iconst (v := nI 5) d_law_810 (by decide) ?_
  refine aw_iadd d_law_811 ?_
  rw [nI_add]
  refine aw_sld d_law_812 (lw_hX nm L xs) (vp_in_nI (show i + 5 < L by omega) (by omega)) ?_
  rw [nI_clamp (by omega)]
  refine aw_i2l d_law_813 ?_
  refine aw_ldc2 (v := (4294967295 : Int64)) d_law_814 kl_La_18 ?_
  refine aw_land d_law_817 ?_
  refine aw_lor d_law_818 ?_
  refine aw_eqs (st' := [.long (lw_l (xs (i + 4)) (xs (i + 5))), .int (xs (i + 3)), .int (xs (i + 2)), .int (xs (i + 1)), .ref 0]) rfl ?_
  refine aw_cV1 d_law_819 c1 mk_RC_claim is_RC_claim ln_La_77 rfl rfl rfl rfl (Nat.le_of_ble_eq_true rfl) (Nat.le_of_ble_eq_true rfl) hrc hrs ?_
  refine aw_aload_n d_law_822 rfl ?_
  refine aw_aload_nS d_law_823 rfl ?_
  refine aw_iload_n d_law_824 rfl ?_
  refine aw_iconst (v := nI 1) d_law_825 (by decide) ?_
  refine aw_iadd d_law_826 ?_
  rw [nI_add]
  refine aw_sld d_law_827 (lw_hX nm L xs) (vp_in_nI (show i + 1 < L by omega) (by omega)) ?_
  rw [nI_clamp (by omega)]
  refine aw_aload_nS d_law_828 rfl ?_
  refine aw_iload_n d_law_829 rfl ?_
  refine aw_iconst (v := nI 2) d_law_830 (by decide) ?_
  refine aw_iadd d_law_831 ?_
  rw [nI_add]
  refine aw_sld d_law_832 (lw_hX nm L xs) (vp_in_nI (show i + 2 < L by omega) (by omega)) ?_
  rw [nI_clamp (by omega)]
  refine aw_aload_nS d_law_833 rfl ?_
  refine aw_iload_n d_law_834 rfl ?_
  refine aw_iconst (v := nI 3) d_law_835 (by decide) ?_
  refine aw_iadd d_law_836 ?_
  rw [nI_add]
  refine aw_sld d_law_837 (lw_hX nm L xs) (vp_in_nI (show i + 3 < L by omega) (by omega)) ?_
  rw [nI_clamp (by omega)]
  refine aw_aload_nS d_law_838 rfl ?_
  refine aw_iload_n d_law_839 rfl ?_
  refine aw_iconst (v := nI 4) d_law_840 (by decide) ?_
  refine aw_iadd d_law_841 ?_
  rw [nI_add]
  refine aw_sld d_law_842 (lw_hX nm L xs) (vp_in_nI (show i + 4 < L by omega) (by omega)) ?_
  rw [nI_clamp (by omega)]
  refine aw_i2l d_law_843 ?_
  refine aw_bipush (v := nI 32) d_law_844 (by decide) ?_
  refine aw_lshl d_law_846 ?_
  refine aw_aload_nS d_law_847 rfl ?_
  refine aw_iload_n d_law_848 rfl ?_
  refine aw_iconst (v := nI 5) d_law_849 (by decide) ?_
  refine aw_iadd d_law_850 ?_
  rw [nI_add]
  refine aw_sld d_law_851 (lw_hX nm L xs) (vp_in_nI (show i + 5 < L by omega) (by omega)) ?_
  rw [nI_clamp (by omega)]
  refine aw_i2l d_law_852 ?_
  refine aw_ldc2 (v := (4294967295 : Int64)) d_law_853 kl_La_18 ?_
  refine aw_land d_law_856 ?_
  refine aw_lor d_law_857 ?_
  refine aw_eqs (st' := [.long (lw_l (xs (i + 4)) (xs (i + 5))), .int (xs (i + 3)), .int (xs (i + 2)), .int (xs (i + 1)), .ref 36, .long x]) rfl ?_
  refine aw_cV1 d_law_858 c2 mk_Mo_claim is_Mo_claim ln_La_81 rfl rfl rfl rfl (Nat.le_of_ble_eq_true rfl) (Nat.le_of_ble_eq_true rfl) hrc hrs ?_
  exact aw_lc_eq (tgt := 1097) d_law_861 d_law_862 (by decide) (fun _ => K C1 M1 hI) (fun z => absurd rfl z)
theorem lw_c14 {nm : String} {L : Nat} {xs : Nat → Int32} (hL : L ≤ 3584) {rc rs cells slots : Nat} (hrc : cells ≤ rc) (hrs : slots ≤ rs) {Z : am_E} {z : UInt32} {i : Nat} (hi : i + 7 ≤ L) {C M : cs_S} (h : Inv C M) (K : ∀ C1 M1, Inv C1 M1 → AW (lw_M (lw_X L xs, nm)) 9 rc rs 1097 (lw_lv z i) [] (cs_w C1 ++ ms_w M1) cells slots Z) : AW (lw_M (lw_X L xs, nm)) 9 rc rs 867 (lw_lv z i) [] (cs_w C ++ ms_w M) cells slots Z := by
  obtain ⟨x, C1, M1, c1, c2, hI⟩ := s_left h (xs (i + 1)) (xs (i + 2)) (xs (i + 3))
  refine aw_aload_n d_law_867 rfl ?_
  refine aw_aload_nS d_law_868 rfl ?_
  refine aw_iload_n d_law_869 rfl ?_
  refine aw_iconst (v := nI 1) d_law_870 (by decide) ?_
  refine aw_iadd d_law_871 ?_
  rw [nI_add]
  refine aw_sld d_law_872 (lw_hX nm L xs) (vp_in_nI (show i + 1 < L by omega) (by omega)) ?_
  rw [nI_clamp (by omega)]
  refine aw_aload_nS d_law_873 rfl ?_
  refine aw_iload_n d_law_874 rfl ?_
  refine aw_iconst (v := nI 2) d_law_875 (by decide) ?_
  refine aw_iadd d_law_876 ?_
  rw [nI_add]
  refine aw_sld d_law_877 (lw_hX nm L xs) (vp_in_nI (show i + 2 < L by omega) (by omega)) ?_
  rw [nI_clamp (by omega)]
  refine aw_aload_nS d_law_878 rfl ?_
  refine aw_iload_n d_law_879 rfl ?_
  refine aw_iconst (v := nI 3) d_law_880 (by decide) ?_
  refine aw_iadd d_law_881 ?_
  rw [nI_add]
  refine aw_sld d_law_882 (lw_hX nm L xs) (vp_in_nI (show i + 3 < L by omega) (by omega)) ?_
  rw [nI_clamp (by omega)]
  refine aw_eqs (st' := [.int (xs (i + 3)), .int (xs (i + 2)), .int (xs (i + 1)), .ref 0]) rfl ?_
  refine aw_cV1 d_law_883 c1 mk_RC_left is_RC_left ln_La_82 rfl rfl rfl rfl (Nat.le_of_ble_eq_true rfl) (Nat.le_of_ble_eq_true rfl) hrc hrs ?_
  refine aw_aload_n d_law_886 rfl ?_
  refine aw_aload_nS d_law_887 rfl ?_
  refine aw_iload_n d_law_888 rfl ?_
  refine aw_iconst (v := nI 1) d_law_889 (by decide) ?_
  refine aw_iadd d_law_890 ?_
  rw [nI_add]
  refine aw_sld d_law_891 (lw_hX nm L xs) (vp_in_nI (show i + 1 < L by omega) (by omega)) ?_
  rw [nI_clamp (by omega)]
  refine aw_aload_nS d_law_892 rfl ?_
  refine aw_iload_n d_law_893 rfl ?_
  refine aw_iconst (v := nI 2) d_law_894 (by decide) ?_
  refine aw_iadd d_law_895 ?_
  rw [nI_add]
  refine aw_sld d_law_896 (lw_hX nm L xs) (vp_in_nI (show i + 2 < L by omega) (by omega)) ?_
  rw [nI_clamp (by omega)]
  refine aw_aload_nS d_law_897 rfl ?_
  refine aw_iload_n d_law_898 rfl ?_
  refine aw_iconst (v := nI 3) d_law_899 (by decide) ?_
  refine aw_iadd d_law_900 ?_
  rw [nI_add]
  refine aw_sld d_law_901 (lw_hX nm L xs) (vp_in_nI (show i + 3 < L by omega) (by omega)) ?_
  rw [nI_clamp (by omega)]
  refine aw_eqs (st' := [.int (xs (i + 3)), .int (xs (i + 2)), .int (xs (i + 1)), .ref 36, .long x]) rfl ?_
  refine aw_cV1 d_law_902 c2 mk_Mo_left is_Mo_left ln_La_85 rfl rfl rfl rfl (Nat.le_of_ble_eq_true rfl) (Nat.le_of_ble_eq_true rfl) hrc hrs ?_
  exact aw_lc_eq (tgt := 1097) d_law_905 d_law_906 (by decide) (fun _ => K C1 M1 hI) (fun z => absurd rfl z)
theorem lw_c15 {nm : String} {L : Nat} {xs : Nat → Int32} (hL : L ≤ 3584) {rc rs cells slots : Nat} (hrc : cells ≤ rc) (hrs : slots ≤ rs) {Z : am_E} {z : UInt32} {i : Nat} (hi : i + 7 ≤ L) {C M : cs_S} (h : Inv C M) (K : ∀ C1 M1, Inv C1 M1 → AW (lw_M (lw_X L xs, nm)) 9 rc rs 1097 (lw_lv z i) [] (cs_w C1 ++ ms_w M1) cells slots Z) : AW (lw_M (lw_X L xs, nm)) 9 rc rs 911 (lw_lv z i) [] (cs_w C ++ ms_w M) cells slots Z := by
  obtain ⟨x, C1, M1, c1, c2, hI⟩ := s_open h (xs (i + 1)) (xs (i + 2)) (xs (i + 3)) (xs (i + 4))
  refine aw_aload_n d_law_911 rfl ?_
  refine aw_aload_nS d_law_912 rfl ?_
  refine aw_iload_n d_law_913 rfl ?_
  refine aw_iconst (v := nI 1) d_law_914 (by decide) ?_
  refine aw_iadd d_law_915 ?_
  rw [nI_add]
  refine aw_sld d_law_916 (lw_hX nm L xs) (vp_in_nI (show i + 1 < L by omega) (by omega)) ?_
  rw [nI_clamp (by omega)]
  refine aw_aload_nS d_law_917 rfl ?_
  refine aw_iload_n d_law_918 rfl ?_
  refine aw_iconst (v := nI 2) d_law_919 (by decide) ?_
  refine aw_iadd d_law_920 ?_
  rw [nI_add]
  refine aw_sld d_law_921 (lw_hX nm L xs) (vp_in_nI (show i + 2 < L by omega) (by omega)) ?_
  rw [nI_clamp (by omega)]
  refine aw_aload_nS d_law_922 rfl ?_
  refine aw_iload_n d_law_923 rfl ?_
  refine aw_iconst (v := nI 3) d_law_924 (by decide) ?_
  refine aw_iadd d_law_925 ?_
  rw [nI_add]
  refine aw_sld d_law_926 (lw_hX nm L xs) (vp_in_nI (show i + 3 < L by omega) (by omega)) ?_
  rw [nI_clamp (by omega)]
  refine aw_aload_nS d_law_927 rfl ?_
  refine aw_iload_n d_law_928 rfl ?_
  refine aw_iconst (v := nI 4) d_law_929 (by decide) ?_
  refine aw_iadd d_law_930 ?_
  rw [nI_add]
  refine aw_sld d_law_931 (lw_hX nm L xs) (vp_in_nI (show i + 4 < L by omega) (by omega)) ?_
  rw [nI_clamp (by omega)]
  refine aw_eqs (st' := [.int (xs (i + 4)), .int (xs (i + 3)), .int (xs (i + 2)), .int (xs (i + 1)), .ref 0]) rfl ?_
  refine aw_cV1 d_law_932 c1 mk_RC_open is_RC_open ln_La_86 rfl rfl rfl rfl (Nat.le_of_ble_eq_true rfl) (Nat.le_of_ble_eq_true rfl) hrc hrs ?_
  refine aw_aload_n d_law_935 rfl ?_
  refine aw_aload_nS d_law_936 rfl ?_
  refine aw_iload_n d_law_937 rfl ?_
  refine aw_iconst (v := nI 1) d_law_938 (by decide) ?_
  refine aw_iadd d_law_939 ?_
  rw [nI_add]
  refine aw_sld d_law_940 (lw_hX nm L xs) (vp_in_nI (show i + 1 < L by omega) (by omega)) ?_
  rw [nI_clamp (by omega)]
  refine aw_aload_nS d_law_941 rfl ?_
  refine aw_iload_n d_law_942 rfl ?_
  refine aw_iconst (v := nI 2) d_law_943 (by decide) ?_
  refine aw_iadd d_law_944 ?_
  rw [nI_add]
  refine aw_sld d_law_945 (lw_hX nm L xs) (vp_in_nI (show i + 2 < L by omega) (by omega)) ?_
  rw [nI_clamp (by omega)]
  refine aw_aload_nS d_law_946 rfl ?_
  refine aw_iload_n d_law_947 rfl ?_
  refine aw_iconst (v := nI 3) d_law_948 (by decide) ?_
  refine aw_iadd d_law_949 ?_
  rw [nI_add]
  refine aw_sld d_law_950 (lw_hX nm L xs) (vp_in_nI (show i + 3 < L by omega) (by omega)) ?_
  rw [nI_clamp (by omega)]
  refine aw_aload_nS d_law_951 rfl ?_
  refine aw_iload_n d_law_952 rfl ?_
  refine aw_iconst (v := nI 4) d_law_953 (by decide) ?_
  refine aw_iadd d_law_954 ?_
  rw [nI_add]
  refine aw_sld d_law_955 (lw_hX nm L xs) (vp_in_nI (show i + 4 < L by omega) (by omega)) ?_
  rw [nI_clamp (by omega)]
  refine aw_eqs (st' := [.int (xs (i + 4)), .int (xs (i + 3)), .int (xs (i + 2)), .int (xs (i + 1)), .ref 36, .long x]) rfl ?_
  refine aw_cV1 d_law_956 c2 mk_Mo_open is_Mo_open ln_La_90 rfl rfl rfl rfl (Nat.le_of_ble_eq_true rfl) (Nat.le_of_ble_eq_true rfl) hrc hrs ?_
  exact aw_lc_eq (tgt := 1097) d_law_959 d_law_960 (by decide) (fun _ => K C1 M1 hI) (fun z => absurd rfl z)
theorem lw_c16 {nm : String} {L : Nat} {xs : Nat → Int32} (hL : L ≤ 3584) {rc rs cells slots : Nat} (hrc : cells ≤ rc) (hrs : slots ≤ rs) {Z : am_E} {z : UInt32} {i : Nat} (hi : i + 7 ≤ L) {C M : cs_S} (h : Inv C M) (K : ∀ C1 M1, Inv C1 M1 → AW (lw_M (lw_X L xs, nm)) 9 rc rs 1097 (lw_lv z i) [] (cs_w C1 ++ ms_w M1) cells slots Z) : AW (lw_M (lw_X L xs, nm)) 9 rc rs 965 (lw_lv z i) [] (cs_w C ++ ms_w M) cells slots Z := by
  obtain ⟨x, C1, M1, c1, c2, hI⟩ := s_audit h (lw_l (xs (i + 1)) (xs (i + 2))) (xs (i + 3))
  refine aw_aload_n d_law_965 rfl ?_
  refine aw_aload_nS d_law_966 rfl ?_
  refine aw_iload_n d_law_967 rfl ?_
  refine aw_iconst (v := nI 1) d_law_968 (by decide) ?_
  refine aw_iadd d_law_969 ?_
  rw [nI_add]
  refine aw_sld d_law_970 (lw_hX nm L xs) (vp_in_nI (show i + 1 < L by omega) (by omega)) ?_
  rw [nI_clamp (by omega)]
  refine aw_i2l d_law_971 ?_
  refine aw_bipush (v := nI 32) d_law_972 (by decide) ?_
  refine aw_lshl d_law_974 ?_
  refine aw_aload_nS d_law_975 rfl ?_
  refine aw_iload_n d_law_976 rfl ?_
  refine aw_iconst (v := nI 2) d_law_977 (by decide) ?_
  refine aw_iadd d_law_978 ?_
  rw [nI_add]
  refine aw_sld d_law_979 (lw_hX nm L xs) (vp_in_nI (show i + 2 < L by omega) (by omega)) ?_
  rw [nI_clamp (by omega)]
  refine aw_i2l d_law_980 ?_
  refine aw_ldc2 (v := (4294967295 : Int64)) d_law_981 kl_La_18 ?_
  refine aw_land d_law_984 ?_
  refine aw_lor d_law_985 ?_
  refine aw_aload_nS d_law_986 rfl ?_
  refine aw_iload_n d_law_987 rfl ?_
  refine aw_iconst (v := nI 3) d_law_988 (by decide) ?_
  refine aw_iadd d_law_989 ?_
  rw [nI_add]
  refine aw_sld d_law_990 (lw_hX nm L xs) (vp_in_nI (show i + 3 < L by omega) (by omega)) ?_
  rw [nI_clamp (by omega)]
  refine aw_eqs (st' := [.int (xs (i + 3)), .long (lw_l (xs (i + 1)) (xs (i + 2))), .ref 0]) rfl ?_
  refine aw_cV1 d_law_991 c1 mk_RC_audit is_RC_audit ln_La_91 rfl rfl rfl rfl (Nat.le_of_ble_eq_true rfl) (Nat.le_of_ble_eq_true rfl) hrc hrs ?_
  refine aw_aload_n d_law_994 rfl ?_
  refine aw_aload_nS d_law_995 rfl ?_
  refine aw_iload_n d_law_996 rfl ?_
  refine aw_iconst (v := nI 1) d_law_997 (by decide) ?_
  refine aw_iadd d_law_998 ?_
  rw [nI_add]
  refine aw_sld d_law_999 (lw_hX nm L xs) (vp_in_nI (show i + 1 < L by omega) (by omega)) ?_
  rw [nI_clamp (by omega)]
  refine aw_i2l d_law_1000 ?_
  refine aw_bipush (v := nI 32) d_law_1001 (by decide) ?_
  refine aw_lshl d_law_1003 ?_
  refine aw_aload_nS d_law_1004 rfl ?_
  refine aw_iload_n d_law_1005 rfl ?_
  refine aw_iconst (v := nI 2) d_law_1006 (by decide) ?_
  refine aw_iadd d_law_1007 ?_
  rw [nI_add]
  refine aw_sld d_law_1008 (lw_hX nm L xs) (vp_in_nI (show i + 2 < L by omega) (by omega)) ?_
  rw [nI_clamp (by omega)]
  refine aw_i2l d_law_1009 ?_
  refine aw_ldc2 (v := (4294967295 : Int64)) d_law_1010 kl_La_18 ?_
  refine aw_land d_law_1013 ?_
  refine aw_lor d_law_1014 ?_
  refine aw_aload_nS d_law_1015 rfl ?_
  refine aw_iload_n d_law_1016 rfl ?_
  refine aw_iconst (v := nI 3) d_law_1017 (by decide) ?_
  refine aw_iadd d_law_1018 ?_
  rw [nI_add]
  refine aw_sld d_law_1019 (lw_hX nm L xs) (vp_in_nI (show i + 3 < L by omega) (by omega)) ?_
  rw [nI_clamp (by omega)]
  refine aw_eqs (st' := [.int (xs (i + 3)), .long (lw_l (xs (i + 1)) (xs (i + 2))), .ref 36, .int x]) rfl ?_
  refine aw_cV1 d_law_1020 c2 mk_Mo_audit is_Mo_audit ln_La_95 rfl rfl rfl rfl (Nat.le_of_ble_eq_true rfl) (Nat.le_of_ble_eq_true rfl) hrc hrs ?_
  exact aw_icmp_eq (tgt := 1097) d_law_1023 (by decide) (fun _ => K C1 M1 hI) (fun z => absurd rfl z)
theorem lw_c17 {nm : String} {L : Nat} {xs : Nat → Int32} (hL : L ≤ 3584) {rc rs cells slots : Nat} (hrc : cells ≤ rc) (hrs : slots ≤ rs) {Z : am_E} {z : UInt32} {i : Nat} (hi : i + 7 ≤ L) {C M : cs_S} (h : Inv C M) (K : ∀ C1 M1, Inv C1 M1 → AW (lw_M (lw_X L xs, nm)) 9 rc rs 1097 (lw_lv z i) [] (cs_w C1 ++ ms_w M1) cells slots Z) : AW (lw_M (lw_X L xs, nm)) 9 rc rs 1028 (lw_lv z i) [] (cs_w C ++ ms_w M) cells slots Z := by
  obtain ⟨x, C1, M1, c1, c2, hI⟩ := s_drawn h (xs (i + 1))
  refine aw_aload_n d_law_1028 rfl ?_
  refine aw_aload_nS d_law_1029 rfl ?_
  refine aw_iload_n d_law_1030 rfl ?_
  refine aw_iconst (v := nI 1) d_law_1031 (by decide) ?_
  refine aw_iadd d_law_1032 ?_
  rw [nI_add]
  refine aw_sld d_law_1033 (lw_hX nm L xs) (vp_in_nI (show i + 1 < L by omega) (by omega)) ?_
  rw [nI_clamp (by omega)]
  refine aw_eqs (st' := [.int (xs (i + 1)), .ref 0]) rfl ?_
  refine aw_cV1 d_law_1034 c1 mk_RC_drawn is_RC_drawn ln_La_96 rfl rfl rfl rfl (Nat.le_of_ble_eq_true rfl) (Nat.le_of_ble_eq_true rfl) hrc hrs ?_
  refine aw_aload_n d_law_1037 rfl ?_
  refine aw_aload_nS d_law_1038 rfl ?_
  refine aw_iload_n d_law_1039 rfl ?_
  refine aw_iconst (v := nI 1) d_law_1040 (by decide) ?_
  refine aw_iadd d_law_1041 ?_
  rw [nI_add]
  refine aw_sld d_law_1042 (lw_hX nm L xs) (vp_in_nI (show i + 1 < L by omega) (by omega)) ?_
  rw [nI_clamp (by omega)]
  refine aw_eqs (st' := [.int (xs (i + 1)), .ref 36, .int x]) rfl ?_
  refine aw_cV1 d_law_1043 c2 mk_Mo_drawn is_Mo_drawn ln_La_99 rfl rfl rfl rfl (Nat.le_of_ble_eq_true rfl) (Nat.le_of_ble_eq_true rfl) hrc hrs ?_
  exact aw_icmp_eq (tgt := 1097) d_law_1046 (by decide) (fun _ => K C1 M1 hI) (fun z => absurd rfl z)
theorem lw_c18 {nm : String} {L : Nat} {xs : Nat → Int32} (hL : L ≤ 3584) {rc rs cells slots : Nat} (hrc : cells ≤ rc) (hrs : slots ≤ rs) {Z : am_E} {z : UInt32} {i : Nat} (hi : i + 7 ≤ L) {C M : cs_S} (h : Inv C M) (K : ∀ C1 M1, Inv C1 M1 → AW (lw_M (lw_X L xs, nm)) 9 rc rs 1097 (lw_lv z i) [] (cs_w C1 ++ ms_w M1) cells slots Z) : AW (lw_M (lw_X L xs, nm)) 9 rc rs 1051 (lw_lv z i) [] (cs_w C ++ ms_w M) cells slots Z := by
  obtain ⟨x, C1, M1, c1, c2, hI⟩ := s_unit h (xs (i + 1))
  refine aw_aload_n d_law_1051 rfl ?_
  refine aw_aload_nS d_law_1052 rfl ?_
  refine aw_iload_n d_law_1053 rfl ?_
  refine aw_iconst (v := nI 1) d_law_1054 (by decide) ?_
  refine aw_iadd d_law_1055 ?_
  rw [nI_add]
  refine aw_sld d_law_1056 (lw_hX nm L xs) (vp_in_nI (show i + 1 < L by omega) (by omega)) ?_
  rw [nI_clamp (by omega)]
  refine aw_eqs (st' := [.int (xs (i + 1)), .ref 0]) rfl ?_
  refine aw_cV1 d_law_1057 c1 mk_RC_unit is_RC_unit ln_La_100 rfl rfl rfl rfl (Nat.le_of_ble_eq_true rfl) (Nat.le_of_ble_eq_true rfl) hrc hrs ?_
  refine aw_aload_n d_law_1060 rfl ?_
  refine aw_aload_nS d_law_1061 rfl ?_
  refine aw_iload_n d_law_1062 rfl ?_
  refine aw_iconst (v := nI 1) d_law_1063 (by decide) ?_
  refine aw_iadd d_law_1064 ?_
  rw [nI_add]
  refine aw_sld d_law_1065 (lw_hX nm L xs) (vp_in_nI (show i + 1 < L by omega) (by omega)) ?_
  rw [nI_clamp (by omega)]
  refine aw_eqs (st' := [.int (xs (i + 1)), .ref 36, .int x]) rfl ?_
  refine aw_cV1 d_law_1066 c2 mk_Mo_unit is_Mo_unit ln_La_104 rfl rfl rfl rfl (Nat.le_of_ble_eq_true rfl) (Nat.le_of_ble_eq_true rfl) hrc hrs ?_
  exact aw_icmp_eq (tgt := 1097) d_law_1069 (by decide) (fun _ => K C1 M1 hI) (fun z => absurd rfl z)
theorem lw_c19 {nm : String} {L : Nat} {xs : Nat → Int32} (hL : L ≤ 3584) {rc rs cells slots : Nat} (hrc : cells ≤ rc) (hrs : slots ≤ rs) {Z : am_E} {z : UInt32} {i : Nat} (hi : i + 7 ≤ L) {C M : cs_S} (h : Inv C M) (K : ∀ C1 M1, Inv C1 M1 → AW (lw_M (lw_X L xs, nm)) 9 rc rs 1097 (lw_lv z i) [] (cs_w C1 ++ ms_w M1) cells slots Z) : AW (lw_M (lw_X L xs, nm)) 9 rc rs 1074 (lw_lv z i) [] (cs_w C ++ ms_w M) cells slots Z := by
  obtain ⟨x, C1, M1, c1, c2, hI⟩ := s_form h (xs (i + 1))
  refine aw_aload_n d_law_1074 rfl ?_
  refine aw_aload_nS d_law_1075 rfl ?_
  refine aw_iload_n d_law_1076 rfl ?_
  refine aw_iconst (v := nI 1) d_law_1077 (by decide) ?_
  refine aw_iadd d_law_1078 ?_
  rw [nI_add]
  refine aw_sld d_law_1079 (lw_hX nm L xs) (vp_in_nI (show i + 1 < L by omega) (by omega)) ?_
  rw [nI_clamp (by omega)]
  refine aw_eqs (st' := [.int (xs (i + 1)), .ref 0]) rfl ?_
  refine aw_cV1 d_law_1080 c1 mk_RC_form is_RC_form ln_La_105 rfl rfl rfl rfl (Nat.le_of_ble_eq_true rfl) (Nat.le_of_ble_eq_true rfl) hrc hrs ?_
  refine aw_aload_n d_law_1083 rfl ?_
  refine aw_aload_nS d_law_1084 rfl ?_
  refine aw_iload_n d_law_1085 rfl ?_
  refine aw_iconst (v := nI 1) d_law_1086 (by decide) ?_
  refine aw_iadd d_law_1087 ?_
  rw [nI_add]
  refine aw_sld d_law_1088 (lw_hX nm L xs) (vp_in_nI (show i + 1 < L by omega) (by omega)) ?_
  rw [nI_clamp (by omega)]
  refine aw_eqs (st' := [.int (xs (i + 1)), .ref 36, .int x]) rfl ?_
  refine aw_cV1 d_law_1089 c2 mk_Mo_form is_Mo_form ln_La_108 rfl rfl rfl rfl (Nat.le_of_ble_eq_true rfl) (Nat.le_of_ble_eq_true rfl) hrc hrs ?_
  exact aw_icmp_eq (tgt := 1097) d_law_1092 (by decide) (fun _ => K C1 M1 hI) (fun z => absurd rfl z)
theorem lw_loop {nm : String} {L : Nat} {xs : Nat → Int32} (hL : L ≤ 3584) {rc rs cells slots : Nat} (hrc : cells ≤ rc) (hrs : slots ≤ rs) {Z : am_E} {z : UInt32} (KE : ∀ (i : Nat) (C M : cs_S), AW (lw_M (lw_X L xs, nm)) 9 rc rs 1103 (lw_lv z i) [] (cs_w C ++ ms_w M) cells slots Z) : ∀ (n i : Nat) (C M : cs_S), L < i + 7 * n → i < 2 ^ 30 → Inv C M → AW (lw_M (lw_X L xs, nm)) 9 rc rs 18 (lw_lv z i) [] (cs_w C ++ ms_w M) cells slots Z := by
  intro n
  induction n with
  | zero =>
    intro i C M hn hi h
    refine aw_iload_n d_law_18 rfl ?_
    refine aw_aload_nS d_law_19 rfl ?_
    refine aw_slen d_law_20 (lw_hX nm L xs) ?_
    refine aw_bipush (v := nI 7) d_law_21 (by decide) ?_
    refine aw_isub d_law_23 ?_
    refine aw_icmp_gt (tgt := 1103) d_law_24 (by decide) (fun _ => KE i C M) (fun hc => absurd ?_ hc)
    show nI L - nI 7 < nI i
    by_cases h7 : L < 7
    · exact Int32.lt_of_lt_of_le (pk_sneg (by omega) h7) (nI_pos' (by omega))
    · rw [pk_sub (by omega)]; exact nI_lt (by omega) (by omega)
  | succ n ih =>
    intro i C M hn hi h
    refine aw_iload_n d_law_18 rfl ?_
    refine aw_aload_nS d_law_19 rfl ?_
    refine aw_slen d_law_20 (lw_hX nm L xs) ?_
    refine aw_bipush (v := nI 7) d_law_21 (by decide) ?_
    refine aw_isub d_law_23 ?_
    refine aw_icmp_gt (tgt := 1103) d_law_24 (by decide) (fun _ => KE i C M) (fun hc => ?_)
    have h7 : i + 7 ≤ L := by
      have hc : ¬ nI L - nI 7 < nI i := hc
      refine Decidable.byContradiction (fun hx => hc ?_)
      by_cases h7 : L < 7
      · exact Int32.lt_of_lt_of_le (pk_sneg (by omega) h7) (nI_pos' (by omega))
      · rw [pk_sub (by omega)]; exact nI_lt (by omega) (by omega)
    have K : ∀ C1 M1, Inv C1 M1 → AW (lw_M (lw_X L xs, nm)) 9 rc rs 1097 (lw_lv z i) [] (cs_w C1 ++ ms_w M1) cells slots Z := fun C1 M1 h1 => by
      refine aw_iinc d_law_1097 rfl (show nI i + Int32.ofInt 7 = nI (i + 7) from nI_add i 7) (Nat.le_of_ble_eq_true rfl) ?_
      refine aw_goto (tgt := 18) d_law_1100 (by decide) ?_
      exact ih (i + 7) C1 M1 (by omega) (by omega) h1
    refine aw_aload_nS d_law_27 rfl ?_
    refine aw_iload_n d_law_28 rfl ?_
    refine aw_sld d_law_29 (lw_hX nm L xs) (vp_in_nI (show i < L by omega) (by omega)) ?_
    rw [nI_clamp (by omega)]
    refine aw_bipush (v := nI 31) d_law_30 (by decide) ?_
    refine aw_iand d_law_32 ?_
    obtain ⟨j, hj, ej⟩ := pk_andE (xs i) (m := nI 31) 5 (by decide)
    rw [ej]
    have hT : (nI j).toInt = j := nI_toInt (by omega)
    by_cases hj20 : 20 ≤ j
    · exact aw_tableOut (tgt := 1097) d_law_33 (Or.inr (by rw [hT]; omega)) (by decide) (K C M h)
    rcases (show j = 0 ∨ j = 1 ∨ j = 2 ∨ j = 3 ∨ j = 4 ∨ j = 5 ∨ j = 6 ∨ j = 7 ∨ j = 8 ∨ j = 9 ∨ j = 10 ∨ j = 11 ∨ j = 12 ∨ j = 13 ∨ j = 14 ∨ j = 15 ∨ j = 16 ∨ j = 17 ∨ j = 18 ∨ j = 19 by omega) with rfl | rfl | rfl | rfl | rfl | rfl | rfl | rfl | rfl | rfl | rfl | rfl | rfl | rfl | rfl | rfl | rfl | rfl | rfl | rfl
    · exact aw_tableIn (off := 95) (tgt := 128) d_law_33 (by rw [hT]; omega) (by rw [hT]; omega) (by rw [hT]; rfl) (by decide) (lw_c0 hL hrc hrs h7 h K)
    · exact aw_tableIn (off := 108) (tgt := 141) d_law_33 (by rw [hT]; omega) (by rw [hT]; omega) (by rw [hT]; rfl) (by decide) (lw_c1 hL hrc hrs h7 h K)
    · exact aw_tableIn (off := 223) (tgt := 256) d_law_33 (by rw [hT]; omega) (by rw [hT]; omega) (by rw [hT]; rfl) (by decide) (lw_c2 hL hrc hrs h7 h K)
    · exact aw_tableIn (off := 256) (tgt := 289) d_law_33 (by rw [hT]; omega) (by rw [hT]; omega) (by rw [hT]; rfl) (by decide) (lw_c3 hL hrc hrs h7 h K)
    · exact aw_tableIn (off := 359) (tgt := 392) d_law_33 (by rw [hT]; omega) (by rw [hT]; omega) (by rw [hT]; rfl) (by decide) (lw_c4 hL hrc hrs h7 h K)
    · exact aw_tableIn (off := 454) (tgt := 487) d_law_33 (by rw [hT]; omega) (by rw [hT]; omega) (by rw [hT]; rfl) (by decide) (lw_c5 hL hrc hrs h7 h K)
    · exact aw_tableIn (off := 517) (tgt := 550) d_law_33 (by rw [hT]; omega) (by rw [hT]; omega) (by rw [hT]; rfl) (by decide) (lw_c6 hL hrc hrs h7 h K)
    · exact aw_tableIn (off := 590) (tgt := 623) d_law_33 (by rw [hT]; omega) (by rw [hT]; omega) (by rw [hT]; rfl) (by decide) (lw_c7 hL hrc hrs h7 h K)
    · exact aw_tableIn (off := 603) (tgt := 636) d_law_33 (by rw [hT]; omega) (by rw [hT]; omega) (by rw [hT]; rfl) (by decide) (lw_c8 hL hrc hrs h7 h K)
    · exact aw_tableIn (off := 647) (tgt := 680) d_law_33 (by rw [hT]; omega) (by rw [hT]; omega) (by rw [hT]; rfl) (by decide) (lw_c9 hL hrc hrs h7 h K)
    · exact aw_tableIn (off := 691) (tgt := 724) d_law_33 (by rw [hT]; omega) (by rw [hT]; omega) (by rw [hT]; rfl) (by decide) (lw_c10 hL hrc hrs h7 h K)
    · exact aw_tableIn (off := 714) (tgt := 747) d_law_33 (by rw [hT]; omega) (by rw [hT]; omega) (by rw [hT]; rfl) (by decide) (lw_c11 hL hrc hrs h7 h K)
    · exact aw_tableIn (off := 737) (tgt := 770) d_law_33 (by rw [hT]; omega) (by rw [hT]; omega) (by rw [hT]; rfl) (by decide) (lw_c12 hL hrc hrs h7 h K)
    · exact aw_tableIn (off := 750) (tgt := 783) d_law_33 (by rw [hT]; omega) (by rw [hT]; omega) (by rw [hT]; rfl) (by decide) (lw_c13 hL hrc hrs h7 h K)
    · exact aw_tableIn (off := 834) (tgt := 867) d_law_33 (by rw [hT]; omega) (by rw [hT]; omega) (by rw [hT]; rfl) (by decide) (lw_c14 hL hrc hrs h7 h K)
    · exact aw_tableIn (off := 878) (tgt := 911) d_law_33 (by rw [hT]; omega) (by rw [hT]; omega) (by rw [hT]; rfl) (by decide) (lw_c15 hL hrc hrs h7 h K)
    · exact aw_tableIn (off := 932) (tgt := 965) d_law_33 (by rw [hT]; omega) (by rw [hT]; omega) (by rw [hT]; rfl) (by decide) (lw_c16 hL hrc hrs h7 h K)
    · exact aw_tableIn (off := 995) (tgt := 1028) d_law_33 (by rw [hT]; omega) (by rw [hT]; omega) (by rw [hT]; rfl) (by decide) (lw_c17 hL hrc hrs h7 h K)
    · exact aw_tableIn (off := 1018) (tgt := 1051) d_law_33 (by rw [hT]; omega) (by rw [hT]; omega) (by rw [hT]; rfl) (by decide) (lw_c18 hL hrc hrs h7 h K)
    · exact aw_tableIn (off := 1041) (tgt := 1074) d_law_33 (by rw [hT]; omega) (by rw [hT]; omega) (by rw [hT]; rfl) (by decide) (lw_c19 hL hrc hrs h7 h K)
