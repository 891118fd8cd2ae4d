theorem lc_0 {E : tm_Ev} {X : tm_X} {Q : State → Prop} {sb L i : Nat} {xs : Nat → Int32} (C : tl_C E X RL cL_law 4 sb L xs) (hi : i + 6 ≤ L) {d s μ : tm_M} (hd : dd_ok d) (hs : ss_ok s) (hI : cl_I μ d s) (hR : rf_I μ d s) (K : ∀ d' s' μ' : tm_M, dd_ok d' → ss_ok s' → cl_I μ' d' s' → rf_I μ' d' s' → tl_V E X Q 4 1132 [(3, tm_i (i : Int)), (2, .ref (E.2.1 74)), (1, .ref (E.2.1 0)), (0, .ref sb)] [] μ') : tl_V E X Q 4 192 [(3, tm_i (i : Int)), (2, .ref (E.2.1 74)), (1, .ref (E.2.1 0)), (0, .ref sb)] [] μ := by
  refine tl_aload_n 2 C dL_law_192 rfl rfl ?_
  refine tl_arg (j := 1) 3 0 C rfl (by omega) rfl rfl rfl rfl rfl dL_law_193 dL_law_194 dL_law_195 dL_law_196 dL_law_197 ?_
  refine tl_arg (j := 2) 3 0 C rfl (by omega) rfl rfl rfl rfl rfl dL_law_198 dL_law_199 dL_law_200 dL_law_201 dL_law_202 ?_
  refine tl_call (k := 0) [tm_i (xs (i + 1)).toInt, tm_i (xs (i + 2)).toInt] [] C (k7_type E X.2.1 μ d s hd hI _ _ (tl_r _) (tl_r _)) cv_L_13 rfl rfl (by decide) rfl (Nat.le_of_ble_eq_true rfl) rfl dL_law_203 (fun v μ1 p1 => ?_)
  obtain ⟨z1, rfl, hz1, I1, e1⟩ := p1
  rw [hz1]
  refine tl_aload_n 1 C dL_law_206 rfl rfl ?_
  refine tl_arg (j := 1) 3 0 C rfl (by omega) rfl rfl rfl rfl rfl dL_law_207 dL_law_208 dL_law_209 dL_law_210 dL_law_211 ?_
  refine tl_arg (j := 2) 3 0 C rfl (by omega) rfl rfl rfl rfl rfl dL_law_212 dL_law_213 dL_law_214 dL_law_215 dL_law_216 ?_
  refine tl_call (k := 74) [tm_i (xs (i + 1)).toInt, tm_i (xs (i + 2)).toInt] [tm_i _] C (k8_type E X.2.1 μ1 d s hd (rf_I_frame hR e1) _ _ (tl_r _) (tl_r _)) cv_L_17 rfl rfl (by decide) rfl (Nat.le_of_ble_eq_true rfl) rfl dL_law_217 (fun v μ2 p2 => ?_)
  obtain ⟨z2, rfl, hz2, I2, e2⟩ := p2
  rw [hz2]
  refine tl_eqi 1132 C dL_law_220 (by decide) ?_
  exact K _ _ _ (ty_ok hd _ _) hs (cl_I_frame I1 e2) I2
theorem lc_1 {E : tm_Ev} {X : tm_X} {Q : State → Prop} {sb L i : Nat} {xs : Nat → Int32} (C : tl_C E X RL cL_law 4 sb L xs) (hi : i + 6 ≤ L) {d s μ : tm_M} (hd : dd_ok d) (hs : ss_ok s) (hI : cl_I μ d s) (hR : rf_I μ d s) (K : ∀ d' s' μ' : tm_M, dd_ok d' → ss_ok s' → cl_I μ' d' s' → rf_I μ' d' s' → tl_V E X Q 4 1132 [(3, tm_i (i : Int)), (2, .ref (E.2.1 74)), (1, .ref (E.2.1 0)), (0, .ref sb)] [] μ') : tl_V E X Q 4 225 [(3, tm_i (i : Int)), (2, .ref (E.2.1 74)), (1, .ref (E.2.1 0)), (0, .ref sb)] [] μ := by
  refine tl_aload_n 2 C dL_law_225 rfl rfl ?_
  refine tl_arg (j := 1) 3 0 C rfl (by omega) rfl rfl rfl rfl rfl dL_law_226 dL_law_227 dL_law_228 dL_law_229 dL_law_230 ?_
  refine tl_call (k := 0) [tm_i (xs (i + 1)).toInt] [] C (k7_wipe E X.2.1 μ d s hd hI _ (tl_r _)) cv_L_18 rfl rfl (by decide) rfl (Nat.le_of_ble_eq_true rfl) rfl dL_law_231 (fun v μ1 p1 => ?_)
  obtain ⟨z1, rfl, hz1, I1, e1⟩ := p1
  rw [hz1]
  refine tl_aload_n 1 C dL_law_234 rfl rfl ?_
  refine tl_arg (j := 1) 3 0 C rfl (by omega) rfl rfl rfl rfl rfl dL_law_235 dL_law_236 dL_law_237 dL_law_238 dL_law_239 ?_
  refine tl_call (k := 74) [tm_i (xs (i + 1)).toInt] [tm_i _] C (k8_wipe E X.2.1 μ1 d s hd (rf_I_frame hR e1) _ (tl_r _)) cv_L_22 rfl rfl (by decide) rfl (Nat.le_of_ble_eq_true rfl) rfl dL_law_240 (fun v μ2 p2 => ?_)
  obtain ⟨z2, rfl, hz2, I2, e2⟩ := p2
  rw [hz2]
  refine tl_eqi 1132 C dL_law_243 (by decide) ?_
  exact K _ _ _ (wi_ok hd _) hs (cl_I_frame I1 e2) I2
theorem lc_2 {E : tm_Ev} {X : tm_X} {Q : State → Prop} {sb L i : Nat} {xs : Nat → Int32} (C : tl_C E X RL cL_law 4 sb L xs) (hi : i + 6 ≤ L) {d s μ : tm_M} (hd : dd_ok d) (hs : ss_ok s) (hI : cl_I μ d s) (hR : rf_I μ d s) (K : ∀ d' s' μ' : tm_M, dd_ok d' → ss_ok s' → cl_I μ' d' s' → rf_I μ' d' s' → tl_V E X Q 4 1132 [(3, tm_i (i : Int)), (2, .ref (E.2.1 74)), (1, .ref (E.2.1 0)), (0, .ref sb)] [] μ') : tl_V E X Q 4 248 [(3, tm_i (i : Int)), (2, .ref (E.2.1 74)), (1, .ref (E.2.1 0)), (0, .ref sb)] [] μ := by
  refine tl_aload_n 2 C dL_law_248 rfl rfl ?_
  refine tl_arg (j := 1) 3 0 C rfl (by omega) rfl rfl rfl rfl rfl dL_law_249 dL_law_250 dL_law_251 dL_law_252 dL_law_253 ?_
  refine tl_call (k := 0) [tm_i (xs (i + 1)).toInt] [] C (k7_undo E X.2.1 μ d s hd hI _ (tl_r _)) cv_L_23 rfl rfl (by decide) rfl (Nat.le_of_ble_eq_true rfl) rfl dL_law_254 (fun v μ1 p1 => ?_)
  obtain ⟨z1, rfl, hz1, I1, e1⟩ := p1
  rw [hz1]
  refine tl_aload_n 1 C dL_law_257 rfl rfl ?_
  refine tl_arg (j := 1) 3 0 C rfl (by omega) rfl rfl rfl rfl rfl dL_law_258 dL_law_259 dL_law_260 dL_law_261 dL_law_262 ?_
  refine tl_call (k := 74) [tm_i (xs (i + 1)).toInt] [tm_i _] C (k8_undo E X.2.1 μ1 d s hd (rf_I_frame hR e1) _ (tl_r _)) cv_L_26 rfl rfl (by decide) rfl (Nat.le_of_ble_eq_true rfl) rfl dL_law_263 (fun v μ2 p2 => ?_)
  obtain ⟨z2, rfl, hz2, I2, e2⟩ := p2
  rw [hz2]
  refine tl_eqi 1132 C dL_law_266 (by decide) ?_
  exact K _ _ _ (un_ok hd _) hs (cl_I_frame I1 e2) I2
theorem lc_3 {E : tm_Ev} {X : tm_X} {Q : State → Prop} {sb L i : Nat} {xs : Nat → Int32} (C : tl_C E X RL cL_law 4 sb L xs) (hi : i + 6 ≤ L) {d s μ : tm_M} (hd : dd_ok d) (hs : ss_ok s) (hI : cl_I μ d s) (hR : rf_I μ d s) (K : ∀ d' s' μ' : tm_M, dd_ok d' → ss_ok s' → cl_I μ' d' s' → rf_I μ' d' s' → tl_V E X Q 4 1132 [(3, tm_i (i : Int)), (2, .ref (E.2.1 74)), (1, .ref (E.2.1 0)), (0, .ref sb)] [] μ') : tl_V E X Q 4 271 [(3, tm_i (i : Int)), (2, .ref (E.2.1 74)), (1, .ref (E.2.1 0)), (0, .ref sb)] [] μ := by
  refine tl_aload_n 2 C dL_law_271 rfl rfl ?_
  refine tl_arg (j := 1) 3 0 C rfl (by omega) rfl rfl rfl rfl rfl dL_law_272 dL_law_273 dL_law_274 dL_law_275 dL_law_276 ?_
  refine tl_call (k := 0) [tm_i (xs (i + 1)).toInt] [] C (k7_fault E X.2.1 μ d s hd hI _ (tl_r _)) cv_L_27 rfl rfl (by decide) rfl (Nat.le_of_ble_eq_true rfl) rfl dL_law_277 (fun v μ1 p1 => ?_)
  obtain ⟨z1, rfl, hz1, I1, e1⟩ := p1
  rw [hz1]
  refine tl_aload_n 1 C dL_law_280 rfl rfl ?_
  refine tl_arg (j := 1) 3 0 C rfl (by omega) rfl rfl rfl rfl rfl dL_law_281 dL_law_282 dL_law_283 dL_law_284 dL_law_285 ?_
  refine tl_call (k := 74) [tm_i (xs (i + 1)).toInt] [tm_i _] C (k8_fault E X.2.1 μ1 d s hd (rf_I_frame hR e1) _ (tl_r _)) cv_L_30 rfl rfl (by decide) rfl (Nat.le_of_ble_eq_true rfl) rfl dL_law_286 (fun v μ2 p2 => ?_)
  obtain ⟨z2, rfl, hz2, I2, e2⟩ := p2
  rw [hz2]
  refine tl_eqi 1132 C dL_law_289 (by decide) ?_
  exact K _ _ _ hd hs (cl_I_frame I1 e2) I2
theorem lc_4 {E : tm_Ev} {X : tm_X} {Q : State → Prop} {sb L i : Nat} {xs : Nat → Int32} (C : tl_C E X RL cL_law 4 sb L xs) (hi : i + 6 ≤ L) {d s μ : tm_M} (hd : dd_ok d) (hs : ss_ok s) (hI : cl_I μ d s) (hR : rf_I μ d s) (K : ∀ d' s' μ' : tm_M, dd_ok d' → ss_ok s' → cl_I μ' d' s' → rf_I μ' d' s' → tl_V E X Q 4 1132 [(3, tm_i (i : Int)), (2, .ref (E.2.1 74)), (1, .ref (E.2.1 0)), (0, .ref sb)] [] μ') : tl_V E X Q 4 294 [(3, tm_i (i : Int)), (2, .ref (E.2.1 74)), (1, .ref (E.2.1 0)), (0, .ref sb)] [] μ := by
  refine tl_aload_n 2 C dL_law_294 rfl rfl ?_
  refine tl_arg (j := 1) 3 0 C rfl (by omega) rfl rfl rfl rfl rfl dL_law_295 dL_law_296 dL_law_297 dL_law_298 dL_law_299 ?_
  refine tl_call (k := 0) [tm_i (xs (i + 1)).toInt] [] C (k7_sea E X.2.1 μ d s hd hI _ (tl_r _)) cv_L_31 rfl rfl (by decide) rfl (Nat.le_of_ble_eq_true rfl) rfl dL_law_300 (fun v μ1 p1 => ?_)
  obtain ⟨z1, rfl, hz1, I1, e1⟩ := p1
  rw [hz1]
  refine tl_aload_n 1 C dL_law_303 rfl rfl ?_
  refine tl_arg (j := 1) 3 0 C rfl (by omega) rfl rfl rfl rfl rfl dL_law_304 dL_law_305 dL_law_306 dL_law_307 dL_law_308 ?_
  refine tl_call (k := 74) [tm_i (xs (i + 1)).toInt] [tm_i _] C (k8_sea E X.2.1 μ1 d s hd (rf_I_frame hR e1) _ (tl_r _)) cv_L_34 rfl rfl (by decide) rfl (Nat.le_of_ble_eq_true rfl) rfl dL_law_309 (fun v μ2 p2 => ?_)
  obtain ⟨z2, rfl, hz2, I2, e2⟩ := p2
  rw [hz2]
  refine tl_eqi 1132 C dL_law_312 (by decide) ?_
  exact K _ _ _ hd hs (cl_I_frame I1 e2) I2
theorem lc_5 {E : tm_Ev} {X : tm_X} {Q : State → Prop} {sb L i : Nat} {xs : Nat → Int32} (C : tl_C E X RL cL_law 4 sb L xs) (hi : i + 6 ≤ L) {d s μ : tm_M} (hd : dd_ok d) (hs : ss_ok s) (hI : cl_I μ d s) (hR : rf_I μ d s) (K : ∀ d' s' μ' : tm_M, dd_ok d' → ss_ok s' → cl_I μ' d' s' → rf_I μ' d' s' → tl_V E X Q 4 1132 [(3, tm_i (i : Int)), (2, .ref (E.2.1 74)), (1, .ref (E.2.1 0)), (0, .ref sb)] [] μ') : tl_V E X Q 4 317 [(3, tm_i (i : Int)), (2, .ref (E.2.1 74)), (1, .ref (E.2.1 0)), (0, .ref sb)] [] μ := by
  refine tl_aload_n 2 C dL_law_317 rfl rfl ?_
  refine tl_arg (j := 1) 3 0 C rfl (by omega) rfl rfl rfl rfl rfl dL_law_318 dL_law_319 dL_law_320 dL_law_321 dL_law_322 ?_
  refine tl_arg (j := 2) 3 0 C rfl (by omega) rfl rfl rfl rfl rfl dL_law_323 dL_law_324 dL_law_325 dL_law_326 dL_law_327 ?_
  refine tl_call (k := 0) [tm_i (xs (i + 1)).toInt, tm_i (xs (i + 2)).toInt] [] C (k7_order E X.2.1 μ d s hd hI _ _ (tl_r _) (tl_r _)) cv_L_35 rfl rfl (by decide) rfl (Nat.le_of_ble_eq_true rfl) rfl dL_law_328 (fun v μ1 p1 => ?_)
  obtain ⟨z1, rfl, hz1, I1, e1⟩ := p1
  rw [hz1]
  refine tl_aload_n 1 C dL_law_331 rfl rfl ?_
  refine tl_arg (j := 1) 3 0 C rfl (by omega) rfl rfl rfl rfl rfl dL_law_332 dL_law_333 dL_law_334 dL_law_335 dL_law_336 ?_
  refine tl_arg (j := 2) 3 0 C rfl (by omega) rfl rfl rfl rfl rfl dL_law_337 dL_law_338 dL_law_339 dL_law_340 dL_law_341 ?_
  refine tl_call (k := 74) [tm_i (xs (i + 1)).toInt, tm_i (xs (i + 2)).toInt] [tm_i _] C (k8_order E X.2.1 μ1 d s hd (rf_I_frame hR e1) _ _ (tl_r _) (tl_r _)) cv_L_38 rfl rfl (by decide) rfl (Nat.le_of_ble_eq_true rfl) rfl dL_law_342 (fun v μ2 p2 => ?_)
  obtain ⟨z2, rfl, hz2, I2, e2⟩ := p2
  rw [hz2]
  refine tl_eqi 1132 C dL_law_345 (by decide) ?_
  exact K _ _ _ hd hs (cl_I_frame I1 e2) I2
theorem lc_6 {E : tm_Ev} {X : tm_X} {Q : State → Prop} {sb L i : Nat} {xs : Nat → Int32} (C : tl_C E X RL cL_law 4 sb L xs) (hi : i + 6 ≤ L) {d s μ : tm_M} (hd : dd_ok d) (hs : ss_ok s) (hI : cl_I μ d s) (hR : rf_I μ d s) (K : ∀ d' s' μ' : tm_M, dd_ok d' → ss_ok s' → cl_I μ' d' s' → rf_I μ' d' s' → tl_V E X Q 4 1132 [(3, tm_i (i : Int)), (2, .ref (E.2.1 74)), (1, .ref (E.2.1 0)), (0, .ref sb)] [] μ') : tl_V E X Q 4 350 [(3, tm_i (i : Int)), (2, .ref (E.2.1 74)), (1, .ref (E.2.1 0)), (0, .ref sb)] [] μ := by
  refine tl_aload_n 2 C dL_law_350 rfl rfl ?_
  refine tl_arg (j := 1) 3 0 C rfl (by omega) rfl rfl rfl rfl rfl dL_law_351 dL_law_352 dL_law_353 dL_law_354 dL_law_355 ?_
  refine tl_arg (j := 2) 3 0 C rfl (by omega) rfl rfl rfl rfl rfl dL_law_356 dL_law_357 dL_law_358 dL_law_359 dL_law_360 ?_
  refine tl_call (k := 0) [tm_i (xs (i + 1)).toInt, tm_i (xs (i + 2)).toInt] [] C (k7_set E X.2.1 μ d s hd hI _ _ (tl_r _) (tl_r _)) cv_L_39 rfl rfl (by decide) rfl (Nat.le_of_ble_eq_true rfl) rfl dL_law_361 (fun v μ1 p1 => ?_)
  obtain ⟨z1, rfl, hz1, I1, e1⟩ := p1
  rw [hz1]
  refine tl_aload_n 1 C dL_law_364 rfl rfl ?_
  refine tl_arg (j := 1) 3 0 C rfl (by omega) rfl rfl rfl rfl rfl dL_law_365 dL_law_366 dL_law_367 dL_law_368 dL_law_369 ?_
  refine tl_arg (j := 2) 3 0 C rfl (by omega) rfl rfl rfl rfl rfl dL_law_370 dL_law_371 dL_law_372 dL_law_373 dL_law_374 ?_
  refine tl_call (k := 74) [tm_i (xs (i + 1)).toInt, tm_i (xs (i + 2)).toInt] [tm_i _] C (k8_set E X.2.1 μ1 d s hd (rf_I_frame hR e1) _ _ (tl_r _) (tl_r _)) cv_L_42 rfl rfl (by decide) rfl (Nat.le_of_ble_eq_true rfl) rfl dL_law_375 (fun v μ2 p2 => ?_)
  obtain ⟨z2, rfl, hz2, I2, e2⟩ := p2
  rw [hz2]
  refine tl_eqi 1132 C dL_law_378 (by decide) ?_
  exact K _ _ _ (se_ok hd _ _) hs (cl_I_frame I1 e2) I2
theorem lc_7 {E : tm_Ev} {X : tm_X} {Q : State → Prop} {sb L i : Nat} {xs : Nat → Int32} (C : tl_C E X RL cL_law 4 sb L xs) (hi : i + 6 ≤ L) {d s μ : tm_M} (hd : dd_ok d) (hs : ss_ok s) (hI : cl_I μ d s) (hR : rf_I μ d s) (K : ∀ d' s' μ' : tm_M, dd_ok d' → ss_ok s' → cl_I μ' d' s' → rf_I μ' d' s' → tl_V E X Q 4 1132 [(3, tm_i (i : Int)), (2, .ref (E.2.1 74)), (1, .ref (E.2.1 0)), (0, .ref sb)] [] μ') : tl_V E X Q 4 383 [(3, tm_i (i : Int)), (2, .ref (E.2.1 74)), (1, .ref (E.2.1 0)), (0, .ref sb)] [] μ := by
  refine tl_aload_n 2 C dL_law_383 rfl rfl ?_
  refine tl_arg (j := 1) 3 0 C rfl (by omega) rfl rfl rfl rfl rfl dL_law_384 dL_law_385 dL_law_386 dL_law_387 dL_law_388 ?_
  refine tl_call (k := 0) [tm_i (xs (i + 1)).toInt] [] C (k7_rain E X.2.1 μ d s hd hI _ (tl_r _)) cv_L_43 rfl rfl (by decide) rfl (Nat.le_of_ble_eq_true rfl) rfl dL_law_389 (fun v μ1 p1 => ?_)
  obtain ⟨z1, rfl, hz1, I1, e1⟩ := p1
  rw [hz1]
  refine tl_aload_n 1 C dL_law_392 rfl rfl ?_
  refine tl_arg (j := 1) 3 0 C rfl (by omega) rfl rfl rfl rfl rfl dL_law_393 dL_law_394 dL_law_395 dL_law_396 dL_law_397 ?_
  refine tl_call (k := 74) [tm_i (xs (i + 1)).toInt] [tm_i _] C (k8_rain E X.2.1 μ1 d s hd (rf_I_frame hR e1) _ (tl_r _)) cv_L_46 rfl rfl (by decide) rfl (Nat.le_of_ble_eq_true rfl) rfl dL_law_398 (fun v μ2 p2 => ?_)
  obtain ⟨z2, rfl, hz2, I2, e2⟩ := p2
  rw [hz2]
  refine tl_eqi 1132 C dL_law_401 (by decide) ?_
  exact K _ _ _ (ra_ok hd (Or.inl rfl) _) hs (cl_I_frame I1 e2) I2
theorem lc_8 {E : tm_Ev} {X : tm_X} {Q : State → Prop} {sb L i : Nat} {xs : Nat → Int32} (C : tl_C E X RL cL_law 4 sb L xs) (hi : i + 6 ≤ L) {d s μ : tm_M} (hd : dd_ok d) (hs : ss_ok s) (hI : cl_I μ d s) (hR : rf_I μ d s) (K : ∀ d' s' μ' : tm_M, dd_ok d' → ss_ok s' → cl_I μ' d' s' → rf_I μ' d' s' → tl_V E X Q 4 1132 [(3, tm_i (i : Int)), (2, .ref (E.2.1 74)), (1, .ref (E.2.1 0)), (0, .ref sb)] [] μ') : tl_V E X Q 4 406 [(3, tm_i (i : Int)), (2, .ref (E.2.1 74)), (1, .ref (E.2.1 0)), (0, .ref sb)] [] μ := by
  refine tl_aload_n 2 C dL_law_406 rfl rfl ?_
  refine tl_arg (j := 1) 3 0 C rfl (by omega) rfl rfl rfl rfl rfl dL_law_407 dL_law_408 dL_law_409 dL_law_410 dL_law_411 ?_
  refine tl_call (k := 0) [tm_i (xs (i + 1)).toInt] [] C (k7_dressing E X.2.1 μ d s hd hI _ (tl_r _)) cv_L_47 rfl rfl (by decide) rfl (Nat.le_of_ble_eq_true rfl) rfl dL_law_412 (fun v μ1 p1 => ?_)
  obtain ⟨z1, rfl, hz1, I1, e1⟩ := p1
  rw [hz1]
  refine tl_aload_n 1 C dL_law_415 rfl rfl ?_
  refine tl_arg (j := 1) 3 0 C rfl (by omega) rfl rfl rfl rfl rfl dL_law_416 dL_law_417 dL_law_418 dL_law_419 dL_law_420 ?_
  refine tl_call (k := 74) [tm_i (xs (i + 1)).toInt] [tm_i _] C (k8_dressing E X.2.1 μ1 d s hd (rf_I_frame hR e1) _ (tl_r _)) cv_L_50 rfl rfl (by decide) rfl (Nat.le_of_ble_eq_true rfl) rfl dL_law_421 (fun v μ2 p2 => ?_)
  obtain ⟨z2, rfl, hz2, I2, e2⟩ := p2
  rw [hz2]
  refine tl_eqi 1132 C dL_law_424 (by decide) ?_
  exact K _ _ _ (ra_ok hd (Or.inr rfl) _) hs (cl_I_frame I1 e2) I2
theorem lc_9 {E : tm_Ev} {X : tm_X} {Q : State → Prop} {sb L i : Nat} {xs : Nat → Int32} (C : tl_C E X RL cL_law 4 sb L xs) (hi : i + 6 ≤ L) {d s μ : tm_M} (hd : dd_ok d) (hs : ss_ok s) (hI : cl_I μ d s) (hR : rf_I μ d s) (K : ∀ d' s' μ' : tm_M, dd_ok d' → ss_ok s' → cl_I μ' d' s' → rf_I μ' d' s' → tl_V E X Q 4 1132 [(3, tm_i (i : Int)), (2, .ref (E.2.1 74)), (1, .ref (E.2.1 0)), (0, .ref sb)] [] μ') : tl_V E X Q 4 429 [(3, tm_i (i : Int)), (2, .ref (E.2.1 74)), (1, .ref (E.2.1 0)), (0, .ref sb)] [] μ := by
  refine tl_aload_n 2 C dL_law_429 rfl rfl ?_
  refine tl_arg (j := 1) 3 0 C rfl (by omega) rfl rfl rfl rfl rfl dL_law_430 dL_law_431 dL_law_432 dL_law_433 dL_law_434 ?_
  refine tl_call (k := 0) [tm_i (xs (i + 1)).toInt] [] C (k7_back E X.2.1 μ d s hd hI _ (tl_r _)) cv_L_51 rfl rfl (by decide) rfl (Nat.le_of_ble_eq_true rfl) rfl dL_law_435 (fun v μ1 p1 => ?_)
  obtain ⟨z1, rfl, hz1, I1, e1⟩ := p1
  rw [hz1]
  refine tl_aload_n 1 C dL_law_438 rfl rfl ?_
  refine tl_arg (j := 1) 3 0 C rfl (by omega) rfl rfl rfl rfl rfl dL_law_439 dL_law_440 dL_law_441 dL_law_442 dL_law_443 ?_
  refine tl_call (k := 74) [tm_i (xs (i + 1)).toInt] [tm_i _] C (k8_back E X.2.1 μ1 d s hd (rf_I_frame hR e1) _ (tl_r _)) cv_L_54 rfl rfl (by decide) rfl (Nat.le_of_ble_eq_true rfl) rfl dL_law_444 (fun v μ2 p2 => ?_)
  obtain ⟨z2, rfl, hz2, I2, e2⟩ := p2
  rw [hz2]
  refine tl_eqi 1132 C dL_law_447 (by decide) ?_
  exact K _ _ _ (ba_ok hd _) hs (cl_I_frame I1 e2) I2
theorem lc_10 {E : tm_Ev} {X : tm_X} {Q : State → Prop} {sb L i : Nat} {xs : Nat → Int32} (C : tl_C E X RL cL_law 4 sb L xs) (hi : i + 6 ≤ L) {d s μ : tm_M} (hd : dd_ok d) (hs : ss_ok s) (hI : cl_I μ d s) (hR : rf_I μ d s) (K : ∀ d' s' μ' : tm_M, dd_ok d' → ss_ok s' → cl_I μ' d' s' → rf_I μ' d' s' → tl_V E X Q 4 1132 [(3, tm_i (i : Int)), (2, .ref (E.2.1 74)), (1, .ref (E.2.1 0)), (0, .ref sb)] [] μ') : tl_V E X Q 4 452 [(3, tm_i (i : Int)), (2, .ref (E.2.1 74)), (1, .ref (E.2.1 0)), (0, .ref sb)] [] μ := by
  refine tl_aload_n 2 C dL_law_452 rfl rfl ?_
  refine tl_arg (j := 1) 3 0 C rfl (by omega) rfl rfl rfl rfl rfl dL_law_453 dL_law_454 dL_law_455 dL_law_456 dL_law_457 ?_
  refine tl_call (k := 0) [tm_i (xs (i + 1)).toInt] [] C (k7_read E X.2.1 μ d s hd hs hI _ (tl_r _)) cv_L_55 rfl rfl (by decide) rfl (Nat.le_of_ble_eq_true rfl) rfl dL_law_458 (fun v μ1 p1 => ?_)
  obtain ⟨z1, rfl, hz1, I1, e1⟩ := p1
  rw [hz1]
  refine tl_aload_n 1 C dL_law_461 rfl rfl ?_
  refine tl_arg (j := 1) 3 0 C rfl (by omega) rfl rfl rfl rfl rfl dL_law_462 dL_law_463 dL_law_464 dL_law_465 dL_law_466 ?_
  refine tl_call (k := 74) [tm_i (xs (i + 1)).toInt] [tm_i _] C (k8_read E X.2.1 μ1 d s hd hs (rf_I_frame hR e1) _ (tl_r _)) cv_L_58 rfl rfl (by decide) rfl (Nat.le_of_ble_eq_true rfl) rfl dL_law_467 (fun v μ2 p2 => ?_)
  obtain ⟨z2, rfl, hz2, I2, e2⟩ := p2
  rw [hz2]
  refine tl_eqi 1132 C dL_law_470 (by decide) ?_
  exact K _ _ _ (rd_ok hd _ _) (rs_ok hs _) (cl_I_frame I1 e2) I2
theorem lc_11 {E : tm_Ev} {X : tm_X} {Q : State → Prop} {sb L i : Nat} {xs : Nat → Int32} (C : tl_C E X RL cL_law 4 sb L xs) (hi : i + 6 ≤ L) {d s μ : tm_M} (hd : dd_ok d) (hs : ss_ok s) (hI : cl_I μ d s) (hR : rf_I μ d s) (K : ∀ d' s' μ' : tm_M, dd_ok d' → ss_ok s' → cl_I μ' d' s' → rf_I μ' d' s' → tl_V E X Q 4 1132 [(3, tm_i (i : Int)), (2, .ref (E.2.1 74)), (1, .ref (E.2.1 0)), (0, .ref sb)] [] μ') : tl_V E X Q 4 475 [(3, tm_i (i : Int)), (2, .ref (E.2.1 74)), (1, .ref (E.2.1 0)), (0, .ref sb)] [] μ := by
  refine tl_aload_n 2 C dL_law_475 rfl rfl ?_
  refine tl_arg (j := 1) 3 0 C rfl (by omega) rfl rfl rfl rfl rfl dL_law_476 dL_law_477 dL_law_478 dL_law_479 dL_law_480 ?_
  refine tl_arg (j := 2) 3 0 C rfl (by omega) rfl rfl rfl rfl rfl dL_law_481 dL_law_482 dL_law_483 dL_law_484 dL_law_485 ?_
  refine tl_call (k := 0) [tm_i (xs (i + 1)).toInt, tm_i (xs (i + 2)).toInt] [] C (k7_at E X.2.1 μ d s hd hI _ _ (tl_r _) (tl_r _)) cv_L_59 rfl rfl (by decide) rfl (Nat.le_of_ble_eq_true rfl) rfl dL_law_486 (fun v μ1 p1 => ?_)
  obtain ⟨z1, rfl, hz1, I1, e1⟩ := p1
  rw [hz1]
  refine tl_aload_n 1 C dL_law_489 rfl rfl ?_
  refine tl_arg (j := 1) 3 0 C rfl (by omega) rfl rfl rfl rfl rfl dL_law_490 dL_law_491 dL_law_492 dL_law_493 dL_law_494 ?_
  refine tl_arg (j := 2) 3 0 C rfl (by omega) rfl rfl rfl rfl rfl dL_law_495 dL_law_496 dL_law_497 dL_law_498 dL_law_499 ?_
  refine tl_call (k := 74) [tm_i (xs (i + 1)).toInt, tm_i (xs (i + 2)).toInt] [tm_i _] C (k8_at E X.2.1 μ1 d s hd (rf_I_frame hR e1) _ _ (tl_r _) (tl_r _)) cv_L_62 rfl rfl (by decide) rfl (Nat.le_of_ble_eq_true rfl) rfl dL_law_500 (fun v μ2 p2 => ?_)
  obtain ⟨z2, rfl, hz2, I2, e2⟩ := p2
  rw [hz2]
  refine tl_eqi 1132 C dL_law_503 (by decide) ?_
  exact K _ _ _ hd hs (cl_I_frame I1 e2) I2
theorem lc_12 {E : tm_Ev} {X : tm_X} {Q : State → Prop} {sb L i : Nat} {xs : Nat → Int32} (C : tl_C E X RL cL_law 4 sb L xs) (hi : i + 6 ≤ L) {d s μ : tm_M} (hd : dd_ok d) (hs : ss_ok s) (hI : cl_I μ d s) (hR : rf_I μ d s) (K : ∀ d' s' μ' : tm_M, dd_ok d' → ss_ok s' → cl_I μ' d' s' → rf_I μ' d' s' → tl_V E X Q 4 1132 [(3, tm_i (i : Int)), (2, .ref (E.2.1 74)), (1, .ref (E.2.1 0)), (0, .ref sb)] [] μ') : tl_V E X Q 4 508 [(3, tm_i (i : Int)), (2, .ref (E.2.1 74)), (1, .ref (E.2.1 0)), (0, .ref sb)] [] μ := by
  refine tl_aload_n 2 C dL_law_508 rfl rfl ?_
  refine tl_arg (j := 1) 3 0 C rfl (by omega) rfl rfl rfl rfl rfl dL_law_509 dL_law_510 dL_law_511 dL_law_512 dL_law_513 ?_
  refine tl_call (k := 0) [tm_i (xs (i + 1)).toInt] [] C (k7_ends E X.2.1 μ d s hd hI _ (tl_r _)) cv_L_63 rfl rfl (by decide) rfl (Nat.le_of_ble_eq_true rfl) rfl dL_law_514 (fun v μ1 p1 => ?_)
  obtain ⟨z1, rfl, hz1, I1, e1⟩ := p1
  rw [hz1]
  refine tl_aload_n 1 C dL_law_517 rfl rfl ?_
  refine tl_arg (j := 1) 3 0 C rfl (by omega) rfl rfl rfl rfl rfl dL_law_518 dL_law_519 dL_law_520 dL_law_521 dL_law_522 ?_
  refine tl_call (k := 74) [tm_i (xs (i + 1)).toInt] [tm_i _] C (k8_ends E X.2.1 μ1 d s hd (rf_I_frame hR e1) _ (tl_r _)) cv_L_66 rfl rfl (by decide) rfl (Nat.le_of_ble_eq_true rfl) rfl dL_law_523 (fun v μ2 p2 => ?_)
  obtain ⟨z2, rfl, hz2, I2, e2⟩ := p2
  rw [hz2]
  refine tl_eqi 1132 C dL_law_526 (by decide) ?_
  exact K _ _ _ hd hs (cl_I_frame I1 e2) I2
theorem lc_13 {E : tm_Ev} {X : tm_X} {Q : State → Prop} {sb L i : Nat} {xs : Nat → Int32} (C : tl_C E X RL cL_law 4 sb L xs) (hi : i + 6 ≤ L) {d s μ : tm_M} (hd : dd_ok d) (hs : ss_ok s) (hI : cl_I μ d s) (hR : rf_I μ d s) (K : ∀ d' s' μ' : tm_M, dd_ok d' → ss_ok s' → cl_I μ' d' s' → rf_I μ' d' s' → tl_V E X Q 4 1132 [(3, tm_i (i : Int)), (2, .ref (E.2.1 74)), (1, .ref (E.2.1 0)), (0, .ref sb)] [] μ') : tl_V E X Q 4 531 [(3, tm_i (i : Int)), (2, .ref (E.2.1 74)), (1, .ref (E.2.1 0)), (0, .ref sb)] [] μ := by
  refine tl_aload_n 2 C dL_law_531 rfl rfl ?_
  refine tl_call (k := 0) [] [] C (k7_paid E X.2.1 μ d s hd hI) cv_L_67 rfl rfl (by decide) rfl (Nat.le_of_ble_eq_true rfl) rfl dL_law_532 (fun v μ1 p1 => ?_)
  obtain ⟨z1, rfl, hz1, I1, e1⟩ := p1
  rw [hz1]
  refine tl_aload_n 1 C dL_law_535 rfl rfl ?_
  refine tl_call (k := 74) [] [tm_i _] C (k8_paid E X.2.1 μ1 d s hd (rf_I_frame hR e1)) cv_L_71 rfl rfl (by decide) rfl (Nat.le_of_ble_eq_true rfl) rfl dL_law_536 (fun v μ2 p2 => ?_)
  obtain ⟨z2, rfl, hz2, I2, e2⟩ := p2
  rw [hz2]
  refine tl_eqi 1132 C dL_law_539 (by decide) ?_
  exact K _ _ _ hd hs (cl_I_frame I1 e2) I2
theorem lc_14 {E : tm_Ev} {X : tm_X} {Q : State → Prop} {sb L i : Nat} {xs : Nat → Int32} (C : tl_C E X RL cL_law 4 sb L xs) (hi : i + 6 ≤ L) {d s μ : tm_M} (hd : dd_ok d) (hs : ss_ok s) (hI : cl_I μ d s) (hR : rf_I μ d s) (K : ∀ d' s' μ' : tm_M, dd_ok d' → ss_ok s' → cl_I μ' d' s' → rf_I μ' d' s' → tl_V E X Q 4 1132 [(3, tm_i (i : Int)), (2, .ref (E.2.1 74)), (1, .ref (E.2.1 0)), (0, .ref sb)] [] μ') : tl_V E X Q 4 544 [(3, tm_i (i : Int)), (2, .ref (E.2.1 74)), (1, .ref (E.2.1 0)), (0, .ref sb)] [] μ := by
  refine tl_aload_n 2 C dL_law_544 rfl rfl ?_
  refine tl_call (k := 0) [] [] C (k7_spilt E X.2.1 μ d s hd hI) cv_L_72 rfl rfl (by decide) rfl (Nat.le_of_ble_eq_true rfl) rfl dL_law_545 (fun v μ1 p1 => ?_)
  obtain ⟨z1, rfl, hz1, I1, e1⟩ := p1
  rw [hz1]
  refine tl_aload_n 1 C dL_law_548 rfl rfl ?_
  refine tl_call (k := 74) [] [tm_i _] C (k8_spilt E X.2.1 μ1 d s hd (rf_I_frame hR e1)) cv_L_75 rfl rfl (by decide) rfl (Nat.le_of_ble_eq_true rfl) rfl dL_law_549 (fun v μ2 p2 => ?_)
  obtain ⟨z2, rfl, hz2, I2, e2⟩ := p2
  rw [hz2]
  refine tl_eqi 1132 C dL_law_552 (by decide) ?_
  exact K _ _ _ hd hs (cl_I_frame I1 e2) I2
theorem lc_15 {E : tm_Ev} {X : tm_X} {Q : State → Prop} {sb L i : Nat} {xs : Nat → Int32} (C : tl_C E X RL cL_law 4 sb L xs) (hi : i + 6 ≤ L) {d s μ : tm_M} (hd : dd_ok d) (hs : ss_ok s) (hI : cl_I μ d s) (hR : rf_I μ d s) (K : ∀ d' s' μ' : tm_M, dd_ok d' → ss_ok s' → cl_I μ' d' s' → rf_I μ' d' s' → tl_V E X Q 4 1132 [(3, tm_i (i : Int)), (2, .ref (E.2.1 74)), (1, .ref (E.2.1 0)), (0, .ref sb)] [] μ') : tl_V E X Q 4 557 [(3, tm_i (i : Int)), (2, .ref (E.2.1 74)), (1, .ref (E.2.1 0)), (0, .ref sb)] [] μ := by
  refine tl_aload_n 2 C dL_law_557 rfl rfl ?_
  refine tl_call (k := 0) [] [] C (k7_idle E X.2.1 μ d s hd hI) cv_L_76 rfl rfl (by decide) rfl (Nat.le_of_ble_eq_true rfl) rfl dL_law_558 (fun v μ1 p1 => ?_)
  obtain ⟨z1, rfl, hz1, I1, e1⟩ := p1
  rw [hz1]
  refine tl_aload_n 1 C dL_law_561 rfl rfl ?_
  refine tl_call (k := 74) [] [tm_i _] C (k8_idle E X.2.1 μ1 d s hd (rf_I_frame hR e1)) cv_L_79 rfl rfl (by decide) rfl (Nat.le_of_ble_eq_true rfl) rfl dL_law_562 (fun v μ2 p2 => ?_)
  obtain ⟨z2, rfl, hz2, I2, e2⟩ := p2
  rw [hz2]
  refine tl_eqi 1132 C dL_law_565 (by decide) ?_
  exact K _ _ _ hd hs (cl_I_frame I1 e2) I2
theorem lc_16 {E : tm_Ev} {X : tm_X} {Q : State → Prop} {sb L i : Nat} {xs : Nat → Int32} (C : tl_C E X RL cL_law 4 sb L xs) (hi : i + 6 ≤ L) {d s μ : tm_M} (hd : dd_ok d) (hs : ss_ok s) (hI : cl_I μ d s) (hR : rf_I μ d s) (K : ∀ d' s' μ' : tm_M, dd_ok d' → ss_ok s' → cl_I μ' d' s' → rf_I μ' d' s' → tl_V E X Q 4 1132 [(3, tm_i (i : Int)), (2, .ref (E.2.1 74)), (1, .ref (E.2.1 0)), (0, .ref sb)] [] μ') : tl_V E X Q 4 570 [(3, tm_i (i : Int)), (2, .ref (E.2.1 74)), (1, .ref (E.2.1 0)), (0, .ref sb)] [] μ := by
  refine tl_aload_n 2 C dL_law_570 rfl rfl ?_
  refine tl_call (k := 0) [] [] C (k7_late E X.2.1 μ d s hd hI) cv_L_80 rfl rfl (by decide) rfl (Nat.le_of_ble_eq_true rfl) rfl dL_law_571 (fun v μ1 p1 => ?_)
  obtain ⟨z1, rfl, hz1, I1, e1⟩ := p1
  rw [hz1]
  refine tl_aload_n 1 C dL_law_574 rfl rfl ?_
  refine tl_call (k := 74) [] [tm_i _] C (k8_late E X.2.1 μ1 d s hd (rf_I_frame hR e1)) cv_L_83 rfl rfl (by decide) rfl (Nat.le_of_ble_eq_true rfl) rfl dL_law_575 (fun v μ2 p2 => ?_)
  obtain ⟨z2, rfl, hz2, I2, e2⟩ := p2
  rw [hz2]
  refine tl_eqi 1132 C dL_law_578 (by decide) ?_
  exact K _ _ _ hd hs (cl_I_frame I1 e2) I2
theorem lc_17 {E : tm_Ev} {X : tm_X} {Q : State → Prop} {sb L i : Nat} {xs : Nat → Int32} (C : tl_C E X RL cL_law 4 sb L xs) (hi : i + 6 ≤ L) {d s μ : tm_M} (hd : dd_ok d) (hs : ss_ok s) (hI : cl_I μ d s) (hR : rf_I μ d s) (K : ∀ d' s' μ' : tm_M, dd_ok d' → ss_ok s' → cl_I μ' d' s' → rf_I μ' d' s' → tl_V E X Q 4 1132 [(3, tm_i (i : Int)), (2, .ref (E.2.1 74)), (1, .ref (E.2.1 0)), (0, .ref sb)] [] μ') : tl_V E X Q 4 583 [(3, tm_i (i : Int)), (2, .ref (E.2.1 74)), (1, .ref (E.2.1 0)), (0, .ref sb)] [] μ := by
  refine tl_aload_n 2 C dL_law_583 rfl rfl ?_
  refine tl_arg (j := 1) 3 0 C rfl (by omega) rfl rfl rfl rfl rfl dL_law_584 dL_law_585 dL_law_586 dL_law_587 dL_law_588 ?_
  refine tl_call (k := 0) [tm_i (xs (i + 1)).toInt] [] C (k7_row E X.2.1 μ d s hd hI _ (tl_r _)) cv_L_84 rfl rfl (by decide) rfl (Nat.le_of_ble_eq_true rfl) rfl dL_law_589 (fun v μ1 p1 => ?_)
  obtain ⟨z1, rfl, hz1, I1, e1⟩ := p1
  rw [hz1]
  refine tl_aload_n 1 C dL_law_592 rfl rfl ?_
  refine tl_arg (j := 1) 3 0 C rfl (by omega) rfl rfl rfl rfl rfl dL_law_593 dL_law_594 dL_law_595 dL_law_596 dL_law_597 ?_
  refine tl_call (k := 74) [tm_i (xs (i + 1)).toInt] [tm_i _] C (k8_row E X.2.1 μ1 d s hd (rf_I_frame hR e1) _ (tl_r _)) cv_L_87 rfl rfl (by decide) rfl (Nat.le_of_ble_eq_true rfl) rfl dL_law_598 (fun v μ2 p2 => ?_)
  obtain ⟨z2, rfl, hz2, I2, e2⟩ := p2
  rw [hz2]
  refine tl_eqi 1132 C dL_law_601 (by decide) ?_
  exact K _ _ _ hd hs (cl_I_frame I1 e2) I2
theorem lc_18 {E : tm_Ev} {X : tm_X} {Q : State → Prop} {sb L i : Nat} {xs : Nat → Int32} (C : tl_C E X RL cL_law 4 sb L xs) (hi : i + 6 ≤ L) {d s μ : tm_M} (hd : dd_ok d) (hs : ss_ok s) (hI : cl_I μ d s) (hR : rf_I μ d s) (K : ∀ d' s' μ' : tm_M, dd_ok d' → ss_ok s' → cl_I μ' d' s' → rf_I μ' d' s' → tl_V E X Q 4 1132 [(3, tm_i (i : Int)), (2, .ref (E.2.1 74)), (1, .ref (E.2.1 0)), (0, .ref sb)] [] μ') : tl_V E X Q 4 606 [(3, tm_i (i : Int)), (2, .ref (E.2.1 74)), (1, .ref (E.2.1 0)), (0, .ref sb)] [] μ := by
  refine tl_aload_n 2 C dL_law_606 rfl rfl ?_
  refine tl_arg (j := 1) 3 0 C rfl (by omega) rfl rfl rfl rfl rfl dL_law_607 dL_law_608 dL_law_609 dL_law_610 dL_law_611 ?_
  refine tl_call (k := 0) [tm_i (xs (i + 1)).toInt] [] C (k7_dress E X.2.1 μ d s hd hI _ (tl_r _)) cv_L_88 rfl rfl (by decide) rfl (Nat.le_of_ble_eq_true rfl) rfl dL_law_612 (fun v μ1 p1 => ?_)
  obtain ⟨z1, rfl, hz1, I1, e1⟩ := p1
  rw [hz1]
  refine tl_aload_n 1 C dL_law_615 rfl rfl ?_
  refine tl_arg (j := 1) 3 0 C rfl (by omega) rfl rfl rfl rfl rfl dL_law_616 dL_law_617 dL_law_618 dL_law_619 dL_law_620 ?_
  refine tl_call (k := 74) [tm_i (xs (i + 1)).toInt] [tm_i _] C (k8_dress E X.2.1 μ1 d s hd (rf_I_frame hR e1) _ (tl_r _)) cv_L_91 rfl rfl (by decide) rfl (Nat.le_of_ble_eq_true rfl) rfl dL_law_621 (fun v μ2 p2 => ?_)
  obtain ⟨z2, rfl, hz2, I2, e2⟩ := p2
  rw [hz2]
  refine tl_eqi 1132 C dL_law_624 (by decide) ?_
  exact K _ _ _ hd hs (cl_I_frame I1 e2) I2
theorem lc_19 {E : tm_Ev} {X : tm_X} {Q : State → Prop} {sb L i : Nat} {xs : Nat → Int32} (C : tl_C E X RL cL_law 4 sb L xs) (hi : i + 6 ≤ L) {d s μ : tm_M} (hd : dd_ok d) (hs : ss_ok s) (hI : cl_I μ d s) (hR : rf_I μ d s) (K : ∀ d' s' μ' : tm_M, dd_ok d' → ss_ok s' → cl_I μ' d' s' → rf_I μ' d' s' → tl_V E X Q 4 1132 [(3, tm_i (i : Int)), (2, .ref (E.2.1 74)), (1, .ref (E.2.1 0)), (0, .ref sb)] [] μ') : tl_V E X Q 4 629 [(3, tm_i (i : Int)), (2, .ref (E.2.1 74)), (1, .ref (E.2.1 0)), (0, .ref sb)] [] μ := by
  refine tl_aload_n 2 C dL_law_629 rfl rfl ?_
  refine tl_call (k := 0) [] [] C (k7_least E X.2.1 μ d s hd hI) cv_L_92 rfl rfl (by decide) rfl (Nat.le_of_ble_eq_true rfl) rfl dL_law_630 (fun v μ1 p1 => ?_)
  obtain ⟨z1, rfl, hz1, I1, e1⟩ := p1
  rw [hz1]
  refine tl_aload_n 1 C dL_law_633 rfl rfl ?_
  refine tl_call (k := 74) [] [tm_i _] C (k8_least E X.2.1 μ1 d s hd (rf_I_frame hR e1)) cv_L_95 rfl rfl (by decide) rfl (Nat.le_of_ble_eq_true rfl) rfl dL_law_634 (fun v μ2 p2 => ?_)
  obtain ⟨z2, rfl, hz2, I2, e2⟩ := p2
  rw [hz2]
  refine tl_eqi 1132 C dL_law_637 (by decide) ?_
  exact K _ _ _ hd hs (cl_I_frame I1 e2) I2
theorem lc_20 {E : tm_Ev} {X : tm_X} {Q : State → Prop} {sb L i : Nat} {xs : Nat → Int32} (C : tl_C E X RL cL_law 4 sb L xs) (hi : i + 6 ≤ L) {d s μ : tm_M} (hd : dd_ok d) (hs : ss_ok s) (hI : cl_I μ d s) (hR : rf_I μ d s) (K : ∀ d' s' μ' : tm_M, dd_ok d' → ss_ok s' → cl_I μ' d' s' → rf_I μ' d' s' → tl_V E X Q 4 1132 [(3, tm_i (i : Int)), (2, .ref (E.2.1 74)), (1, .ref (E.2.1 0)), (0, .ref sb)] [] μ') : tl_V E X Q 4 642 [(3, tm_i (i : Int)), (2, .ref (E.2.1 74)), (1, .ref (E.2.1 0)), (0, .ref sb)] [] μ := by
  refine tl_aload_n 2 C dL_law_642 rfl rfl ?_
  refine tl_arg (j := 1) 3 0 C rfl (by omega) rfl rfl rfl rfl rfl dL_law_643 dL_law_644 dL_law_645 dL_law_646 dL_law_647 ?_
  refine tl_call (k := 0) [tm_i (xs (i + 1)).toInt] [] C (k7_send E X.2.1 μ d s hd hI _ (tl_r _)) cv_L_96 rfl rfl (by decide) rfl (Nat.le_of_ble_eq_true rfl) rfl dL_law_648 (fun v μ1 p1 => ?_)
  obtain ⟨z1, rfl, hz1, I1, e1⟩ := p1
  rw [hz1]
  refine tl_aload_n 1 C dL_law_651 rfl rfl ?_
  refine tl_arg (j := 1) 3 0 C rfl (by omega) rfl rfl rfl rfl rfl dL_law_652 dL_law_653 dL_law_654 dL_law_655 dL_law_656 ?_
  refine tl_call (k := 74) [tm_i (xs (i + 1)).toInt] [tm_i _] C (k8_send E X.2.1 μ1 d s hd (rf_I_frame hR e1) _ (tl_r _)) cv_L_99 rfl rfl (by decide) rfl (Nat.le_of_ble_eq_true rfl) rfl dL_law_657 (fun v μ2 p2 => ?_)
  obtain ⟨z2, rfl, hz2, I2, e2⟩ := p2
  rw [hz2]
  refine tl_eqi 1132 C dL_law_660 (by decide) ?_
  exact K _ _ _ hd hs (cl_I_frame I1 e2) I2
theorem lc_21 {E : tm_Ev} {X : tm_X} {Q : State → Prop} {sb L i : Nat} {xs : Nat → Int32} (C : tl_C E X RL cL_law 4 sb L xs) (hi : i + 6 ≤ L) {d s μ : tm_M} (hd : dd_ok d) (hs : ss_ok s) (hI : cl_I μ d s) (hR : rf_I μ d s) (K : ∀ d' s' μ' : tm_M, dd_ok d' → ss_ok s' → cl_I μ' d' s' → rf_I μ' d' s' → tl_V E X Q 4 1132 [(3, tm_i (i : Int)), (2, .ref (E.2.1 74)), (1, .ref (E.2.1 0)), (0, .ref sb)] [] μ') : tl_V E X Q 4 665 [(3, tm_i (i : Int)), (2, .ref (E.2.1 74)), (1, .ref (E.2.1 0)), (0, .ref sb)] [] μ := by
  refine tl_aload_n 2 C dL_law_665 rfl rfl ?_
  refine tl_arg (j := 1) 3 0 C rfl (by omega) rfl rfl rfl rfl rfl dL_law_666 dL_law_667 dL_law_668 dL_law_669 dL_law_670 ?_
  refine tl_arg (j := 2) 3 0 C rfl (by omega) rfl rfl rfl rfl rfl dL_law_671 dL_law_672 dL_law_673 dL_law_674 dL_law_675 ?_
  refine tl_call (k := 0) [tm_i (xs (i + 1)).toInt, tm_i (xs (i + 2)).toInt] [] C (k7_seen E X.2.1 μ d s hd hs hI _ _ (tl_r _) (tl_r _)) cv_L_100 rfl rfl (by decide) rfl (Nat.le_of_ble_eq_true rfl) rfl dL_law_676 (fun v μ1 p1 => ?_)
  obtain ⟨z1, rfl, hz1, I1, e1⟩ := p1
  rw [hz1]
  refine tl_aload_n 1 C dL_law_679 rfl rfl ?_
  refine tl_arg (j := 1) 3 0 C rfl (by omega) rfl rfl rfl rfl rfl dL_law_680 dL_law_681 dL_law_682 dL_law_683 dL_law_684 ?_
  refine tl_arg (j := 2) 3 0 C rfl (by omega) rfl rfl rfl rfl rfl dL_law_685 dL_law_686 dL_law_687 dL_law_688 dL_law_689 ?_
  refine tl_call (k := 74) [tm_i (xs (i + 1)).toInt, tm_i (xs (i + 2)).toInt] [tm_i _] C (k8_seen E X.2.1 μ1 d s hd hs (rf_I_frame hR e1) _ _ (tl_r _) (tl_r _)) cv_L_103 rfl rfl (by decide) rfl (Nat.le_of_ble_eq_true rfl) rfl dL_law_690 (fun v μ2 p2 => ?_)
  obtain ⟨z2, rfl, hz2, I2, e2⟩ := p2
  rw [hz2]
  refine tl_eqi 1132 C dL_law_693 (by decide) ?_
  exact K _ _ _ hd (sn_ok hs _ _) (cl_I_frame I1 e2) I2
theorem lc_22 {E : tm_Ev} {X : tm_X} {Q : State → Prop} {sb L i : Nat} {xs : Nat → Int32} (C : tl_C E X RL cL_law 4 sb L xs) (hi : i + 6 ≤ L) {d s μ : tm_M} (hd : dd_ok d) (hs : ss_ok s) (hI : cl_I μ d s) (hR : rf_I μ d s) (K : ∀ d' s' μ' : tm_M, dd_ok d' → ss_ok s' → cl_I μ' d' s' → rf_I μ' d' s' → tl_V E X Q 4 1132 [(3, tm_i (i : Int)), (2, .ref (E.2.1 74)), (1, .ref (E.2.1 0)), (0, .ref sb)] [] μ') : tl_V E X Q 4 698 [(3, tm_i (i : Int)), (2, .ref (E.2.1 74)), (1, .ref (E.2.1 0)), (0, .ref sb)] [] μ := by
  refine tl_aload_n 2 C dL_law_698 rfl rfl ?_
  refine tl_call (k := 0) [] [] C (k7_forget E X.2.1 μ d s hd hs hI) cv_L_104 rfl rfl (by decide) rfl (Nat.le_of_ble_eq_true rfl) rfl dL_law_699 (fun v μ1 p1 => ?_)
  obtain ⟨z1, rfl, hz1, I1, e1⟩ := p1
  rw [hz1]
  refine tl_aload_n 1 C dL_law_702 rfl rfl ?_
  refine tl_call (k := 74) [] [tm_i _] C (k8_forget E X.2.1 μ1 d s hd hs (rf_I_frame hR e1)) cv_L_107 rfl rfl (by decide) rfl (Nat.le_of_ble_eq_true rfl) rfl dL_law_703 (fun v μ2 p2 => ?_)
  obtain ⟨z2, rfl, hz2, I2, e2⟩ := p2
  rw [hz2]
  refine tl_eqi 1132 C dL_law_706 (by decide) ?_
  exact K _ _ _ hd (ss_fg hs) (cl_I_frame I1 e2) I2
theorem lc_23 {E : tm_Ev} {X : tm_X} {Q : State → Prop} {sb L i : Nat} {xs : Nat → Int32} (C : tl_C E X RL cL_law 4 sb L xs) (hi : i + 6 ≤ L) {d s μ : tm_M} (hd : dd_ok d) (hs : ss_ok s) (hI : cl_I μ d s) (hR : rf_I μ d s) (K : ∀ d' s' μ' : tm_M, dd_ok d' → ss_ok s' → cl_I μ' d' s' → rf_I μ' d' s' → tl_V E X Q 4 1132 [(3, tm_i (i : Int)), (2, .ref (E.2.1 74)), (1, .ref (E.2.1 0)), (0, .ref sb)] [] μ') : tl_V E X Q 4 711 [(3, tm_i (i : Int)), (2, .ref (E.2.1 74)), (1, .ref (E.2.1 0)), (0, .ref sb)] [] μ := by
  refine tl_aload_n 2 C dL_law_711 rfl rfl ?_
  refine tl_call (k := 0) [] [] C (k7_never E X.2.1 μ d s hd hs hI) cv_L_108 rfl rfl (by decide) rfl (Nat.le_of_ble_eq_true rfl) rfl dL_law_712 (fun v μ1 p1 => ?_)
  obtain ⟨z1, rfl, hz1, I1, e1⟩ := p1
  rw [hz1]
  refine tl_aload_n 1 C dL_law_715 rfl rfl ?_
  refine tl_call (k := 74) [] [tm_i _] C (k8_never E X.2.1 μ1 d s hd hs (rf_I_frame hR e1)) cv_L_111 rfl rfl (by decide) rfl (Nat.le_of_ble_eq_true rfl) rfl dL_law_716 (fun v μ2 p2 => ?_)
  obtain ⟨z2, rfl, hz2, I2, e2⟩ := p2
  rw [hz2]
  refine tl_eqi 1132 C dL_law_719 (by decide) ?_
  exact K _ _ _ hd hs (cl_I_frame I1 e2) I2
theorem lc_24 {E : tm_Ev} {X : tm_X} {Q : State → Prop} {sb L i : Nat} {xs : Nat → Int32} (C : tl_C E X RL cL_law 4 sb L xs) (hi : i + 6 ≤ L) {d s μ : tm_M} (hd : dd_ok d) (hs : ss_ok s) (hI : cl_I μ d s) (hR : rf_I μ d s) (K : ∀ d' s' μ' : tm_M, dd_ok d' → ss_ok s' → cl_I μ' d' s' → rf_I μ' d' s' → tl_V E X Q 4 1132 [(3, tm_i (i : Int)), (2, .ref (E.2.1 74)), (1, .ref (E.2.1 0)), (0, .ref sb)] [] μ') : tl_V E X Q 4 724 [(3, tm_i (i : Int)), (2, .ref (E.2.1 74)), (1, .ref (E.2.1 0)), (0, .ref sb)] [] μ := by
  refine tl_aload_n 2 C dL_law_724 rfl rfl ?_
  refine tl_arg (j := 1) 3 0 C rfl (by omega) rfl rfl rfl rfl rfl dL_law_725 dL_law_726 dL_law_727 dL_law_728 dL_law_729 ?_
  refine tl_call (k := 0) [tm_i (xs (i + 1)).toInt] [] C (k7_was E X.2.1 μ d s hd hs hI _ (tl_r _)) cv_L_112 rfl rfl (by decide) rfl (Nat.le_of_ble_eq_true rfl) rfl dL_law_730 (fun v μ1 p1 => ?_)
  obtain ⟨z1, rfl, hz1, I1, e1⟩ := p1
  rw [hz1]
  refine tl_aload_n 1 C dL_law_733 rfl rfl ?_
  refine tl_arg (j := 1) 3 0 C rfl (by omega) rfl rfl rfl rfl rfl dL_law_734 dL_law_735 dL_law_736 dL_law_737 dL_law_738 ?_
  refine tl_call (k := 74) [tm_i (xs (i + 1)).toInt] [tm_i _] C (k8_was E X.2.1 μ1 d s hd hs (rf_I_frame hR e1) _ (tl_r _)) cv_L_115 rfl rfl (by decide) rfl (Nat.le_of_ble_eq_true rfl) rfl dL_law_739 (fun v μ2 p2 => ?_)
  obtain ⟨z2, rfl, hz2, I2, e2⟩ := p2
  rw [hz2]
  refine tl_eqi 1132 C dL_law_742 (by decide) ?_
  exact K _ _ _ hd hs (cl_I_frame I1 e2) I2
theorem lc_25 {E : tm_Ev} {X : tm_X} {Q : State → Prop} {sb L i : Nat} {xs : Nat → Int32} (C : tl_C E X RL cL_law 4 sb L xs) (hi : i + 6 ≤ L) {d s μ : tm_M} (hd : dd_ok d) (hs : ss_ok s) (hI : cl_I μ d s) (hR : rf_I μ d s) (K : ∀ d' s' μ' : tm_M, dd_ok d' → ss_ok s' → cl_I μ' d' s' → rf_I μ' d' s' → tl_V E X Q 4 1132 [(3, tm_i (i : Int)), (2, .ref (E.2.1 74)), (1, .ref (E.2.1 0)), (0, .ref sb)] [] μ') : tl_V E X Q 4 747 [(3, tm_i (i : Int)), (2, .ref (E.2.1 74)), (1, .ref (E.2.1 0)), (0, .ref sb)] [] μ := by
  refine tl_aload_n 2 C dL_law_747 rfl rfl ?_
  refine tl_call (k := 0) [] [] C (k7_ask E X.2.1 μ d s hd hs hI) cv_L_116 rfl rfl (by decide) rfl (Nat.le_of_ble_eq_true rfl) rfl dL_law_748 (fun v μ1 p1 => ?_)
  obtain ⟨z1, rfl, hz1, I1, e1⟩ := p1
  rw [hz1]
  refine tl_aload_n 1 C dL_law_751 rfl rfl ?_
  refine tl_call (k := 74) [] [tm_i _] C (k8_ask E X.2.1 μ1 d s hd hs (rf_I_frame hR e1)) cv_L_119 rfl rfl (by decide) rfl (Nat.le_of_ble_eq_true rfl) rfl dL_law_752 (fun v μ2 p2 => ?_)
  obtain ⟨z2, rfl, hz2, I2, e2⟩ := p2
  rw [hz2]
  refine tl_eqi 1132 C dL_law_755 (by decide) ?_
  exact K _ _ _ hd hs (cl_I_frame I1 e2) I2
theorem lc_26 {E : tm_Ev} {X : tm_X} {Q : State → Prop} {sb L i : Nat} {xs : Nat → Int32} (C : tl_C E X RL cL_law 4 sb L xs) (hi : i + 6 ≤ L) {d s μ : tm_M} (hd : dd_ok d) (hs : ss_ok s) (hI : cl_I μ d s) (hR : rf_I μ d s) (K : ∀ d' s' μ' : tm_M, dd_ok d' → ss_ok s' → cl_I μ' d' s' → rf_I μ' d' s' → tl_V E X Q 4 1132 [(3, tm_i (i : Int)), (2, .ref (E.2.1 74)), (1, .ref (E.2.1 0)), (0, .ref sb)] [] μ') : tl_V E X Q 4 760 [(3, tm_i (i : Int)), (2, .ref (E.2.1 74)), (1, .ref (E.2.1 0)), (0, .ref sb)] [] μ := by
  refine tl_aload_n 2 C dL_law_760 rfl rfl ?_
  refine tl_arg (j := 1) 3 0 C rfl (by omega) rfl rfl rfl rfl rfl dL_law_761 dL_law_762 dL_law_763 dL_law_764 dL_law_765 ?_
  refine tl_arg (j := 2) 3 0 C rfl (by omega) rfl rfl rfl rfl rfl dL_law_766 dL_law_767 dL_law_768 dL_law_769 dL_law_770 ?_
  refine tl_arg (j := 3) 3 0 C rfl (by omega) rfl rfl rfl rfl rfl dL_law_771 dL_law_772 dL_law_773 dL_law_774 dL_law_775 ?_
  refine tl_call (k := 0) [tm_i (xs (i + 1)).toInt, tm_i (xs (i + 2)).toInt, tm_i (xs (i + 3)).toInt] [] C (k7_shower E X.2.1 μ d s hd hI _ _ _ (tl_r _) (tl_r _) (tl_r _)) cv_L_120 rfl rfl (by decide) rfl (Nat.le_of_ble_eq_true rfl) rfl dL_law_776 (fun v μ1 p1 => ?_)
  obtain ⟨z1, rfl, hz1, I1, e1⟩ := p1
  rw [hz1]
  refine tl_aload_n 1 C dL_law_779 rfl rfl ?_
  refine tl_arg (j := 1) 3 0 C rfl (by omega) rfl rfl rfl rfl rfl dL_law_780 dL_law_781 dL_law_782 dL_law_783 dL_law_784 ?_
  refine tl_arg (j := 2) 3 0 C rfl (by omega) rfl rfl rfl rfl rfl dL_law_785 dL_law_786 dL_law_787 dL_law_788 dL_law_789 ?_
  refine tl_arg (j := 3) 3 0 C rfl (by omega) rfl rfl rfl rfl rfl dL_law_790 dL_law_791 dL_law_792 dL_law_793 dL_law_794 ?_
  refine tl_call (k := 74) [tm_i (xs (i + 1)).toInt, tm_i (xs (i + 2)).toInt, tm_i (xs (i + 3)).toInt] [tm_l _] C (k8_shower E X.2.1 μ1 d s hd (rf_I_frame hR e1) _ _ _ (tl_r _) (tl_r _) (tl_r _)) cv_L_124 rfl rfl (by decide) rfl (Nat.le_of_ble_eq_true rfl) rfl dL_law_795 (fun v μ2 p2 => ?_)
  obtain ⟨z2, rfl, hz2, I2, e2⟩ := p2
  rw [hz2]
  refine tl_eql 1132 C dL_law_798 dL_law_799 (by decide) ?_
  exact K _ _ _ hd hs (cl_I_frame I1 e2) I2
theorem lc_27 {E : tm_Ev} {X : tm_X} {Q : State → Prop} {sb L i : Nat} {xs : Nat → Int32} (C : tl_C E X RL cL_law 4 sb L xs) (hi : i + 6 ≤ L) {d s μ : tm_M} (hd : dd_ok d) (hs : ss_ok s) (hI : cl_I μ d s) (hR : rf_I μ d s) (K : ∀ d' s' μ' : tm_M, dd_ok d' → ss_ok s' → cl_I μ' d' s' → rf_I μ' d' s' → tl_V E X Q 4 1132 [(3, tm_i (i : Int)), (2, .ref (E.2.1 74)), (1, .ref (E.2.1 0)), (0, .ref sb)] [] μ') : tl_V E X Q 4 804 [(3, tm_i (i : Int)), (2, .ref (E.2.1 74)), (1, .ref (E.2.1 0)), (0, .ref sb)] [] μ := by
  refine tl_aload_n 2 C dL_law_804 rfl rfl ?_
  refine tl_arg (j := 1) 3 0 C rfl (by omega) rfl rfl rfl rfl rfl dL_law_805 dL_law_806 dL_law_807 dL_law_808 dL_law_809 ?_
  refine tl_arg (j := 2) 3 0 C rfl (by omega) rfl rfl rfl rfl rfl dL_law_810 dL_law_811 dL_law_812 dL_law_813 dL_law_814 ?_
  refine tl_arg (j := 3) 3 0 C rfl (by omega) rfl rfl rfl rfl rfl dL_law_815 dL_law_816 dL_law_817 dL_law_818 dL_law_819 ?_
  refine tl_call (k := 0) [tm_i (xs (i + 1)).toInt, tm_i (xs (i + 2)).toInt, tm_i (xs (i + 3)).toInt] [] C (k7_moon E X.2.1 μ d s hd hI _ _ _ (tl_r _) (tl_r _)) cv_L_125 rfl rfl (by decide) rfl (Nat.le_of_ble_eq_true rfl) rfl dL_law_820 (fun v μ1 p1 => ?_)
  obtain ⟨z1, rfl, hz1, I1, e1⟩ := p1
  rw [hz1]
  refine tl_aload_n 1 C dL_law_823 rfl rfl ?_
  refine tl_arg (j := 1) 3 0 C rfl (by omega) rfl rfl rfl rfl rfl dL_law_824 dL_law_825 dL_law_826 dL_law_827 dL_law_828 ?_
  refine tl_arg (j := 2) 3 0 C rfl (by omega) rfl rfl rfl rfl rfl dL_law_829 dL_law_830 dL_law_831 dL_law_832 dL_law_833 ?_
  refine tl_arg (j := 3) 3 0 C rfl (by omega) rfl rfl rfl rfl rfl dL_law_834 dL_law_835 dL_law_836 dL_law_837 dL_law_838 ?_
  refine tl_call (k := 74) [tm_i (xs (i + 1)).toInt, tm_i (xs (i + 2)).toInt, tm_i (xs (i + 3)).toInt] [tm_i _] C (k8_moon E X.2.1 μ1 d s hd (rf_I_frame hR e1) _ _ _ (tl_r _) (tl_r _)) cv_L_129 rfl rfl (by decide) rfl (Nat.le_of_ble_eq_true rfl) rfl dL_law_839 (fun v μ2 p2 => ?_)
  obtain ⟨z2, rfl, hz2, I2, e2⟩ := p2
  rw [hz2]
  refine tl_eqi 1132 C dL_law_842 (by decide) ?_
  exact K _ _ _ hd hs (cl_I_frame I1 e2) I2
theorem lc_28 {E : tm_Ev} {X : tm_X} {Q : State → Prop} {sb L i : Nat} {xs : Nat → Int32} (C : tl_C E X RL cL_law 4 sb L xs) (hi : i + 6 ≤ L) {d s μ : tm_M} (hd : dd_ok d) (hs : ss_ok s) (hI : cl_I μ d s) (hR : rf_I μ d s) (K : ∀ d' s' μ' : tm_M, dd_ok d' → ss_ok s' → cl_I μ' d' s' → rf_I μ' d' s' → tl_V E X Q 4 1132 [(3, tm_i (i : Int)), (2, .ref (E.2.1 74)), (1, .ref (E.2.1 0)), (0, .ref sb)] [] μ') : tl_V E X Q 4 847 [(3, tm_i (i : Int)), (2, .ref (E.2.1 74)), (1, .ref (E.2.1 0)), (0, .ref sb)] [] μ := by
  refine tl_aload_n 2 C dL_law_847 rfl rfl ?_
  refine tl_arg (j := 1) 3 0 C rfl (by omega) rfl rfl rfl rfl rfl dL_law_848 dL_law_849 dL_law_850 dL_law_851 dL_law_852 ?_
  refine tl_arg (j := 2) 3 0 C rfl (by omega) rfl rfl rfl rfl rfl dL_law_853 dL_law_854 dL_law_855 dL_law_856 dL_law_857 ?_
  refine tl_arg (j := 3) 3 0 C rfl (by omega) rfl rfl rfl rfl rfl dL_law_858 dL_law_859 dL_law_860 dL_law_861 dL_law_862 ?_
  refine tl_call (k := 0) [tm_i (xs (i + 1)).toInt, tm_i (xs (i + 2)).toInt, tm_i (xs (i + 3)).toInt] [] C (k7_sheet E X.2.1 μ d s hd hs hI _ _ _ (tl_r _) (tl_r _) (tl_r _)) cv_L_130 rfl rfl (by decide) rfl (Nat.le_of_ble_eq_true rfl) rfl dL_law_863 (fun v μ1 p1 => ?_)
  obtain ⟨z1, rfl, hz1, I1, e1⟩ := p1
  rw [hz1]
  refine tl_aload_n 1 C dL_law_866 rfl rfl ?_
  refine tl_arg (j := 1) 3 0 C rfl (by omega) rfl rfl rfl rfl rfl dL_law_867 dL_law_868 dL_law_869 dL_law_870 dL_law_871 ?_
  refine tl_arg (j := 2) 3 0 C rfl (by omega) rfl rfl rfl rfl rfl dL_law_872 dL_law_873 dL_law_874 dL_law_875 dL_law_876 ?_
  refine tl_arg (j := 3) 3 0 C rfl (by omega) rfl rfl rfl rfl rfl dL_law_877 dL_law_878 dL_law_879 dL_law_880 dL_law_881 ?_
  refine tl_call (k := 74) [tm_i (xs (i + 1)).toInt, tm_i (xs (i + 2)).toInt, tm_i (xs (i + 3)).toInt] [tm_i _] C (k8_sheet E X.2.1 μ1 d s hd hs (rf_I_frame hR e1) _ _ _ (tl_r _) (tl_r _) (tl_r _)) cv_L_133 rfl rfl (by decide) rfl (Nat.le_of_ble_eq_true rfl) rfl dL_law_882 (fun v μ2 p2 => ?_)
  obtain ⟨z2, rfl, hz2, I2, e2⟩ := p2
  rw [hz2]
  refine tl_eqi 1132 C dL_law_885 (by decide) ?_
  exact K _ _ _ hd (sh_ok hs _ _ _) (cl_I_frame I1 e2) I2
theorem lc_29 {E : tm_Ev} {X : tm_X} {Q : State → Prop} {sb L i : Nat} {xs : Nat → Int32} (C : tl_C E X RL cL_law 4 sb L xs) (hi : i + 6 ≤ L) {d s μ : tm_M} (hd : dd_ok d) (hs : ss_ok s) (hI : cl_I μ d s) (hR : rf_I μ d s) (K : ∀ d' s' μ' : tm_M, dd_ok d' → ss_ok s' → cl_I μ' d' s' → rf_I μ' d' s' → tl_V E X Q 4 1132 [(3, tm_i (i : Int)), (2, .ref (E.2.1 74)), (1, .ref (E.2.1 0)), (0, .ref sb)] [] μ') : tl_V E X Q 4 890 [(3, tm_i (i : Int)), (2, .ref (E.2.1 74)), (1, .ref (E.2.1 0)), (0, .ref sb)] [] μ := by
  refine tl_aload_n 2 C dL_law_890 rfl rfl ?_
  refine tl_arg (j := 1) 3 0 C rfl (by omega) rfl rfl rfl rfl rfl dL_law_891 dL_law_892 dL_law_893 dL_law_894 dL_law_895 ?_
  refine tl_call (k := 0) [tm_i (xs (i + 1)).toInt] [] C (k7_lose E X.2.1 μ d s hd hs hI _ (tl_r _)) cv_L_134 rfl rfl (by decide) rfl (Nat.le_of_ble_eq_true rfl) rfl dL_law_896 (fun v μ1 p1 => ?_)
  obtain ⟨z1, rfl, hz1, I1, e1⟩ := p1
  rw [hz1]
  refine tl_aload_n 1 C dL_law_899 rfl rfl ?_
  refine tl_arg (j := 1) 3 0 C rfl (by omega) rfl rfl rfl rfl rfl dL_law_900 dL_law_901 dL_law_902 dL_law_903 dL_law_904 ?_
  refine tl_call (k := 74) [tm_i (xs (i + 1)).toInt] [tm_i _] C (k8_lose E X.2.1 μ1 d s hd hs (rf_I_frame hR e1) _ (tl_r _)) cv_L_137 rfl rfl (by decide) rfl (Nat.le_of_ble_eq_true rfl) rfl dL_law_905 (fun v μ2 p2 => ?_)
  obtain ⟨z2, rfl, hz2, I2, e2⟩ := p2
  rw [hz2]
  refine tl_eqi 1132 C dL_law_908 (by decide) ?_
  exact K _ _ _ hd (lo_ok hs _) (cl_I_frame I1 e2) I2
theorem lc_30 {E : tm_Ev} {X : tm_X} {Q : State → Prop} {sb L i : Nat} {xs : Nat → Int32} (C : tl_C E X RL cL_law 4 sb L xs) (hi : i + 6 ≤ L) {d s μ : tm_M} (hd : dd_ok d) (hs : ss_ok s) (hI : cl_I μ d s) (hR : rf_I μ d s) (K : ∀ d' s' μ' : tm_M, dd_ok d' → ss_ok s' → cl_I μ' d' s' → rf_I μ' d' s' → tl_V E X Q 4 1132 [(3, tm_i (i : Int)), (2, .ref (E.2.1 74)), (1, .ref (E.2.1 0)), (0, .ref sb)] [] μ') : tl_V E X Q 4 913 [(3, tm_i (i : Int)), (2, .ref (E.2.1 74)), (1, .ref (E.2.1 0)), (0, .ref sb)] [] μ := by
  refine tl_aload_n 2 C dL_law_913 rfl rfl ?_
  refine tl_arg (j := 1) 3 0 C rfl (by omega) rfl rfl rfl rfl rfl dL_law_914 dL_law_915 dL_law_916 dL_law_917 dL_law_918 ?_
  refine tl_arg (j := 2) 3 0 C rfl (by omega) rfl rfl rfl rfl rfl dL_law_919 dL_law_920 dL_law_921 dL_law_922 dL_law_923 ?_
  refine tl_arg (j := 3) 3 0 C rfl (by omega) rfl rfl rfl rfl rfl dL_law_924 dL_law_925 dL_law_926 dL_law_927 dL_law_928 ?_
  refine tl_arg (j := 4) 3 0 C rfl (by omega) rfl rfl rfl rfl rfl dL_law_929 dL_law_930 dL_law_931 dL_law_932 dL_law_933 ?_
  refine tl_call (k := 0) [tm_i (xs (i + 1)).toInt, tm_i (xs (i + 2)).toInt, tm_i (xs (i + 3)).toInt, tm_i (xs (i + 4)).toInt] [] C (k7_put E X.2.1 μ d s hd hs hI _ _ _ _ (tl_r _) (tl_r _) (tl_r _) (tl_r _)) cv_L_138 rfl rfl (by decide) rfl (Nat.le_of_ble_eq_true rfl) rfl dL_law_934 (fun v μ1 p1 => ?_)
  obtain ⟨z1, rfl, hz1, I1, e1⟩ := p1
  rw [hz1]
  refine tl_aload_n 1 C dL_law_937 rfl rfl ?_
  refine tl_arg (j := 1) 3 0 C rfl (by omega) rfl rfl rfl rfl rfl dL_law_938 dL_law_939 dL_law_940 dL_law_941 dL_law_942 ?_
  refine tl_arg (j := 2) 3 0 C rfl (by omega) rfl rfl rfl rfl rfl dL_law_943 dL_law_944 dL_law_945 dL_law_946 dL_law_947 ?_
  refine tl_arg (j := 3) 3 0 C rfl (by omega) rfl rfl rfl rfl rfl dL_law_948 dL_law_949 dL_law_950 dL_law_951 dL_law_952 ?_
  refine tl_arg (j := 4) 3 0 C rfl (by omega) rfl rfl rfl rfl rfl dL_law_953 dL_law_954 dL_law_955 dL_law_956 dL_law_957 ?_
  refine tl_call (k := 74) [tm_i (xs (i + 1)).toInt, tm_i (xs (i + 2)).toInt, tm_i (xs (i + 3)).toInt, tm_i (xs (i + 4)).toInt] [tm_i _] C (k8_put E X.2.1 μ1 d s hd hs (rf_I_frame hR e1) _ _ _ _ (tl_r _) (tl_r _) (tl_r _) (tl_r _)) cv_L_142 rfl rfl (by decide) rfl (Nat.le_of_ble_eq_true rfl) rfl dL_law_958 (fun v μ2 p2 => ?_)
  obtain ⟨z2, rfl, hz2, I2, e2⟩ := p2
  rw [hz2]
  refine tl_eqi 1132 C dL_law_961 (by decide) ?_
  exact K _ _ _ hd (pu_ok hs _ _ _ _ (tl_r _)) (cl_I_frame I1 e2) I2
theorem lc_31 {E : tm_Ev} {X : tm_X} {Q : State → Prop} {sb L i : Nat} {xs : Nat → Int32} (C : tl_C E X RL cL_law 4 sb L xs) (hi : i + 6 ≤ L) {d s μ : tm_M} (hd : dd_ok d) (hs : ss_ok s) (hI : cl_I μ d s) (hR : rf_I μ d s) (K : ∀ d' s' μ' : tm_M, dd_ok d' → ss_ok s' → cl_I μ' d' s' → rf_I μ' d' s' → tl_V E X Q 4 1132 [(3, tm_i (i : Int)), (2, .ref (E.2.1 74)), (1, .ref (E.2.1 0)), (0, .ref sb)] [] μ') : tl_V E X Q 4 966 [(3, tm_i (i : Int)), (2, .ref (E.2.1 74)), (1, .ref (E.2.1 0)), (0, .ref sb)] [] μ := by
  refine tl_aload_n 2 C dL_law_966 rfl rfl ?_
  refine tl_arg (j := 1) 3 0 C rfl (by omega) rfl rfl rfl rfl rfl dL_law_967 dL_law_968 dL_law_969 dL_law_970 dL_law_971 ?_
  refine tl_arg (j := 2) 3 0 C rfl (by omega) rfl rfl rfl rfl rfl dL_law_972 dL_law_973 dL_law_974 dL_law_975 dL_law_976 ?_
  refine tl_arg (j := 3) 3 0 C rfl (by omega) rfl rfl rfl rfl rfl dL_law_977 dL_law_978 dL_law_979 dL_law_980 dL_law_981 ?_
  refine tl_call (k := 0) [tm_i (xs (i + 1)).toInt, tm_i (xs (i + 2)).toInt, tm_i (xs (i + 3)).toInt] [] C (k7_get E X.2.1 μ d s hd hs hI _ _ _ (tl_r _) (tl_r _) (tl_r _)) cv_L_143 rfl rfl (by decide) rfl (Nat.le_of_ble_eq_true rfl) rfl dL_law_982 (fun v μ1 p1 => ?_)
  obtain ⟨z1, rfl, hz1, I1, e1⟩ := p1
  rw [hz1]
  refine tl_aload_n 1 C dL_law_985 rfl rfl ?_
  refine tl_arg (j := 1) 3 0 C rfl (by omega) rfl rfl rfl rfl rfl dL_law_986 dL_law_987 dL_law_988 dL_law_989 dL_law_990 ?_
  refine tl_arg (j := 2) 3 0 C rfl (by omega) rfl rfl rfl rfl rfl dL_law_991 dL_law_992 dL_law_993 dL_law_994 dL_law_995 ?_
  refine tl_arg (j := 3) 3 0 C rfl (by omega) rfl rfl rfl rfl rfl dL_law_996 dL_law_997 dL_law_998 dL_law_999 dL_law_1000 ?_
  refine tl_call (k := 74) [tm_i (xs (i + 1)).toInt, tm_i (xs (i + 2)).toInt, tm_i (xs (i + 3)).toInt] [tm_i _] C (k8_get E X.2.1 μ1 d s hd hs (rf_I_frame hR e1) _ _ _ (tl_r _) (tl_r _) (tl_r _)) cv_L_146 rfl rfl (by decide) rfl (Nat.le_of_ble_eq_true rfl) rfl dL_law_1001 (fun v μ2 p2 => ?_)
  obtain ⟨z2, rfl, hz2, I2, e2⟩ := p2
  rw [hz2]
  refine tl_eqi 1132 C dL_law_1004 (by decide) ?_
  exact K _ _ _ hd (ge_ok hs _ _ _) (cl_I_frame I1 e2) I2
theorem lc_32 {E : tm_Ev} {X : tm_X} {Q : State → Prop} {sb L i : Nat} {xs : Nat → Int32} (C : tl_C E X RL cL_law 4 sb L xs) (hi : i + 6 ≤ L) {d s μ : tm_M} (hd : dd_ok d) (hs : ss_ok s) (hI : cl_I μ d s) (hR : rf_I μ d s) (K : ∀ d' s' μ' : tm_M, dd_ok d' → ss_ok s' → cl_I μ' d' s' → rf_I μ' d' s' → tl_V E X Q 4 1132 [(3, tm_i (i : Int)), (2, .ref (E.2.1 74)), (1, .ref (E.2.1 0)), (0, .ref sb)] [] μ') : tl_V E X Q 4 1009 [(3, tm_i (i : Int)), (2, .ref (E.2.1 74)), (1, .ref (E.2.1 0)), (0, .ref sb)] [] μ := by
  refine tl_aload_n 2 C dL_law_1009 rfl rfl ?_
  refine tl_arg (j := 1) 3 0 C rfl (by omega) rfl rfl rfl rfl rfl dL_law_1010 dL_law_1011 dL_law_1012 dL_law_1013 dL_law_1014 ?_
  refine tl_arg (j := 2) 3 0 C rfl (by omega) rfl rfl rfl rfl rfl dL_law_1015 dL_law_1016 dL_law_1017 dL_law_1018 dL_law_1019 ?_
  refine tl_arg (j := 3) 3 0 C rfl (by omega) rfl rfl rfl rfl rfl dL_law_1020 dL_law_1021 dL_law_1022 dL_law_1023 dL_law_1024 ?_
  refine tl_arg (j := 4) 3 0 C rfl (by omega) rfl rfl rfl rfl rfl dL_law_1025 dL_law_1026 dL_law_1027 dL_law_1028 dL_law_1029 ?_
  refine tl_arg (j := 5) 3 0 C rfl (by omega) rfl rfl rfl rfl rfl dL_law_1030 dL_law_1031 dL_law_1032 dL_law_1033 dL_law_1034 ?_
  refine tl_call (k := 0) [tm_i (xs (i + 1)).toInt, tm_i (xs (i + 2)).toInt, tm_i (xs (i + 3)).toInt, tm_i (xs (i + 4)).toInt, tm_i (xs (i + 5)).toInt] [] C (k7_copy E X.2.1 μ d s hd hs hI _ _ _ _ _ (tl_r _) (tl_r _) (tl_r _) (tl_r _) (tl_r _)) cv_L_147 rfl rfl (by decide) rfl (Nat.le_of_ble_eq_true rfl) rfl dL_law_1035 (fun v μ1 p1 => ?_)
  obtain ⟨z1, rfl, hz1, I1, e1⟩ := p1
  rw [hz1]
  refine tl_aload_n 1 C dL_law_1038 rfl rfl ?_
  refine tl_arg (j := 1) 3 0 C rfl (by omega) rfl rfl rfl rfl rfl dL_law_1039 dL_law_1040 dL_law_1041 dL_law_1042 dL_law_1043 ?_
  refine tl_arg (j := 2) 3 0 C rfl (by omega) rfl rfl rfl rfl rfl dL_law_1044 dL_law_1045 dL_law_1046 dL_law_1047 dL_law_1048 ?_
  refine tl_arg (j := 3) 3 0 C rfl (by omega) rfl rfl rfl rfl rfl dL_law_1049 dL_law_1050 dL_law_1051 dL_law_1052 dL_law_1053 ?_
  refine tl_arg (j := 4) 3 0 C rfl (by omega) rfl rfl rfl rfl rfl dL_law_1054 dL_law_1055 dL_law_1056 dL_law_1057 dL_law_1058 ?_
  refine tl_arg (j := 5) 3 0 C rfl (by omega) rfl rfl rfl rfl rfl dL_law_1059 dL_law_1060 dL_law_1061 dL_law_1062 dL_law_1063 ?_
  refine tl_call (k := 74) [tm_i (xs (i + 1)).toInt, tm_i (xs (i + 2)).toInt, tm_i (xs (i + 3)).toInt, tm_i (xs (i + 4)).toInt, tm_i (xs (i + 5)).toInt] [tm_i _] C (k8_copy E X.2.1 μ1 d s hd hs (rf_I_frame hR e1) _ _ _ _ _ (tl_r _) (tl_r _) (tl_r _) (tl_r _) (tl_r _)) cv_L_151 rfl rfl (by decide) rfl (Nat.le_of_ble_eq_true rfl) rfl dL_law_1064 (fun v μ2 p2 => ?_)
  obtain ⟨z2, rfl, hz2, I2, e2⟩ := p2
  rw [hz2]
  refine tl_eqi 1132 C dL_law_1067 (by decide) ?_
  exact K _ _ _ hd (cy_ok hs _ _ _ _ _) (cl_I_frame I1 e2) I2
theorem lc_33 {E : tm_Ev} {X : tm_X} {Q : State → Prop} {sb L i : Nat} {xs : Nat → Int32} (C : tl_C E X RL cL_law 4 sb L xs) (hi : i + 6 ≤ L) {d s μ : tm_M} (hd : dd_ok d) (hs : ss_ok s) (hI : cl_I μ d s) (hR : rf_I μ d s) (K : ∀ d' s' μ' : tm_M, dd_ok d' → ss_ok s' → cl_I μ' d' s' → rf_I μ' d' s' → tl_V E X Q 4 1132 [(3, tm_i (i : Int)), (2, .ref (E.2.1 74)), (1, .ref (E.2.1 0)), (0, .ref sb)] [] μ') : tl_V E X Q 4 1072 [(3, tm_i (i : Int)), (2, .ref (E.2.1 74)), (1, .ref (E.2.1 0)), (0, .ref sb)] [] μ := by
  refine tl_aload_n 2 C dL_law_1072 rfl rfl ?_
  refine tl_arg (j := 1) 3 0 C rfl (by omega) rfl rfl rfl rfl rfl dL_law_1073 dL_law_1074 dL_law_1075 dL_law_1076 dL_law_1077 ?_
  refine tl_call (k := 0) [tm_i (xs (i + 1)).toInt] [] C (k7_write E X.2.1 μ d s hd hs hI _ (tl_r _)) cv_L_152 rfl rfl (by decide) rfl (Nat.le_of_ble_eq_true rfl) rfl dL_law_1078 (fun v μ1 p1 => ?_)
  obtain ⟨z1, rfl, hz1, I1, e1⟩ := p1
  rw [hz1]
  refine tl_aload_n 1 C dL_law_1081 rfl rfl ?_
  refine tl_arg (j := 1) 3 0 C rfl (by omega) rfl rfl rfl rfl rfl dL_law_1082 dL_law_1083 dL_law_1084 dL_law_1085 dL_law_1086 ?_
  refine tl_call (k := 74) [tm_i (xs (i + 1)).toInt] [tm_i _] C (k8_write E X.2.1 μ1 d s hd hs (rf_I_frame hR e1) _ (tl_r _)) cv_L_155 rfl rfl (by decide) rfl (Nat.le_of_ble_eq_true rfl) rfl dL_law_1087 (fun v μ2 p2 => ?_)
  obtain ⟨z2, rfl, hz2, I2, e2⟩ := p2
  rw [hz2]
  refine tl_eqi 1132 C dL_law_1090 (by decide) ?_
  exact K _ _ _ hd (ws_ok hd hs _) (cl_I_frame I1 e2) I2
theorem lc_34 {E : tm_Ev} {X : tm_X} {Q : State → Prop} {sb L i : Nat} {xs : Nat → Int32} (C : tl_C E X RL cL_law 4 sb L xs) (hi : i + 6 ≤ L) {d s μ : tm_M} (hd : dd_ok d) (hs : ss_ok s) (hI : cl_I μ d s) (hR : rf_I μ d s) (K : ∀ d' s' μ' : tm_M, dd_ok d' → ss_ok s' → cl_I μ' d' s' → rf_I μ' d' s' → tl_V E X Q 4 1132 [(3, tm_i (i : Int)), (2, .ref (E.2.1 74)), (1, .ref (E.2.1 0)), (0, .ref sb)] [] μ') : tl_V E X Q 4 1095 [(3, tm_i (i : Int)), (2, .ref (E.2.1 74)), (1, .ref (E.2.1 0)), (0, .ref sb)] [] μ := by
  refine tl_aload_n 2 C dL_law_1095 rfl rfl ?_
  refine tl_arg (j := 1) 3 0 C rfl (by omega) rfl rfl rfl rfl rfl dL_law_1096 dL_law_1097 dL_law_1098 dL_law_1099 dL_law_1100 ?_
  refine tl_call (k := 0) [tm_i (xs (i + 1)).toInt] [] C (k7_count E X.2.1 μ d s hd hI _ (tl_r _)) cv_L_156 rfl rfl (by decide) rfl (Nat.le_of_ble_eq_true rfl) rfl dL_law_1101 (fun v μ1 p1 => ?_)
  obtain ⟨z1, rfl, hz1, I1, e1⟩ := p1
  rw [hz1]
  refine tl_aload_n 1 C dL_law_1104 rfl rfl ?_
  refine tl_arg (j := 1) 3 0 C rfl (by omega) rfl rfl rfl rfl rfl dL_law_1105 dL_law_1106 dL_law_1107 dL_law_1108 dL_law_1109 ?_
  refine tl_call (k := 74) [tm_i (xs (i + 1)).toInt] [tm_i _] C (k8_count E X.2.1 μ1 d s hd (rf_I_frame hR e1) _ (tl_r _)) cv_L_159 rfl rfl (by decide) rfl (Nat.le_of_ble_eq_true rfl) rfl dL_law_1110 (fun v μ2 p2 => ?_)
  obtain ⟨z2, rfl, hz2, I2, e2⟩ := p2
  rw [hz2]
  refine tl_eqi 1132 C dL_law_1113 (by decide) ?_
  exact K _ _ _ hd hs (cl_I_frame I1 e2) I2
theorem lc_35 {E : tm_Ev} {X : tm_X} {Q : State → Prop} {sb L i : Nat} {xs : Nat → Int32} (C : tl_C E X RL cL_law 4 sb L xs) (hi : i + 6 ≤ L) {d s μ : tm_M} (hd : dd_ok d) (hs : ss_ok s) (hI : cl_I μ d s) (hR : rf_I μ d s) (K : ∀ d' s' μ' : tm_M, dd_ok d' → ss_ok s' → cl_I μ' d' s' → rf_I μ' d' s' → tl_V E X Q 4 1132 [(3, tm_i (i : Int)), (2, .ref (E.2.1 74)), (1, .ref (E.2.1 0)), (0, .ref sb)] [] μ') : tl_V E X Q 4 1118 [(3, tm_i (i : Int)), (2, .ref (E.2.1 74)), (1, .ref (E.2.1 0)), (0, .ref sb)] [] μ := by
  refine tl_aload_n 2 C dL_law_1118 rfl rfl ?_
  refine tl_call (k := 0) [] [] C (k7_digest E X.2.1 μ d s hd hs hI) cv_L_160 rfl rfl (by decide) rfl (Nat.le_of_ble_eq_true rfl) rfl dL_law_1119 (fun v μ1 p1 => ?_)
  obtain ⟨z1, rfl, hz1, I1, e1⟩ := p1
  rw [hz1]
  refine tl_aload_n 1 C dL_law_1122 rfl rfl ?_
  refine tl_call (k := 74) [] [tm_l _] C (k8_digest E X.2.1 μ1 d s hd hs (rf_I_frame hR e1)) cv_L_164 rfl rfl (by decide) rfl (Nat.le_of_ble_eq_true rfl) rfl dL_law_1123 (fun v μ2 p2 => ?_)
  obtain ⟨z2, rfl, hz2, I2, e2⟩ := p2
  rw [hz2]
  refine tl_eql 1132 C dL_law_1126 dL_law_1127 (by decide) ?_
  exact K _ _ _ hd hs (cl_I_frame I1 e2) I2
set_option maxRecDepth 100000 in
theorem lc_all {E : tm_Ev} {X : tm_X} {Q : State → Prop} {sb L i : Nat} {xs : Nat → Int32} (C : tl_C E X RL cL_law 4 sb L xs) (hi : i + 6 ≤ L) {d s μ : tm_M} (hd : dd_ok d) (hs : ss_ok s) (hI : cl_I μ d s) (hR : rf_I μ d s) (K : ∀ d' s' μ' : tm_M, dd_ok d' → ss_ok s' → cl_I μ' d' s' → rf_I μ' d' s' → tl_V E X Q 4 1132 [(3, tm_i (i : Int)), (2, .ref (E.2.1 74)), (1, .ref (E.2.1 0)), (0, .ref sb)] [] μ') : ∀ z : Int, -2147483648 ≤ z ∧ z ≤ 2147483647 → tl_V E X Q 4 33 [(3, tm_i (i : Int)), (2, .ref (E.2.1 74)), (1, .ref (E.2.1 0)), (0, .ref sb)] [tm_i z] μ := by
  intro z hz
  by_cases h : 0 ≤ z ∧ z ≤ 35
  · obtain ⟨h1, h2⟩ := h
    obtain ⟨n, rfl⟩ := Int.eq_ofNat_of_zero_le h1
    have hn : n < 36 := by omega
    by_cases q0 : n = 0
    · subst q0
      exact tl_tabI 192 C dL_law_33 hz (by decide) rfl (by decide) (lc_0 C hi hd hs hI hR K)
    by_cases q1 : n = 1
    · subst q1
      exact tl_tabI 225 C dL_law_33 hz (by decide) rfl (by decide) (lc_1 C hi hd hs hI hR K)
    by_cases q2 : n = 2
    · subst q2
      exact tl_tabI 248 C dL_law_33 hz (by decide) rfl (by decide) (lc_2 C hi hd hs hI hR K)
    by_cases q3 : n = 3
    · subst q3
      exact tl_tabI 271 C dL_law_33 hz (by decide) rfl (by decide) (lc_3 C hi hd hs hI hR K)
    by_cases q4 : n = 4
    · subst q4
      exact tl_tabI 294 C dL_law_33 hz (by decide) rfl (by decide) (lc_4 C hi hd hs hI hR K)
    by_cases q5 : n = 5
    · subst q5
      exact tl_tabI 317 C dL_law_33 hz (by decide) rfl (by decide) (lc_5 C hi hd hs hI hR K)
    by_cases q6 : n = 6
    · subst q6
      exact tl_tabI 350 C dL_law_33 hz (by decide) rfl (by decide) (lc_6 C hi hd hs hI hR K)
    by_cases q7 : n = 7
    · subst q7
      exact tl_tabI 383 C dL_law_33 hz (by decide) rfl (by decide) (lc_7 C hi hd hs hI hR K)
    by_cases q8 : n = 8
    · subst q8
      exact tl_tabI 406 C dL_law_33 hz (by decide) rfl (by decide) (lc_8 C hi hd hs hI hR K)
    by_cases q9 : n = 9
    · subst q9
      exact tl_tabI 429 C dL_law_33 hz (by decide) rfl (by decide) (lc_9 C hi hd hs hI hR K)
    by_cases q10 : n = 10
    · subst q10
      exact tl_tabI 452 C dL_law_33 hz (by decide) rfl (by decide) (lc_10 C hi hd hs hI hR K)
    by_cases q11 : n = 11
    · subst q11
      exact tl_tabI 475 C dL_law_33 hz (by decide) rfl (by decide) (lc_11 C hi hd hs hI hR K)
    by_cases q12 : n = 12
    · subst q12
      exact tl_tabI 508 C dL_law_33 hz (by decide) rfl (by decide) (lc_12 C hi hd hs hI hR K)
    by_cases q13 : n = 13
    · subst q13
      exact tl_tabI 531 C dL_law_33 hz (by decide) rfl (by decide) (lc_13 C hi hd hs hI hR K)
    by_cases q14 : n = 14
    · subst q14
      exact tl_tabI 544 C dL_law_33 hz (by decide) rfl (by decide) (lc_14 C hi hd hs hI hR K)
    by_cases q15 : n = 15
    · subst q15
      exact tl_tabI 557 C dL_law_33 hz (by decide) rfl (by decide) (lc_15 C hi hd hs hI hR K)
    by_cases q16 : n = 16
    · subst q16
      exact tl_tabI 570 C dL_law_33 hz (by decide) rfl (by decide) (lc_16 C hi hd hs hI hR K)
    by_cases q17 : n = 17
    · subst q17
      exact tl_tabI 583 C dL_law_33 hz (by decide) rfl (by decide) (lc_17 C hi hd hs hI hR K)
    by_cases q18 : n = 18
    · subst q18
      exact tl_tabI 606 C dL_law_33 hz (by decide) rfl (by decide) (lc_18 C hi hd hs hI hR K)
    by_cases q19 : n = 19
    · subst q19
      exact tl_tabI 629 C dL_law_33 hz (by decide) rfl (by decide) (lc_19 C hi hd hs hI hR K)
    by_cases q20 : n = 20
    · subst q20
      exact tl_tabI 642 C dL_law_33 hz (by decide) rfl (by decide) (lc_20 C hi hd hs hI hR K)
    by_cases q21 : n = 21
    · subst q21
      exact tl_tabI 665 C dL_law_33 hz (by decide) rfl (by decide) (lc_21 C hi hd hs hI hR K)
    by_cases q22 : n = 22
    · subst q22
      exact tl_tabI 698 C dL_law_33 hz (by decide) rfl (by decide) (lc_22 C hi hd hs hI hR K)
    by_cases q23 : n = 23
    · subst q23
      exact tl_tabI 711 C dL_law_33 hz (by decide) rfl (by decide) (lc_23 C hi hd hs hI hR K)
    by_cases q24 : n = 24
    · subst q24
      exact tl_tabI 724 C dL_law_33 hz (by decide) rfl (by decide) (lc_24 C hi hd hs hI hR K)
    by_cases q25 : n = 25
    · subst q25
      exact tl_tabI 747 C dL_law_33 hz (by decide) rfl (by decide) (lc_25 C hi hd hs hI hR K)
    by_cases q26 : n = 26
    · subst q26
      exact tl_tabI 760 C dL_law_33 hz (by decide) rfl (by decide) (lc_26 C hi hd hs hI hR K)
    by_cases q27 : n = 27
    · subst q27
      exact tl_tabI 804 C dL_law_33 hz (by decide) rfl (by decide) (lc_27 C hi hd hs hI hR K)
    by_cases q28 : n = 28
    · subst q28
      exact tl_tabI 847 C dL_law_33 hz (by decide) rfl (by decide) (lc_28 C hi hd hs hI hR K)
    by_cases q29 : n = 29
    · subst q29
      exact tl_tabI 890 C dL_law_33 hz (by decide) rfl (by decide) (lc_29 C hi hd hs hI hR K)
    by_cases q30 : n = 30
    · subst q30
      exact tl_tabI 913 C dL_law_33 hz (by decide) rfl (by decide) (lc_30 C hi hd hs hI hR K)
    by_cases q31 : n = 31
    · subst q31
      exact tl_tabI 966 C dL_law_33 hz (by decide) rfl (by decide) (lc_31 C hi hd hs hI hR K)
    by_cases q32 : n = 32
    · subst q32
      exact tl_tabI 1009 C dL_law_33 hz (by decide) rfl (by decide) (lc_32 C hi hd hs hI hR K)
    by_cases q33 : n = 33
    · subst q33
      exact tl_tabI 1072 C dL_law_33 hz (by decide) rfl (by decide) (lc_33 C hi hd hs hI hR K)
    by_cases q34 : n = 34
    · subst q34
      exact tl_tabI 1095 C dL_law_33 hz (by decide) rfl (by decide) (lc_34 C hi hd hs hI hR K)
    by_cases q35 : n = 35
    · subst q35
      exact tl_tabI 1118 C dL_law_33 hz (by decide) rfl (by decide) (lc_35 C hi hd hs hI hR K)
    omega
  · refine tl_tabO 1132 C dL_law_33 hz (by omega) (by decide) ?_
    exact K _ _ _ hd hs hI hR
theorem lc_loop {E : tm_Ev} {X : tm_X} {Q : State → Prop} {sb L : Nat} {xs : Nat → Int32} (C : tl_C E X RL cL_law 4 sb L xs) (KE : ∀ (lv : List (Nat × Value)) (μ : tm_M), tl_V E X Q 4 1138 lv [] μ) : ∀ (f i : Nat) (d s μ : tm_M), L + 6 ≤ i + f → i ≤ L + 6 → dd_ok d → ss_ok s → cl_I μ d s → rf_I μ d s → tl_V E X Q 4 18 [(3, tm_i (i : Int)), (2, .ref (E.2.1 74)), (1, .ref (E.2.1 0)), (0, .ref sb)] [] μ := by
  intro f
  induction f with
  | zero =>
    intro i d s μ hf hi hd hs hI hR
    have hL := C.2.2.2.2.2.2.2.2.2.2
    refine tl_iload_n 0 C dL_law_18 rfl rfl ?_
    refine tl_aload_n 3 C dL_law_19 rfl rfl ?_
    refine tl_slen C dL_law_20 ?_
    refine tl_bipush C dL_law_21 rfl ?_
    refine tl_isub C dL_law_23 ?_
    refine tl_icmp_gt 1138 C dL_law_24 (by decide) (by omega) (by omega) (fun h => KE _ _) (fun h => ?_)
    omega
  | succ f ih =>
    intro i d s μ hf hi hd hs hI hR
    have hL := C.2.2.2.2.2.2.2.2.2.2
    refine tl_iload_n 0 C dL_law_18 rfl rfl ?_
    refine tl_aload_n 3 C dL_law_19 rfl rfl ?_
    refine tl_slen C dL_law_20 ?_
    refine tl_bipush C dL_law_21 rfl ?_
    refine tl_isub C dL_law_23 ?_
    refine tl_icmp_gt 1138 C dL_law_24 (by decide) (by omega) (by omega) (fun h => KE _ _) (fun h => ?_)
    refine tl_aload_n 3 C dL_law_27 rfl rfl ?_
    refine tl_iload_n 0 C dL_law_28 rfl rfl ?_
    refine tl_sld C (by omega) dL_law_29 ?_
    refine tl_bipush C dL_law_30 rfl ?_
    refine tl_iand C dL_law_32 (Int32.ofInt_toInt _).symm ?_
    refine lc_all C (by omega) hd hs hI hR (fun d' s' μ' hd' hs' hI' hR' => ?_) _ (tl_r _)
    refine tl_iinc 0 [(3, tm_i ((i + 6 : Nat) : Int)), (2, .ref (E.2.1 74)), (1, .ref (E.2.1 0)), (0, .ref sb)] C dL_law_1132 rfl (by decide) rfl ?_
    refine tl_goto 18 C dL_law_1135 (by decide) ?_
    exact ih (i + 6) d' s' μ' (by omega) (by omega) hd' hs' hI' hR'
