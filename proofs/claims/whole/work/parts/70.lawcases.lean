/-! the law, case by case -/
theorem lw_c0 {κ : Kx} {Γ : Ev} {b Ln i : Nat} {xs : Nat → Int32} {S : Sx} (hk : Ok κ Γ RL code 4 12) (hX : XK κ b Ln xs) (h4 : Ln ≤ 448) (hi : i + 7 ≤ Ln) (hR : CR S S) (hI : InvM S) (kn : ∀ S3 : Sx, CR S3 S3 → InvM S3 → GW κ Γ 1384 [some (.ref b), some (rf Γ 0), some (rf Γ 44), some (vI (i : Int))] [] (wl Γ S3)) : GW κ Γ 192 [some (.ref b), some (rf Γ 0), some (rf Γ 44), some (vI (i : Int))] [] (wl Γ S) := by
  refine G_rload_n hk dL_law_192 rfl ?_
  refine G_qload_n hk dL_law_193 rfl ?_
  refine G_iload_n hk dL_law_194 rfl ?_
  refine G_iconst hk dL_law_195 ?_
  refine G_iadd hk dL_law_196 ?_
  refine G_sld hk hX (i + 1) dL_law_197 (by omega) (by omega) h4 ?_
  refine G_cV1I hk dL_law_198 mvX10_type mlL_13 (by decide) rfl rfl (Nat.le_of_ble_eq_true rfl) (c_X10_type _ Γ 7 _ hR hI _ (i32_rng _)) (fun rx Sx hx => ?_)
  have hI2 := InvM_hi hx.2.2 hI
  refine G_rload_n hk dL_law_201 rfl ?_
  refine G_qload_n hk dL_law_202 rfl ?_
  refine G_iload_n hk dL_law_203 rfl ?_
  refine G_iconst hk dL_law_204 ?_
  refine G_iadd hk dL_law_205 ?_
  refine G_sld hk hX (i + 1) dL_law_206 (by omega) (by omega) h4 ?_
  refine G_cV1I hk dL_law_207 mvX11_type mlL_17 (by decide) rfl rfl (Nat.le_of_ble_eq_true rfl) (c_X11_type _ Γ 10 _ _ (i32_rng _) (im6 hI2)) (fun rm Sm hm => ?_)
  obtain ⟨e1, e2, e3⟩ := step_q (q := (fun S => q_type S ((xs (i + 1)).toInt))) (loc_type ((xs (i + 1)).toInt)) hx hm (inv_type hI ((xs (i + 1)).toInt))
  rw [e1]
  refine G_ieqS (tgt := 1384) hk dL_law_210 (by decide) ?_
  exact kn _ e2 e3
theorem lw_c1 {κ : Kx} {Γ : Ev} {b Ln i : Nat} {xs : Nat → Int32} {S : Sx} (hk : Ok κ Γ RL code 4 12) (hX : XK κ b Ln xs) (h4 : Ln ≤ 448) (hi : i + 7 ≤ Ln) (hR : CR S S) (hI : InvM S) (kn : ∀ S3 : Sx, CR S3 S3 → InvM S3 → GW κ Γ 1384 [some (.ref b), some (rf Γ 0), some (rf Γ 44), some (vI (i : Int))] [] (wl Γ S3)) : GW κ Γ 215 [some (.ref b), some (rf Γ 0), some (rf Γ 44), some (vI (i : Int))] [] (wl Γ S) := by
  refine G_rload_n hk dL_law_215 rfl ?_
  refine G_cV0I hk dL_law_216 mvX10_wipe mlL_18 (by decide) rfl rfl (Nat.le_of_ble_eq_true rfl) (c_X10_wipe _ Γ 7 _ hR hI) (fun rx Sx hx => ?_)
  have hI2 := InvM_hi hx.2.2 hI
  refine G_rload_n hk dL_law_219 rfl ?_
  refine G_cV0I hk dL_law_220 mvX11_wipe mlL_22 (by decide) rfl rfl (Nat.le_of_ble_eq_true rfl) (c_X11_wipe _ Γ 11 _) (fun rm Sm hm => ?_)
  obtain ⟨e1, e2, e3⟩ := step_q (q := q_wipe) loc_wipe hx hm (inv_wipe hI)
  rw [e1]
  refine G_ieqS (tgt := 1384) hk dL_law_223 (by decide) ?_
  exact kn _ e2 e3
theorem lw_c2 {κ : Kx} {Γ : Ev} {b Ln i : Nat} {xs : Nat → Int32} {S : Sx} (hk : Ok κ Γ RL code 4 12) (hX : XK κ b Ln xs) (h4 : Ln ≤ 448) (hi : i + 7 ≤ Ln) (hR : CR S S) (hI : InvM S) (kn : ∀ S3 : Sx, CR S3 S3 → InvM S3 → GW κ Γ 1384 [some (.ref b), some (rf Γ 0), some (rf Γ 44), some (vI (i : Int))] [] (wl Γ S3)) : GW κ Γ 228 [some (.ref b), some (rf Γ 0), some (rf Γ 44), some (vI (i : Int))] [] (wl Γ S) := by
  refine G_rload_n hk dL_law_228 rfl ?_
  refine G_cV0I hk dL_law_229 mvX10_undo mlL_23 (by decide) rfl rfl (Nat.le_of_ble_eq_true rfl) (c_X10_undo _ Γ 7 _ hR hI) (fun rx Sx hx => ?_)
  have hI2 := InvM_hi hx.2.2 hI
  refine G_rload_n hk dL_law_232 rfl ?_
  refine G_cV0I hk dL_law_233 mvX11_undo mlL_26 (by decide) rfl rfl (Nat.le_of_ble_eq_true rfl) (c_X11_undo _ Γ 11 _ (im6 hI2)) (fun rm Sm hm => ?_)
  obtain ⟨e1, e2, e3⟩ := step_q (q := q_undo) loc_undo hx hm (inv_undo hI)
  rw [e1]
  refine G_ieqS (tgt := 1384) hk dL_law_236 (by decide) ?_
  exact kn _ e2 e3
theorem lw_c3 {κ : Kx} {Γ : Ev} {b Ln i : Nat} {xs : Nat → Int32} {S : Sx} (hk : Ok κ Γ RL code 4 12) (hX : XK κ b Ln xs) (h4 : Ln ≤ 448) (hi : i + 7 ≤ Ln) (hR : CR S S) (hI : InvM S) (kn : ∀ S3 : Sx, CR S3 S3 → InvM S3 → GW κ Γ 1384 [some (.ref b), some (rf Γ 0), some (rf Γ 44), some (vI (i : Int))] [] (wl Γ S3)) : GW κ Γ 241 [some (.ref b), some (rf Γ 0), some (rf Γ 44), some (vI (i : Int))] [] (wl Γ S) := by
  refine G_rload_n hk dL_law_241 rfl ?_
  refine G_cV0P hk dL_law_242 mvX10_fault mlL_27 (by decide) rfl rfl (Nat.le_of_ble_eq_true rfl) (c_X10_fault _ Γ 10 _ (av S) _ hR.1) ?_
  refine G_rload_n hk dL_law_245 rfl ?_
  refine G_cV0I hk dL_law_246 mvX11_fault mlL_30 (by decide) rfl rfl (Nat.le_of_ble_eq_true rfl) (c_X11_fault _ Γ 8 _ hI) (fun rm Sm hm => ?_)
  have sa := step_a hR hI (frK_0 S) hm.2
  rw [hm.1]
  refine G_ieqS (tgt := 1384) hk dL_law_249 (by decide) ?_
  exact kn _ sa.1 sa.2
theorem lw_c4 {κ : Kx} {Γ : Ev} {b Ln i : Nat} {xs : Nat → Int32} {S : Sx} (hk : Ok κ Γ RL code 4 12) (hX : XK κ b Ln xs) (h4 : Ln ≤ 448) (hi : i + 7 ≤ Ln) (hR : CR S S) (hI : InvM S) (kn : ∀ S3 : Sx, CR S3 S3 → InvM S3 → GW κ Γ 1384 [some (.ref b), some (rf Γ 0), some (rf Γ 44), some (vI (i : Int))] [] (wl Γ S3)) : GW κ Γ 254 [some (.ref b), some (rf Γ 0), some (rf Γ 44), some (vI (i : Int))] [] (wl Γ S) := by
  refine G_rload_n hk dL_law_254 rfl ?_
  refine G_qload_n hk dL_law_255 rfl ?_
  refine G_iload_n hk dL_law_256 rfl ?_
  refine G_iconst hk dL_law_257 ?_
  refine G_iadd hk dL_law_258 ?_
  refine G_sld hk hX (i + 1) dL_law_259 (by omega) (by omega) h4 ?_
  refine G_qload_n hk dL_law_260 rfl ?_
  refine G_iload_n hk dL_law_261 rfl ?_
  refine G_iconst hk dL_law_262 ?_
  refine G_iadd hk dL_law_263 ?_
  refine G_sld hk hX (i + 2) dL_law_264 (by omega) (by omega) h4 ?_
  refine G_cV2P hk dL_law_265 mvX10_person mlL_31 (by decide) rfl rfl (Nat.le_of_ble_eq_true rfl) (c_X10_person _ Γ 9 _ (av S) _ hR.1 _ _ (i32_rng _) (i32_rng _)) ?_
  refine G_rload_n hk dL_law_268 rfl ?_
  refine G_qload_n hk dL_law_269 rfl ?_
  refine G_iload_n hk dL_law_270 rfl ?_
  refine G_iconst hk dL_law_271 ?_
  refine G_iadd hk dL_law_272 ?_
  refine G_sld hk hX (i + 1) dL_law_273 (by omega) (by omega) h4 ?_
  refine G_qload_n hk dL_law_274 rfl ?_
  refine G_iload_n hk dL_law_275 rfl ?_
  refine G_iconst hk dL_law_276 ?_
  refine G_iadd hk dL_law_277 ?_
  refine G_sld hk hX (i + 2) dL_law_278 (by omega) (by omega) h4 ?_
  refine G_cV2I hk dL_law_279 mvX11_person mlL_35 (by decide) rfl rfl (Nat.le_of_ble_eq_true rfl) (c_X11_person _ Γ 8 _ hI _ _ (i32_rng _) (i32_rng _)) (fun rm Sm hm => ?_)
  have sa := step_a hR hI (frK_0 S) hm.2
  rw [hm.1]
  refine G_ieqS (tgt := 1384) hk dL_law_282 (by decide) ?_
  exact kn _ sa.1 sa.2
theorem lw_c5 {κ : Kx} {Γ : Ev} {b Ln i : Nat} {xs : Nat → Int32} {S : Sx} (hk : Ok κ Γ RL code 4 12) (hX : XK κ b Ln xs) (h4 : Ln ≤ 448) (hi : i + 7 ≤ Ln) (hR : CR S S) (hI : InvM S) (kn : ∀ S3 : Sx, CR S3 S3 → InvM S3 → GW κ Γ 1384 [some (.ref b), some (rf Γ 0), some (rf Γ 44), some (vI (i : Int))] [] (wl Γ S3)) : GW κ Γ 287 [some (.ref b), some (rf Γ 0), some (rf Γ 44), some (vI (i : Int))] [] (wl Γ S) := by
  refine G_rload_n hk dL_law_287 rfl ?_
  refine G_qload_n hk dL_law_288 rfl ?_
  refine G_iload_n hk dL_law_289 rfl ?_
  refine G_iconst hk dL_law_290 ?_
  refine G_iadd hk dL_law_291 ?_
  refine G_sld hk hX (i + 1) dL_law_292 (by omega) (by omega) h4 ?_
  refine G_qload_n hk dL_law_293 rfl ?_
  refine G_iload_n hk dL_law_294 rfl ?_
  refine G_iconst hk dL_law_295 ?_
  refine G_iadd hk dL_law_296 ?_
  refine G_sld hk hX (i + 2) dL_law_297 (by omega) (by omega) h4 ?_
  refine G_qload_n hk dL_law_298 rfl ?_
  refine G_iload_n hk dL_law_299 rfl ?_
  refine G_iconst hk dL_law_300 ?_
  refine G_iadd hk dL_law_301 ?_
  refine G_sld hk hX (i + 3) dL_law_302 (by omega) (by omega) h4 ?_
  refine G_qload_n hk dL_law_303 rfl ?_
  refine G_iload_n hk dL_law_304 rfl ?_
  refine G_iconst hk dL_law_305 ?_
  refine G_iadd hk dL_law_306 ?_
  refine G_sld hk hX (i + 4) dL_law_307 (by omega) (by omega) h4 ?_
  refine G_cV4I hk dL_law_308 mvX10_picture mlL_36 (by decide) rfl rfl (Nat.le_of_ble_eq_true rfl) (c_X10_picture _ Γ 8 _ hR hI _ _ _ _ (i32_rng _) (i32_rng _) (i32_rng _) (i32_rng _)) (fun rx Sx hx => ?_)
  have hI2 := InvM_hi hx.2.2 hI
  refine G_rload_n hk dL_law_311 rfl ?_
  refine G_qload_n hk dL_law_312 rfl ?_
  refine G_iload_n hk dL_law_313 rfl ?_
  refine G_iconst hk dL_law_314 ?_
  refine G_iadd hk dL_law_315 ?_
  refine G_sld hk hX (i + 1) dL_law_316 (by omega) (by omega) h4 ?_
  refine G_qload_n hk dL_law_317 rfl ?_
  refine G_iload_n hk dL_law_318 rfl ?_
  refine G_iconst hk dL_law_319 ?_
  refine G_iadd hk dL_law_320 ?_
  refine G_sld hk hX (i + 2) dL_law_321 (by omega) (by omega) h4 ?_
  refine G_qload_n hk dL_law_322 rfl ?_
  refine G_iload_n hk dL_law_323 rfl ?_
  refine G_iconst hk dL_law_324 ?_
  refine G_iadd hk dL_law_325 ?_
  refine G_sld hk hX (i + 3) dL_law_326 (by omega) (by omega) h4 ?_
  refine G_qload_n hk dL_law_327 rfl ?_
  refine G_iload_n hk dL_law_328 rfl ?_
  refine G_iconst hk dL_law_329 ?_
  refine G_iadd hk dL_law_330 ?_
  refine G_sld hk hX (i + 4) dL_law_331 (by omega) (by omega) h4 ?_
  refine G_cV4I hk dL_law_332 mvX11_picture mlL_40 (by decide) rfl rfl (Nat.le_of_ble_eq_true rfl) (c_X11_picture _ Γ 9 _ _ _ _ _ (i32_rng _) (i32_rng _) (i32_rng _) (i32_rng _) (im10 hI2)) (fun rm Sm hm => ?_)
  obtain ⟨e1, e2, e3⟩ := step_q (q := (fun S => q_picture S ((xs (i + 1)).toInt) ((xs (i + 2)).toInt) ((xs (i + 3)).toInt) ((xs (i + 4)).toInt))) (loc_picture ((xs (i + 1)).toInt) ((xs (i + 2)).toInt) ((xs (i + 3)).toInt) ((xs (i + 4)).toInt)) hx hm (inv_picture hI ((xs (i + 1)).toInt) ((xs (i + 2)).toInt) ((xs (i + 3)).toInt) ((xs (i + 4)).toInt))
  rw [e1]
  refine G_ieqS (tgt := 1384) hk dL_law_335 (by decide) ?_
  exact kn _ e2 e3
theorem lw_c6 {κ : Kx} {Γ : Ev} {b Ln i : Nat} {xs : Nat → Int32} {S : Sx} (hk : Ok κ Γ RL code 4 12) (hX : XK κ b Ln xs) (h4 : Ln ≤ 448) (hi : i + 7 ≤ Ln) (hR : CR S S) (hI : InvM S) (kn : ∀ S3 : Sx, CR S3 S3 → InvM S3 → GW κ Γ 1384 [some (.ref b), some (rf Γ 0), some (rf Γ 44), some (vI (i : Int))] [] (wl Γ S3)) : GW κ Γ 340 [some (.ref b), some (rf Γ 0), some (rf Γ 44), some (vI (i : Int))] [] (wl Γ S) := by
  refine G_rload_n hk dL_law_340 rfl ?_
  refine G_qload_n hk dL_law_341 rfl ?_
  refine G_iload_n hk dL_law_342 rfl ?_
  refine G_iconst hk dL_law_343 ?_
  refine G_iadd hk dL_law_344 ?_
  refine G_sld hk hX (i + 1) dL_law_345 (by omega) (by omega) h4 ?_
  refine G_qload_n hk dL_law_346 rfl ?_
  refine G_iload_n hk dL_law_347 rfl ?_
  refine G_iconst hk dL_law_348 ?_
  refine G_iadd hk dL_law_349 ?_
  refine G_sld hk hX (i + 2) dL_law_350 (by omega) (by omega) h4 ?_
  refine G_cV2I hk dL_law_351 mvX10_burn mlL_41 (by decide) rfl rfl (Nat.le_of_ble_eq_true rfl) (c_X10_burn _ Γ 8 _ hR hI _ _ (i32_rng _) (i32_rng _)) (fun rx Sx hx => ?_)
  have hI2 := InvM_hi hx.2.2 hI
  refine G_rload_n hk dL_law_354 rfl ?_
  refine G_qload_n hk dL_law_355 rfl ?_
  refine G_iload_n hk dL_law_356 rfl ?_
  refine G_iconst hk dL_law_357 ?_
  refine G_iadd hk dL_law_358 ?_
  refine G_sld hk hX (i + 1) dL_law_359 (by omega) (by omega) h4 ?_
  refine G_qload_n hk dL_law_360 rfl ?_
  refine G_iload_n hk dL_law_361 rfl ?_
  refine G_iconst hk dL_law_362 ?_
  refine G_iadd hk dL_law_363 ?_
  refine G_sld hk hX (i + 2) dL_law_364 (by omega) (by omega) h4 ?_
  refine G_cV2I hk dL_law_365 mvX11_burn mlL_44 (by decide) rfl rfl (Nat.le_of_ble_eq_true rfl) (c_X11_burn _ Γ 9 _ _ _ (i32_rng _) (i32_rng _) (im12 hI2)) (fun rm Sm hm => ?_)
  obtain ⟨e1, e2, e3⟩ := step_q (q := (fun S => q_burn S ((xs (i + 1)).toInt) ((xs (i + 2)).toInt))) (loc_burn ((xs (i + 1)).toInt) ((xs (i + 2)).toInt)) hx hm (inv_burn hI ((xs (i + 1)).toInt) ((xs (i + 2)).toInt))
  rw [e1]
  refine G_ieqS (tgt := 1384) hk dL_law_368 (by decide) ?_
  exact kn _ e2 e3
theorem lw_c7 {κ : Kx} {Γ : Ev} {b Ln i : Nat} {xs : Nat → Int32} {S : Sx} (hk : Ok κ Γ RL code 4 12) (hX : XK κ b Ln xs) (h4 : Ln ≤ 448) (hi : i + 7 ≤ Ln) (hR : CR S S) (hI : InvM S) (kn : ∀ S3 : Sx, CR S3 S3 → InvM S3 → GW κ Γ 1384 [some (.ref b), some (rf Γ 0), some (rf Γ 44), some (vI (i : Int))] [] (wl Γ S3)) : GW κ Γ 373 [some (.ref b), some (rf Γ 0), some (rf Γ 44), some (vI (i : Int))] [] (wl Γ S) := by
  refine G_rload_n hk dL_law_373 rfl ?_
  refine G_qload_n hk dL_law_374 rfl ?_
  refine G_iload_n hk dL_law_375 rfl ?_
  refine G_iconst hk dL_law_376 ?_
  refine G_iadd hk dL_law_377 ?_
  refine G_sld hk hX (i + 1) dL_law_378 (by omega) (by omega) h4 ?_
  refine G_cV1I hk dL_law_379 mvX10_back mlL_45 (by decide) rfl rfl (Nat.le_of_ble_eq_true rfl) (c_X10_back _ Γ 10 _ hR hI _ (i32_rng _)) (fun rx Sx hx => ?_)
  have hI2 := InvM_hi hx.2.2 hI
  refine G_rload_n hk dL_law_382 rfl ?_
  refine G_qload_n hk dL_law_383 rfl ?_
  refine G_iload_n hk dL_law_384 rfl ?_
  refine G_iconst hk dL_law_385 ?_
  refine G_iadd hk dL_law_386 ?_
  refine G_sld hk hX (i + 1) dL_law_387 (by omega) (by omega) h4 ?_
  refine G_cV1I hk dL_law_388 mvX11_back mlL_48 (by decide) rfl rfl (Nat.le_of_ble_eq_true rfl) (c_X11_back _ Γ 9 _ _ (i32_rng _) (im10 hI2) (im12 hI2)) (fun rm Sm hm => ?_)
  obtain ⟨e1, e2, e3⟩ := step_q (q := (fun S => q_back S ((xs (i + 1)).toInt))) (loc_back ((xs (i + 1)).toInt)) hx hm (inv_back hI ((xs (i + 1)).toInt))
  rw [e1]
  refine G_ieqS (tgt := 1384) hk dL_law_391 (by decide) ?_
  exact kn _ e2 e3
theorem lw_c8 {κ : Kx} {Γ : Ev} {b Ln i : Nat} {xs : Nat → Int32} {S : Sx} (hk : Ok κ Γ RL code 4 12) (hX : XK κ b Ln xs) (h4 : Ln ≤ 448) (hi : i + 7 ≤ Ln) (hR : CR S S) (hI : InvM S) (kn : ∀ S3 : Sx, CR S3 S3 → InvM S3 → GW κ Γ 1384 [some (.ref b), some (rf Γ 0), some (rf Γ 44), some (vI (i : Int))] [] (wl Γ S3)) : GW κ Γ 396 [some (.ref b), some (rf Γ 0), some (rf Γ 44), some (vI (i : Int))] [] (wl Γ S) := by
  refine G_rload_n hk dL_law_396 rfl ?_
  refine G_qload_n hk dL_law_397 rfl ?_
  refine G_iload_n hk dL_law_398 rfl ?_
  refine G_iconst hk dL_law_399 ?_
  refine G_iadd hk dL_law_400 ?_
  refine G_sld hk hX (i + 1) dL_law_401 (by omega) (by omega) h4 ?_
  refine G_cV1I hk dL_law_402 mvX10_faint mlL_49 (by decide) rfl rfl (Nat.le_of_ble_eq_true rfl) (c_X10_faint _ Γ 10 _ hR hI _ (i32_rng _)) (fun rx Sx hx => ?_)
  have hI2 := InvM_hi hx.2.2 hI
  refine G_rload_n hk dL_law_405 rfl ?_
  refine G_qload_n hk dL_law_406 rfl ?_
  refine G_iload_n hk dL_law_407 rfl ?_
  refine G_iconst hk dL_law_408 ?_
  refine G_iadd hk dL_law_409 ?_
  refine G_sld hk hX (i + 1) dL_law_410 (by omega) (by omega) h4 ?_
  refine G_cV1I hk dL_law_411 mvX11_faint mlL_52 (by decide) rfl rfl (Nat.le_of_ble_eq_true rfl) (c_X11_faint _ Γ 10 _ _ (i32_rng _)) (fun rm Sm hm => ?_)
  obtain ⟨e1, e2, e3⟩ := step_q (q := (fun S => q_faint S ((xs (i + 1)).toInt))) (loc_faint ((xs (i + 1)).toInt)) hx hm (inv_faint hI ((xs (i + 1)).toInt))
  rw [e1]
  refine G_ieqS (tgt := 1384) hk dL_law_414 (by decide) ?_
  exact kn _ e2 e3
theorem lw_c9 {κ : Kx} {Γ : Ev} {b Ln i : Nat} {xs : Nat → Int32} {S : Sx} (hk : Ok κ Γ RL code 4 12) (hX : XK κ b Ln xs) (h4 : Ln ≤ 448) (hi : i + 7 ≤ Ln) (hR : CR S S) (hI : InvM S) (kn : ∀ S3 : Sx, CR S3 S3 → InvM S3 → GW κ Γ 1384 [some (.ref b), some (rf Γ 0), some (rf Γ 44), some (vI (i : Int))] [] (wl Γ S3)) : GW κ Γ 419 [some (.ref b), some (rf Γ 0), some (rf Γ 44), some (vI (i : Int))] [] (wl Γ S) := by
  refine G_rload_n hk dL_law_419 rfl ?_
  refine G_qload_n hk dL_law_420 rfl ?_
  refine G_iload_n hk dL_law_421 rfl ?_
  refine G_iconst hk dL_law_422 ?_
  refine G_iadd hk dL_law_423 ?_
  refine G_sld hk hX (i + 1) dL_law_424 (by omega) (by omega) h4 ?_
  refine G_qload_n hk dL_law_425 rfl ?_
  refine G_iload_n hk dL_law_426 rfl ?_
  refine G_iconst hk dL_law_427 ?_
  refine G_iadd hk dL_law_428 ?_
  refine G_sld hk hX (i + 2) dL_law_429 (by omega) (by omega) h4 ?_
  refine G_cV2I hk dL_law_430 mvX10_want mlL_53 (by decide) rfl rfl (Nat.le_of_ble_eq_true rfl) (c_X10_want _ Γ 9 _ hR hI _ _ (i32_rng _) (i32_rng _)) (fun rx Sx hx => ?_)
  have hI2 := InvM_hi hx.2.2 hI
  refine G_rload_n hk dL_law_433 rfl ?_
  refine G_qload_n hk dL_law_434 rfl ?_
  refine G_iload_n hk dL_law_435 rfl ?_
  refine G_iconst hk dL_law_436 ?_
  refine G_iadd hk dL_law_437 ?_
  refine G_sld hk hX (i + 1) dL_law_438 (by omega) (by omega) h4 ?_
  refine G_qload_n hk dL_law_439 rfl ?_
  refine G_iload_n hk dL_law_440 rfl ?_
  refine G_iconst hk dL_law_441 ?_
  refine G_iadd hk dL_law_442 ?_
  refine G_sld hk hX (i + 2) dL_law_443 (by omega) (by omega) h4 ?_
  refine G_cV2I hk dL_law_444 mvX11_want mlL_56 (by decide) rfl rfl (Nat.le_of_ble_eq_true rfl) (c_X11_want _ Γ 9 _ _ _ (i32_rng _) (i32_rng _)) (fun rm Sm hm => ?_)
  obtain ⟨e1, e2, e3⟩ := step_q (q := (fun S => q_want S ((xs (i + 1)).toInt) ((xs (i + 2)).toInt))) (loc_want ((xs (i + 1)).toInt) ((xs (i + 2)).toInt)) hx hm (inv_want hI ((xs (i + 1)).toInt) ((xs (i + 2)).toInt))
  rw [e1]
  refine G_ieqS (tgt := 1384) hk dL_law_447 (by decide) ?_
  exact kn _ e2 e3
theorem lw_c10 {κ : Kx} {Γ : Ev} {b Ln i : Nat} {xs : Nat → Int32} {S : Sx} (hk : Ok κ Γ RL code 4 12) (hX : XK κ b Ln xs) (h4 : Ln ≤ 448) (hi : i + 7 ≤ Ln) (hR : CR S S) (hI : InvM S) (kn : ∀ S3 : Sx, CR S3 S3 → InvM S3 → GW κ Γ 1384 [some (.ref b), some (rf Γ 0), some (rf Γ 44), some (vI (i : Int))] [] (wl Γ S3)) : GW κ Γ 452 [some (.ref b), some (rf Γ 0), some (rf Γ 44), some (vI (i : Int))] [] (wl Γ S) := by
  refine G_rload_n hk dL_law_452 rfl ?_
  refine G_qload_n hk dL_law_453 rfl ?_
  refine G_iload_n hk dL_law_454 rfl ?_
  refine G_iconst hk dL_law_455 ?_
  refine G_iadd hk dL_law_456 ?_
  refine G_sld hk hX (i + 1) dL_law_457 (by omega) (by omega) h4 ?_
  refine G_qload_n hk dL_law_458 rfl ?_
  refine G_iload_n hk dL_law_459 rfl ?_
  refine G_iconst hk dL_law_460 ?_
  refine G_iadd hk dL_law_461 ?_
  refine G_sld hk hX (i + 2) dL_law_462 (by omega) (by omega) h4 ?_
  refine G_cV2I hk dL_law_463 mvX10_solid mlL_57 (by decide) rfl rfl (Nat.le_of_ble_eq_true rfl) (c_X10_solid _ Γ 6 _ (av S) _ hR.1 _ _ (i32_rng _) (i32_rng _)) (fun rx Sx hx => ?_)
  have hI2 := InvM_hi (frK_hi hx.2) hI
  have ea : av Sx = av S := av_hi (frK_hi hx.2)
  refine G_rload_n hk dL_law_466 rfl ?_
  refine G_qload_n hk dL_law_467 rfl ?_
  refine G_iload_n hk dL_law_468 rfl ?_
  refine G_iconst hk dL_law_469 ?_
  refine G_iadd hk dL_law_470 ?_
  refine G_sld hk hX (i + 1) dL_law_471 (by omega) (by omega) h4 ?_
  refine G_qload_n hk dL_law_472 rfl ?_
  refine G_iload_n hk dL_law_473 rfl ?_
  refine G_iconst hk dL_law_474 ?_
  refine G_iadd hk dL_law_475 ?_
  refine G_sld hk hX (i + 2) dL_law_476 (by omega) (by omega) h4 ?_
  refine G_cV2I hk dL_law_477 mvX11_solid mlL_60 (by decide) rfl rfl (Nat.le_of_ble_eq_true rfl) (c_X11_solid _ Γ 4 _ hI2 _ _ (i32_rng _) (i32_rng _)) (fun rm Sm hm => ?_)
  have sa := step_a hR hI hx.2 hm.2
  rw [hx.1, hm.1, ea]
  refine G_ieqS (tgt := 1384) hk dL_law_480 (by decide) ?_
  exact kn _ sa.1 sa.2
theorem lw_c11 {κ : Kx} {Γ : Ev} {b Ln i : Nat} {xs : Nat → Int32} {S : Sx} (hk : Ok κ Γ RL code 4 12) (hX : XK κ b Ln xs) (h4 : Ln ≤ 448) (hi : i + 7 ≤ Ln) (hR : CR S S) (hI : InvM S) (kn : ∀ S3 : Sx, CR S3 S3 → InvM S3 → GW κ Γ 1384 [some (.ref b), some (rf Γ 0), some (rf Γ 44), some (vI (i : Int))] [] (wl Γ S3)) : GW κ Γ 485 [some (.ref b), some (rf Γ 0), some (rf Γ 44), some (vI (i : Int))] [] (wl Γ S) := by
  refine G_rload_n hk dL_law_485 rfl ?_
  refine G_qload_n hk dL_law_486 rfl ?_
  refine G_iload_n hk dL_law_487 rfl ?_
  refine G_iconst hk dL_law_488 ?_
  refine G_iadd hk dL_law_489 ?_
  refine G_sld hk hX (i + 1) dL_law_490 (by omega) (by omega) h4 ?_
  refine G_qload_n hk dL_law_491 rfl ?_
  refine G_iload_n hk dL_law_492 rfl ?_
  refine G_iconst hk dL_law_493 ?_
  refine G_iadd hk dL_law_494 ?_
  refine G_sld hk hX (i + 2) dL_law_495 (by omega) (by omega) h4 ?_
  refine G_cV2I hk dL_law_496 mvX10_behind mlL_61 (by decide) rfl rfl (Nat.le_of_ble_eq_true rfl) (c_X10_behind _ Γ 6 _ (av S) _ hR.1 _ _ (i32_rng _) (i32_rng _)) (fun rx Sx hx => ?_)
  have hI2 := InvM_hi (frK_hi hx.2) hI
  have ea : av Sx = av S := av_hi (frK_hi hx.2)
  refine G_rload_n hk dL_law_499 rfl ?_
  refine G_qload_n hk dL_law_500 rfl ?_
  refine G_iload_n hk dL_law_501 rfl ?_
  refine G_iconst hk dL_law_502 ?_
  refine G_iadd hk dL_law_503 ?_
  refine G_sld hk hX (i + 1) dL_law_504 (by omega) (by omega) h4 ?_
  refine G_qload_n hk dL_law_505 rfl ?_
  refine G_iload_n hk dL_law_506 rfl ?_
  refine G_iconst hk dL_law_507 ?_
  refine G_iadd hk dL_law_508 ?_
  refine G_sld hk hX (i + 2) dL_law_509 (by omega) (by omega) h4 ?_
  refine G_cV2I hk dL_law_510 mvX11_behind mlL_64 (by decide) rfl rfl (Nat.le_of_ble_eq_true rfl) (c_X11_behind _ Γ 3 _ hI2 _ _ (i32_rng _) (i32_rng _)) (fun rm Sm hm => ?_)
  have sa := step_a hR hI hx.2 hm.2
  rw [hx.1, hm.1, ea]
  refine G_ieqS (tgt := 1384) hk dL_law_513 (by decide) ?_
  exact kn _ sa.1 sa.2
theorem lw_c12 {κ : Kx} {Γ : Ev} {b Ln i : Nat} {xs : Nat → Int32} {S : Sx} (hk : Ok κ Γ RL code 4 12) (hX : XK κ b Ln xs) (h4 : Ln ≤ 448) (hi : i + 7 ≤ Ln) (hR : CR S S) (hI : InvM S) (kn : ∀ S3 : Sx, CR S3 S3 → InvM S3 → GW κ Γ 1384 [some (.ref b), some (rf Γ 0), some (rf Γ 44), some (vI (i : Int))] [] (wl Γ S3)) : GW κ Γ 518 [some (.ref b), some (rf Γ 0), some (rf Γ 44), some (vI (i : Int))] [] (wl Γ S) := by
  refine G_rload_n hk dL_law_518 rfl ?_
  refine G_qload_n hk dL_law_519 rfl ?_
  refine G_iload_n hk dL_law_520 rfl ?_
  refine G_iconst hk dL_law_521 ?_
  refine G_iadd hk dL_law_522 ?_
  refine G_sld hk hX (i + 1) dL_law_523 (by omega) (by omega) h4 ?_
  refine G_qload_n hk dL_law_524 rfl ?_
  refine G_iload_n hk dL_law_525 rfl ?_
  refine G_iconst hk dL_law_526 ?_
  refine G_iadd hk dL_law_527 ?_
  refine G_sld hk hX (i + 2) dL_law_528 (by omega) (by omega) h4 ?_
  refine G_cV2I hk dL_law_529 mvX10_drawer mlL_65 (by decide) rfl rfl (Nat.le_of_ble_eq_true rfl) (c_X10_drawer _ Γ 6 _ (av S) _ hR.1 _ _ (i32_rng _) (i32_rng _)) (fun rx Sx hx => ?_)
  have hI2 := InvM_hi (frK_hi hx.2) hI
  have ea : av Sx = av S := av_hi (frK_hi hx.2)
  refine G_rload_n hk dL_law_532 rfl ?_
  refine G_qload_n hk dL_law_533 rfl ?_
  refine G_iload_n hk dL_law_534 rfl ?_
  refine G_iconst hk dL_law_535 ?_
  refine G_iadd hk dL_law_536 ?_
  refine G_sld hk hX (i + 1) dL_law_537 (by omega) (by omega) h4 ?_
  refine G_qload_n hk dL_law_538 rfl ?_
  refine G_iload_n hk dL_law_539 rfl ?_
  refine G_iconst hk dL_law_540 ?_
  refine G_iadd hk dL_law_541 ?_
  refine G_sld hk hX (i + 2) dL_law_542 (by omega) (by omega) h4 ?_
  refine G_cV2I hk dL_law_543 mvX11_drawer mlL_68 (by decide) rfl rfl (Nat.le_of_ble_eq_true rfl) (c_X11_drawer _ Γ 3 _ hI2 _ _ (i32_rng _) (i32_rng _)) (fun rm Sm hm => ?_)
  have sa := step_a hR hI hx.2 hm.2
  rw [hx.1, hm.1, ea]
  refine G_ieqS (tgt := 1384) hk dL_law_546 (by decide) ?_
  exact kn _ sa.1 sa.2
theorem lw_c13 {κ : Kx} {Γ : Ev} {b Ln i : Nat} {xs : Nat → Int32} {S : Sx} (hk : Ok κ Γ RL code 4 12) (hX : XK κ b Ln xs) (h4 : Ln ≤ 448) (hi : i + 7 ≤ Ln) (hR : CR S S) (hI : InvM S) (kn : ∀ S3 : Sx, CR S3 S3 → InvM S3 → GW κ Γ 1384 [some (.ref b), some (rf Γ 0), some (rf Γ 44), some (vI (i : Int))] [] (wl Γ S3)) : GW κ Γ 551 [some (.ref b), some (rf Γ 0), some (rf Γ 44), some (vI (i : Int))] [] (wl Γ S) := by
  refine G_rload_n hk dL_law_551 rfl ?_
  refine G_qload_n hk dL_law_552 rfl ?_
  refine G_iload_n hk dL_law_553 rfl ?_
  refine G_iconst hk dL_law_554 ?_
  refine G_iadd hk dL_law_555 ?_
  refine G_sld hk hX (i + 1) dL_law_556 (by omega) (by omega) h4 ?_
  refine G_qload_n hk dL_law_557 rfl ?_
  refine G_iload_n hk dL_law_558 rfl ?_
  refine G_iconst hk dL_law_559 ?_
  refine G_iadd hk dL_law_560 ?_
  refine G_sld hk hX (i + 2) dL_law_561 (by omega) (by omega) h4 ?_
  refine G_cV2I hk dL_law_562 mvX10_took mlL_69 (by decide) rfl rfl (Nat.le_of_ble_eq_true rfl) (c_X10_took _ Γ 6 _ (av S) _ hR.1 _ _ (i32_rng _) (i32_rng _)) (fun rx Sx hx => ?_)
  have hI2 := InvM_hi (frK_hi hx.2) hI
  have ea : av Sx = av S := av_hi (frK_hi hx.2)
  refine G_rload_n hk dL_law_565 rfl ?_
  refine G_qload_n hk dL_law_566 rfl ?_
  refine G_iload_n hk dL_law_567 rfl ?_
  refine G_iconst hk dL_law_568 ?_
  refine G_iadd hk dL_law_569 ?_
  refine G_sld hk hX (i + 1) dL_law_570 (by omega) (by omega) h4 ?_
  refine G_qload_n hk dL_law_571 rfl ?_
  refine G_iload_n hk dL_law_572 rfl ?_
  refine G_iconst hk dL_law_573 ?_
  refine G_iadd hk dL_law_574 ?_
  refine G_sld hk hX (i + 2) dL_law_575 (by omega) (by omega) h4 ?_
  refine G_cV2I hk dL_law_576 mvX11_took mlL_72 (by decide) rfl rfl (Nat.le_of_ble_eq_true rfl) (c_X11_took _ Γ 3 _ hI2 _ _ (i32_rng _) (i32_rng _)) (fun rm Sm hm => ?_)
  have sa := step_a hR hI hx.2 hm.2
  rw [hx.1, hm.1, ea]
  refine G_ieqS (tgt := 1384) hk dL_law_579 (by decide) ?_
  exact kn _ sa.1 sa.2
theorem lw_c14 {κ : Kx} {Γ : Ev} {b Ln i : Nat} {xs : Nat → Int32} {S : Sx} (hk : Ok κ Γ RL code 4 12) (hX : XK κ b Ln xs) (h4 : Ln ≤ 448) (hi : i + 7 ≤ Ln) (hR : CR S S) (hI : InvM S) (kn : ∀ S3 : Sx, CR S3 S3 → InvM S3 → GW κ Γ 1384 [some (.ref b), some (rf Γ 0), some (rf Γ 44), some (vI (i : Int))] [] (wl Γ S3)) : GW κ Γ 584 [some (.ref b), some (rf Γ 0), some (rf Γ 44), some (vI (i : Int))] [] (wl Γ S) := by
  refine G_rload_n hk dL_law_584 rfl ?_
  refine G_qload_n hk dL_law_585 rfl ?_
  refine G_iload_n hk dL_law_586 rfl ?_
  refine G_iconst hk dL_law_587 ?_
  refine G_iadd hk dL_law_588 ?_
  refine G_sld hk hX (i + 1) dL_law_589 (by omega) (by omega) h4 ?_
  refine G_cV1I hk dL_law_590 mvX10_unseen mlL_73 (by decide) rfl rfl (Nat.le_of_ble_eq_true rfl) (c_X10_unseen _ Γ 6 _ (av S) _ hR.1 _ (i32_rng _)) (fun rx Sx hx => ?_)
  have hI2 := InvM_hi (frK_hi hx.2) hI
  have ea : av Sx = av S := av_hi (frK_hi hx.2)
  refine G_rload_n hk dL_law_593 rfl ?_
  refine G_qload_n hk dL_law_594 rfl ?_
  refine G_iload_n hk dL_law_595 rfl ?_
  refine G_iconst hk dL_law_596 ?_
  refine G_iadd hk dL_law_597 ?_
  refine G_sld hk hX (i + 1) dL_law_598 (by omega) (by omega) h4 ?_
  refine G_cV1I hk dL_law_599 mvX11_unseen mlL_76 (by decide) rfl rfl (Nat.le_of_ble_eq_true rfl) (c_X11_unseen _ Γ 4 _ hI2 _ (i32_rng _)) (fun rm Sm hm => ?_)
  have sa := step_a hR hI hx.2 hm.2
  rw [hx.1, hm.1, ea]
  refine G_ieqS (tgt := 1384) hk dL_law_602 (by decide) ?_
  exact kn _ sa.1 sa.2
theorem lw_c15 {κ : Kx} {Γ : Ev} {b Ln i : Nat} {xs : Nat → Int32} {S : Sx} (hk : Ok κ Γ RL code 4 12) (hX : XK κ b Ln xs) (h4 : Ln ≤ 448) (hi : i + 7 ≤ Ln) (hR : CR S S) (hI : InvM S) (kn : ∀ S3 : Sx, CR S3 S3 → InvM S3 → GW κ Γ 1384 [some (.ref b), some (rf Γ 0), some (rf Γ 44), some (vI (i : Int))] [] (wl Γ S3)) : GW κ Γ 607 [some (.ref b), some (rf Γ 0), some (rf Γ 44), some (vI (i : Int))] [] (wl Γ S) := by
  refine G_rload_n hk dL_law_607 rfl ?_
  refine G_qload_n hk dL_law_608 rfl ?_
  refine G_iload_n hk dL_law_609 rfl ?_
  refine G_iconst hk dL_law_610 ?_
  refine G_iadd hk dL_law_611 ?_
  refine G_sld hk hX (i + 1) dL_law_612 (by omega) (by omega) h4 ?_
  refine G_qload_n hk dL_law_613 rfl ?_
  refine G_iload_n hk dL_law_614 rfl ?_
  refine G_iconst hk dL_law_615 ?_
  refine G_iadd hk dL_law_616 ?_
  refine G_sld hk hX (i + 2) dL_law_617 (by omega) (by omega) h4 ?_
  refine G_qload_n hk dL_law_618 rfl ?_
  refine G_iload_n hk dL_law_619 rfl ?_
  refine G_iconst hk dL_law_620 ?_
  refine G_iadd hk dL_law_621 ?_
  refine G_sld hk hX (i + 3) dL_law_622 (by omega) (by omega) h4 ?_
  refine G_qload_n hk dL_law_623 rfl ?_
  refine G_iload_n hk dL_law_624 rfl ?_
  refine G_iconst hk dL_law_625 ?_
  refine G_iadd hk dL_law_626 ?_
  refine G_sld hk hX (i + 4) dL_law_627 (by omega) (by omega) h4 ?_
  refine G_qload_n hk dL_law_628 rfl ?_
  refine G_iload_n hk dL_law_629 rfl ?_
  refine G_iconst hk dL_law_630 ?_
  refine G_iadd hk dL_law_631 ?_
  refine G_sld hk hX (i + 5) dL_law_632 (by omega) (by omega) h4 ?_
  refine G_cV5I hk dL_law_633 mvX10_whole mlL_77 (by decide) rfl rfl (Nat.le_of_ble_eq_true rfl) (c_X10_whole _ Γ 6 _ (av S) _ hR.1 _ _ _ _ _ (i32_rng _) (i32_rng _) (i32_rng _) (i32_rng _) (i32_rng _)) (fun rx Sx hx => ?_)
  have hI2 := InvM_hi (frK_hi hx.2) hI
  have ea : av Sx = av S := av_hi (frK_hi hx.2)
  refine G_rload_n hk dL_law_636 rfl ?_
  refine G_qload_n hk dL_law_637 rfl ?_
  refine G_iload_n hk dL_law_638 rfl ?_
  refine G_iconst hk dL_law_639 ?_
  refine G_iadd hk dL_law_640 ?_
  refine G_sld hk hX (i + 1) dL_law_641 (by omega) (by omega) h4 ?_
  refine G_qload_n hk dL_law_642 rfl ?_
  refine G_iload_n hk dL_law_643 rfl ?_
  refine G_iconst hk dL_law_644 ?_
  refine G_iadd hk dL_law_645 ?_
  refine G_sld hk hX (i + 2) dL_law_646 (by omega) (by omega) h4 ?_
  refine G_qload_n hk dL_law_647 rfl ?_
  refine G_iload_n hk dL_law_648 rfl ?_
  refine G_iconst hk dL_law_649 ?_
  refine G_iadd hk dL_law_650 ?_
  refine G_sld hk hX (i + 3) dL_law_651 (by omega) (by omega) h4 ?_
  refine G_qload_n hk dL_law_652 rfl ?_
  refine G_iload_n hk dL_law_653 rfl ?_
  refine G_iconst hk dL_law_654 ?_
  refine G_iadd hk dL_law_655 ?_
  refine G_sld hk hX (i + 4) dL_law_656 (by omega) (by omega) h4 ?_
  refine G_qload_n hk dL_law_657 rfl ?_
  refine G_iload_n hk dL_law_658 rfl ?_
  refine G_iconst hk dL_law_659 ?_
  refine G_iadd hk dL_law_660 ?_
  refine G_sld hk hX (i + 5) dL_law_661 (by omega) (by omega) h4 ?_
  refine G_cV5I hk dL_law_662 mvX11_whole mlL_81 (by decide) rfl rfl (Nat.le_of_ble_eq_true rfl) (c_X11_whole _ Γ 2 _ hI2 _ _ _ _ _ (i32_rng _) (i32_rng _) (i32_rng _) (i32_rng _) (i32_rng _)) (fun rm Sm hm => ?_)
  have sa := step_a hR hI hx.2 hm.2
  rw [hx.1, hm.1, ea]
  refine G_ieqS (tgt := 1384) hk dL_law_665 (by decide) ?_
  exact kn _ sa.1 sa.2
theorem lw_c16 {κ : Kx} {Γ : Ev} {b Ln i : Nat} {xs : Nat → Int32} {S : Sx} (hk : Ok κ Γ RL code 4 12) (hX : XK κ b Ln xs) (h4 : Ln ≤ 448) (hi : i + 7 ≤ Ln) (hR : CR S S) (hI : InvM S) (kn : ∀ S3 : Sx, CR S3 S3 → InvM S3 → GW κ Γ 1384 [some (.ref b), some (rf Γ 0), some (rf Γ 44), some (vI (i : Int))] [] (wl Γ S3)) : GW κ Γ 670 [some (.ref b), some (rf Γ 0), some (rf Γ 44), some (vI (i : Int))] [] (wl Γ S) := by
  refine G_rload_n hk dL_law_670 rfl ?_
  refine G_qload_n hk dL_law_671 rfl ?_
  refine G_iload_n hk dL_law_672 rfl ?_
  refine G_iconst hk dL_law_673 ?_
  refine G_iadd hk dL_law_674 ?_
  refine G_sld hk hX (i + 1) dL_law_675 (by omega) (by omega) h4 ?_
  refine G_qload_n hk dL_law_676 rfl ?_
  refine G_iload_n hk dL_law_677 rfl ?_
  refine G_iconst hk dL_law_678 ?_
  refine G_iadd hk dL_law_679 ?_
  refine G_sld hk hX (i + 2) dL_law_680 (by omega) (by omega) h4 ?_
  refine G_cV2I hk dL_law_681 mvX10_feast mlL_82 (by decide) rfl rfl (Nat.le_of_ble_eq_true rfl) (c_X10_feast _ Γ 6 _ (av S) _ hR.1 _ _ (i32_rng _) (i32_rng _)) (fun rx Sx hx => ?_)
  have hI2 := InvM_hi (frK_hi hx.2) hI
  have ea : av Sx = av S := av_hi (frK_hi hx.2)
  refine G_rload_n hk dL_law_684 rfl ?_
  refine G_qload_n hk dL_law_685 rfl ?_
  refine G_iload_n hk dL_law_686 rfl ?_
  refine G_iconst hk dL_law_687 ?_
  refine G_iadd hk dL_law_688 ?_
  refine G_sld hk hX (i + 1) dL_law_689 (by omega) (by omega) h4 ?_
  refine G_qload_n hk dL_law_690 rfl ?_
  refine G_iload_n hk dL_law_691 rfl ?_
  refine G_iconst hk dL_law_692 ?_
  refine G_iadd hk dL_law_693 ?_
  refine G_sld hk hX (i + 2) dL_law_694 (by omega) (by omega) h4 ?_
  refine G_cV2I hk dL_law_695 mvX11_feast mlL_85 (by decide) rfl rfl (Nat.le_of_ble_eq_true rfl) (c_X11_feast _ Γ 3 _ hI2 _ _ (i32_rng _) (i32_rng _)) (fun rm Sm hm => ?_)
  have sa := step_a hR hI hx.2 hm.2
  rw [hx.1, hm.1, ea]
  refine G_ieqS (tgt := 1384) hk dL_law_698 (by decide) ?_
  exact kn _ sa.1 sa.2
theorem lw_c17 {κ : Kx} {Γ : Ev} {b Ln i : Nat} {xs : Nat → Int32} {S : Sx} (hk : Ok κ Γ RL code 4 12) (hX : XK κ b Ln xs) (h4 : Ln ≤ 448) (hi : i + 7 ≤ Ln) (hR : CR S S) (hI : InvM S) (kn : ∀ S3 : Sx, CR S3 S3 → InvM S3 → GW κ Γ 1384 [some (.ref b), some (rf Γ 0), some (rf Γ 44), some (vI (i : Int))] [] (wl Γ S3)) : GW κ Γ 703 [some (.ref b), some (rf Γ 0), some (rf Γ 44), some (vI (i : Int))] [] (wl Γ S) := by
  refine G_rload_n hk dL_law_703 rfl ?_
  refine G_qload_n hk dL_law_704 rfl ?_
  refine G_iload_n hk dL_law_705 rfl ?_
  refine G_iconst hk dL_law_706 ?_
  refine G_iadd hk dL_law_707 ?_
  refine G_sld hk hX (i + 1) dL_law_708 (by omega) (by omega) h4 ?_
  refine G_qload_n hk dL_law_709 rfl ?_
  refine G_iload_n hk dL_law_710 rfl ?_
  refine G_iconst hk dL_law_711 ?_
  refine G_iadd hk dL_law_712 ?_
  refine G_sld hk hX (i + 2) dL_law_713 (by omega) (by omega) h4 ?_
  refine G_qload_n hk dL_law_714 rfl ?_
  refine G_iload_n hk dL_law_715 rfl ?_
  refine G_iconst hk dL_law_716 ?_
  refine G_iadd hk dL_law_717 ?_
  refine G_sld hk hX (i + 3) dL_law_718 (by omega) (by omega) h4 ?_
  refine G_cV3I hk dL_law_719 mvX10_spy mlL_86 (by decide) rfl rfl (Nat.le_of_ble_eq_true rfl) (c_X10_spy _ Γ 6 _ (av S) _ hR.1 _ _ _ (i32_rng _) (i32_rng _) (i32_rng _)) (fun rx Sx hx => ?_)
  have hI2 := InvM_hi (frK_hi hx.2) hI
  have ea : av Sx = av S := av_hi (frK_hi hx.2)
  refine G_rload_n hk dL_law_722 rfl ?_
  refine G_qload_n hk dL_law_723 rfl ?_
  refine G_iload_n hk dL_law_724 rfl ?_
  refine G_iconst hk dL_law_725 ?_
  refine G_iadd hk dL_law_726 ?_
  refine G_sld hk hX (i + 1) dL_law_727 (by omega) (by omega) h4 ?_
  refine G_qload_n hk dL_law_728 rfl ?_
  refine G_iload_n hk dL_law_729 rfl ?_
  refine G_iconst hk dL_law_730 ?_
  refine G_iadd hk dL_law_731 ?_
  refine G_sld hk hX (i + 2) dL_law_732 (by omega) (by omega) h4 ?_
  refine G_qload_n hk dL_law_733 rfl ?_
  refine G_iload_n hk dL_law_734 rfl ?_
  refine G_iconst hk dL_law_735 ?_
  refine G_iadd hk dL_law_736 ?_
  refine G_sld hk hX (i + 3) dL_law_737 (by omega) (by omega) h4 ?_
  refine G_cV3I hk dL_law_738 mvX11_spy mlL_90 (by decide) rfl rfl (Nat.le_of_ble_eq_true rfl) (c_X11_spy _ Γ 3 _ hI2 _ _ _ (i32_rng _) (i32_rng _) (i32_rng _)) (fun rm Sm hm => ?_)
  have sa := step_a hR hI hx.2 hm.2
  rw [hx.1, hm.1, ea]
  refine G_ieqS (tgt := 1384) hk dL_law_741 (by decide) ?_
  exact kn _ sa.1 sa.2
theorem lw_c18 {κ : Kx} {Γ : Ev} {b Ln i : Nat} {xs : Nat → Int32} {S : Sx} (hk : Ok κ Γ RL code 4 12) (hX : XK κ b Ln xs) (h4 : Ln ≤ 448) (hi : i + 7 ≤ Ln) (hR : CR S S) (hI : InvM S) (kn : ∀ S3 : Sx, CR S3 S3 → InvM S3 → GW κ Γ 1384 [some (.ref b), some (rf Γ 0), some (rf Γ 44), some (vI (i : Int))] [] (wl Γ S3)) : GW κ Γ 746 [some (.ref b), some (rf Γ 0), some (rf Γ 44), some (vI (i : Int))] [] (wl Γ S) := by
  refine G_rload_n hk dL_law_746 rfl ?_
  refine G_qload_n hk dL_law_747 rfl ?_
  refine G_iload_n hk dL_law_748 rfl ?_
  refine G_iconst hk dL_law_749 ?_
  refine G_iadd hk dL_law_750 ?_
  refine G_sld hk hX (i + 1) dL_law_751 (by omega) (by omega) h4 ?_
  refine G_qload_n hk dL_law_752 rfl ?_
  refine G_iload_n hk dL_law_753 rfl ?_
  refine G_iconst hk dL_law_754 ?_
  refine G_iadd hk dL_law_755 ?_
  refine G_sld hk hX (i + 2) dL_law_756 (by omega) (by omega) h4 ?_
  refine G_cV2I hk dL_law_757 mvX10_swap mlL_91 (by decide) rfl rfl (Nat.le_of_ble_eq_true rfl) (c_X10_swap _ Γ 6 _ (av S) _ hR.1 _ _ (i32_rng _) (i32_rng _)) (fun rx Sx hx => ?_)
  have hI2 := InvM_hi (frK_hi hx.2) hI
  have ea : av Sx = av S := av_hi (frK_hi hx.2)
  refine G_rload_n hk dL_law_760 rfl ?_
  refine G_qload_n hk dL_law_761 rfl ?_
  refine G_iload_n hk dL_law_762 rfl ?_
  refine G_iconst hk dL_law_763 ?_
  refine G_iadd hk dL_law_764 ?_
  refine G_sld hk hX (i + 1) dL_law_765 (by omega) (by omega) h4 ?_
  refine G_qload_n hk dL_law_766 rfl ?_
  refine G_iload_n hk dL_law_767 rfl ?_
  refine G_iconst hk dL_law_768 ?_
  refine G_iadd hk dL_law_769 ?_
  refine G_sld hk hX (i + 2) dL_law_770 (by omega) (by omega) h4 ?_
  refine G_cV2I hk dL_law_771 mvX11_swap mlL_94 (by decide) rfl rfl (Nat.le_of_ble_eq_true rfl) (c_X11_swap _ Γ 3 _ hI2 _ _ (i32_rng _) (i32_rng _)) (fun rm Sm hm => ?_)
  have sa := step_a hR hI hx.2 hm.2
  rw [hx.1, hm.1, ea]
  refine G_ieqS (tgt := 1384) hk dL_law_774 (by decide) ?_
  exact kn _ sa.1 sa.2
theorem lw_c19 {κ : Kx} {Γ : Ev} {b Ln i : Nat} {xs : Nat → Int32} {S : Sx} (hk : Ok κ Γ RL code 4 12) (hX : XK κ b Ln xs) (h4 : Ln ≤ 448) (hi : i + 7 ≤ Ln) (hR : CR S S) (hI : InvM S) (kn : ∀ S3 : Sx, CR S3 S3 → InvM S3 → GW κ Γ 1384 [some (.ref b), some (rf Γ 0), some (rf Γ 44), some (vI (i : Int))] [] (wl Γ S3)) : GW κ Γ 779 [some (.ref b), some (rf Γ 0), some (rf Γ 44), some (vI (i : Int))] [] (wl Γ S) := by
  refine G_rload_n hk dL_law_779 rfl ?_
  refine G_qload_n hk dL_law_780 rfl ?_
  refine G_iload_n hk dL_law_781 rfl ?_
  refine G_iconst hk dL_law_782 ?_
  refine G_iadd hk dL_law_783 ?_
  refine G_sld hk hX (i + 1) dL_law_784 (by omega) (by omega) h4 ?_
  refine G_qload_n hk dL_law_785 rfl ?_
  refine G_iload_n hk dL_law_786 rfl ?_
  refine G_iconst hk dL_law_787 ?_
  refine G_iadd hk dL_law_788 ?_
  refine G_sld hk hX (i + 2) dL_law_789 (by omega) (by omega) h4 ?_
  refine G_qload_n hk dL_law_790 rfl ?_
  refine G_iload_n hk dL_law_791 rfl ?_
  refine G_iconst hk dL_law_792 ?_
  refine G_iadd hk dL_law_793 ?_
  refine G_sld hk hX (i + 3) dL_law_794 (by omega) (by omega) h4 ?_
  refine G_cV3I hk dL_law_795 mvX10_seen mlL_95 (by decide) rfl rfl (Nat.le_of_ble_eq_true rfl) (c_X10_seen _ Γ 8 _ hR hI _ _ _ (i32_rng _) (i32_rng _) (i32_rng _)) (fun rx Sx hx => ?_)
  have hI2 := InvM_hi hx.2.2 hI
  refine G_rload_n hk dL_law_798 rfl ?_
  refine G_qload_n hk dL_law_799 rfl ?_
  refine G_iload_n hk dL_law_800 rfl ?_
  refine G_iconst hk dL_law_801 ?_
  refine G_iadd hk dL_law_802 ?_
  refine G_sld hk hX (i + 1) dL_law_803 (by omega) (by omega) h4 ?_
  refine G_qload_n hk dL_law_804 rfl ?_
  refine G_iload_n hk dL_law_805 rfl ?_
  refine G_iconst hk dL_law_806 ?_
  refine G_iadd hk dL_law_807 ?_
  refine G_sld hk hX (i + 2) dL_law_808 (by omega) (by omega) h4 ?_
  refine G_qload_n hk dL_law_809 rfl ?_
  refine G_iload_n hk dL_law_810 rfl ?_
  refine G_iconst hk dL_law_811 ?_
  refine G_iadd hk dL_law_812 ?_
  refine G_sld hk hX (i + 3) dL_law_813 (by omega) (by omega) h4 ?_
  refine G_cV3I hk dL_law_814 mvX11_seen mlL_98 (by decide) rfl rfl (Nat.le_of_ble_eq_true rfl) (c_X11_seen _ Γ 9 _ _ _ _ (i32_rng _) (i32_rng _) (i32_rng _) (im31 hI2)) (fun rm Sm hm => ?_)
  obtain ⟨e1, e2, e3⟩ := step_q (q := (fun S => q_seen S ((xs (i + 1)).toInt) ((xs (i + 2)).toInt) ((xs (i + 3)).toInt))) (loc_seen ((xs (i + 1)).toInt) ((xs (i + 2)).toInt) ((xs (i + 3)).toInt)) hx hm (inv_seen hI ((xs (i + 1)).toInt) ((xs (i + 2)).toInt) ((xs (i + 3)).toInt))
  rw [e1]
  refine G_ieqS (tgt := 1384) hk dL_law_817 (by decide) ?_
  exact kn _ e2 e3
theorem lw_c20 {κ : Kx} {Γ : Ev} {b Ln i : Nat} {xs : Nat → Int32} {S : Sx} (hk : Ok κ Γ RL code 4 12) (hX : XK κ b Ln xs) (h4 : Ln ≤ 448) (hi : i + 7 ≤ Ln) (hR : CR S S) (hI : InvM S) (kn : ∀ S3 : Sx, CR S3 S3 → InvM S3 → GW κ Γ 1384 [some (.ref b), some (rf Γ 0), some (rf Γ 44), some (vI (i : Int))] [] (wl Γ S3)) : GW κ Γ 822 [some (.ref b), some (rf Γ 0), some (rf Γ 44), some (vI (i : Int))] [] (wl Γ S) := by
  refine G_rload_n hk dL_law_822 rfl ?_
  refine G_cV0I hk dL_law_823 mvX10_forget mlL_99 (by decide) rfl rfl (Nat.le_of_ble_eq_true rfl) (c_X10_forget _ Γ 9 _ hR hI) (fun rx Sx hx => ?_)
  have hI2 := InvM_hi hx.2.2 hI
  refine G_rload_n hk dL_law_826 rfl ?_
  refine G_cV0I hk dL_law_827 mvX11_forget mlL_102 (by decide) rfl rfl (Nat.le_of_ble_eq_true rfl) (c_X11_forget _ Γ 11 _) (fun rm Sm hm => ?_)
  obtain ⟨e1, e2, e3⟩ := step_q (q := q_forget) loc_forget hx hm (inv_forget hI)
  rw [e1]
  refine G_ieqS (tgt := 1384) hk dL_law_830 (by decide) ?_
  exact kn _ e2 e3
theorem lw_c21 {κ : Kx} {Γ : Ev} {b Ln i : Nat} {xs : Nat → Int32} {S : Sx} (hk : Ok κ Γ RL code 4 12) (hX : XK κ b Ln xs) (h4 : Ln ≤ 448) (hi : i + 7 ≤ Ln) (hR : CR S S) (hI : InvM S) (kn : ∀ S3 : Sx, CR S3 S3 → InvM S3 → GW κ Γ 1384 [some (.ref b), some (rf Γ 0), some (rf Γ 44), some (vI (i : Int))] [] (wl Γ S3)) : GW κ Γ 835 [some (.ref b), some (rf Γ 0), some (rf Γ 44), some (vI (i : Int))] [] (wl Γ S) := by
  refine G_rload_n hk dL_law_835 rfl ?_
  refine G_qload_n hk dL_law_836 rfl ?_
  refine G_iload_n hk dL_law_837 rfl ?_
  refine G_iconst hk dL_law_838 ?_
  refine G_iadd hk dL_law_839 ?_
  refine G_sld hk hX (i + 1) dL_law_840 (by omega) (by omega) h4 ?_
  refine G_cV1I hk dL_law_841 mvX10_read mlL_103 (by decide) rfl rfl (Nat.le_of_ble_eq_true rfl) (c_X10_read _ Γ 8 _ hR hI _ (i32_rng _)) (fun rx Sx hx => ?_)
  have hI2 := InvM_hi hx.2.2 hI
  refine G_rload_n hk dL_law_844 rfl ?_
  refine G_qload_n hk dL_law_845 rfl ?_
  refine G_iload_n hk dL_law_846 rfl ?_
  refine G_iconst hk dL_law_847 ?_
  refine G_iadd hk dL_law_848 ?_
  refine G_sld hk hX (i + 1) dL_law_849 (by omega) (by omega) h4 ?_
  refine G_cV1I hk dL_law_850 mvX11_read mlL_106 (by decide) rfl rfl (Nat.le_of_ble_eq_true rfl) (c_X11_read _ Γ 8 _ hI2 _ (i32_rng _)) (fun rm Sm hm => ?_)
  obtain ⟨e1, e2, e3⟩ := step_q (q := (fun S => q_read S ((xs (i + 1)).toInt))) (loc_read ((xs (i + 1)).toInt)) hx hm (inv_read hI ((xs (i + 1)).toInt))
  rw [e1]
  refine G_ieqS (tgt := 1384) hk dL_law_853 (by decide) ?_
  exact kn _ e2 e3
theorem lw_c22 {κ : Kx} {Γ : Ev} {b Ln i : Nat} {xs : Nat → Int32} {S : Sx} (hk : Ok κ Γ RL code 4 12) (hX : XK κ b Ln xs) (h4 : Ln ≤ 448) (hi : i + 7 ≤ Ln) (hR : CR S S) (hI : InvM S) (kn : ∀ S3 : Sx, CR S3 S3 → InvM S3 → GW κ Γ 1384 [some (.ref b), some (rf Γ 0), some (rf Γ 44), some (vI (i : Int))] [] (wl Γ S3)) : GW κ Γ 858 [some (.ref b), some (rf Γ 0), some (rf Γ 44), some (vI (i : Int))] [] (wl Γ S) := by
  refine G_rload_n hk dL_law_858 rfl ?_
  refine G_cV0I hk dL_law_859 mvX10_never mlL_107 (by decide) rfl rfl (Nat.le_of_ble_eq_true rfl) (c_X10_never _ Γ 5 _ (av S) _ hR.1) (fun rx Sx hx => ?_)
  have hI2 := InvM_hi (frK_hi hx.2) hI
  have ea : av Sx = av S := av_hi (frK_hi hx.2)
  refine G_rload_n hk dL_law_862 rfl ?_
  refine G_cV0I hk dL_law_863 mvX11_never mlL_110 (by decide) rfl rfl (Nat.le_of_ble_eq_true rfl) (c_X11_never _ Γ 3 _ hI2) (fun rm Sm hm => ?_)
  have sa := step_a hR hI hx.2 hm.2
  rw [hx.1, hm.1, ea]
  refine G_ieqS (tgt := 1384) hk dL_law_866 (by decide) ?_
  exact kn _ sa.1 sa.2
theorem lw_c23 {κ : Kx} {Γ : Ev} {b Ln i : Nat} {xs : Nat → Int32} {S : Sx} (hk : Ok κ Γ RL code 4 12) (hX : XK κ b Ln xs) (h4 : Ln ≤ 448) (hi : i + 7 ≤ Ln) (hR : CR S S) (hI : InvM S) (kn : ∀ S3 : Sx, CR S3 S3 → InvM S3 → GW κ Γ 1384 [some (.ref b), some (rf Γ 0), some (rf Γ 44), some (vI (i : Int))] [] (wl Γ S3)) : GW κ Γ 871 [some (.ref b), some (rf Γ 0), some (rf Γ 44), some (vI (i : Int))] [] (wl Γ S) := by
  refine G_rload_n hk dL_law_871 rfl ?_
  refine G_qload_n hk dL_law_872 rfl ?_
  refine G_iload_n hk dL_law_873 rfl ?_
  refine G_iconst hk dL_law_874 ?_
  refine G_iadd hk dL_law_875 ?_
  refine G_sld hk hX (i + 1) dL_law_876 (by omega) (by omega) h4 ?_
  refine G_cV1I hk dL_law_877 mvX10_sizes mlL_111 (by decide) rfl rfl (Nat.le_of_ble_eq_true rfl) (c_X10_sizes _ Γ 5 _ (av S) _ hR.1 _ (i32_rng _)) (fun rx Sx hx => ?_)
  have hI2 := InvM_hi (frK_hi hx.2) hI
  have ea : av Sx = av S := av_hi (frK_hi hx.2)
  refine G_rload_n hk dL_law_880 rfl ?_
  refine G_qload_n hk dL_law_881 rfl ?_
  refine G_iload_n hk dL_law_882 rfl ?_
  refine G_iconst hk dL_law_883 ?_
  refine G_iadd hk dL_law_884 ?_
  refine G_sld hk hX (i + 1) dL_law_885 (by omega) (by omega) h4 ?_
  refine G_cV1I hk dL_law_886 mvX11_sizes mlL_114 (by decide) rfl rfl (Nat.le_of_ble_eq_true rfl) (c_X11_sizes _ Γ 3 _ hI2 _ (i32_rng _)) (fun rm Sm hm => ?_)
  have sa := step_a hR hI hx.2 hm.2
  rw [hx.1, hm.1, ea]
  refine G_ieqS (tgt := 1384) hk dL_law_889 (by decide) ?_
  exact kn _ sa.1 sa.2
theorem lw_c24 {κ : Kx} {Γ : Ev} {b Ln i : Nat} {xs : Nat → Int32} {S : Sx} (hk : Ok κ Γ RL code 4 12) (hX : XK κ b Ln xs) (h4 : Ln ≤ 448) (hi : i + 7 ≤ Ln) (hR : CR S S) (hI : InvM S) (kn : ∀ S3 : Sx, CR S3 S3 → InvM S3 → GW κ Γ 1384 [some (.ref b), some (rf Γ 0), some (rf Γ 44), some (vI (i : Int))] [] (wl Γ S3)) : GW κ Γ 894 [some (.ref b), some (rf Γ 0), some (rf Γ 44), some (vI (i : Int))] [] (wl Γ S) := by
  refine G_rload_n hk dL_law_894 rfl ?_
  refine G_qload_n hk dL_law_895 rfl ?_
  refine G_iload_n hk dL_law_896 rfl ?_
  refine G_iconst hk dL_law_897 ?_
  refine G_iadd hk dL_law_898 ?_
  refine G_sld hk hX (i + 1) dL_law_899 (by omega) (by omega) h4 ?_
  refine G_qload_n hk dL_law_900 rfl ?_
  refine G_iload_n hk dL_law_901 rfl ?_
  refine G_iconst hk dL_law_902 ?_
  refine G_iadd hk dL_law_903 ?_
  refine G_sld hk hX (i + 2) dL_law_904 (by omega) (by omega) h4 ?_
  refine G_qload_n hk dL_law_905 rfl ?_
  refine G_iload_n hk dL_law_906 rfl ?_
  refine G_iconst hk dL_law_907 ?_
  refine G_iadd hk dL_law_908 ?_
  refine G_sld hk hX (i + 3) dL_law_909 (by omega) (by omega) h4 ?_
  refine G_cV3P hk dL_law_910 mvX10_town mlL_115 (by decide) rfl rfl (Nat.le_of_ble_eq_true rfl) (c_X10_town _ Γ 9 _ _ _ _ (i32_rng _) (i32_rng _) (i32_rng _)) ?_
  refine G_rload_n hk dL_law_913 rfl ?_
  refine G_qload_n hk dL_law_914 rfl ?_
  refine G_iload_n hk dL_law_915 rfl ?_
  refine G_iconst hk dL_law_916 ?_
  refine G_iadd hk dL_law_917 ?_
  refine G_sld hk hX (i + 1) dL_law_918 (by omega) (by omega) h4 ?_
  refine G_qload_n hk dL_law_919 rfl ?_
  refine G_iload_n hk dL_law_920 rfl ?_
  refine G_iconst hk dL_law_921 ?_
  refine G_iadd hk dL_law_922 ?_
  refine G_sld hk hX (i + 2) dL_law_923 (by omega) (by omega) h4 ?_
  refine G_qload_n hk dL_law_924 rfl ?_
  refine G_iload_n hk dL_law_925 rfl ?_
  refine G_iconst hk dL_law_926 ?_
  refine G_iadd hk dL_law_927 ?_
  refine G_sld hk hX (i + 3) dL_law_928 (by omega) (by omega) h4 ?_
  refine G_cV3P hk dL_law_929 mvX11_town mlL_118 (by decide) rfl rfl (Nat.le_of_ble_eq_true rfl) (c_X11_town _ Γ 9 _ _ _ _ (i32_rng _) (i32_rng _) (i32_rng _)) ?_
  refine G_ieqS (tgt := 1384) hk dL_law_932 (by decide) ?_
  exact kn _ hR hI
theorem lw_c25 {κ : Kx} {Γ : Ev} {b Ln i : Nat} {xs : Nat → Int32} {S : Sx} (hk : Ok κ Γ RL code 4 12) (hX : XK κ b Ln xs) (h4 : Ln ≤ 448) (hi : i + 7 ≤ Ln) (hR : CR S S) (hI : InvM S) (kn : ∀ S3 : Sx, CR S3 S3 → InvM S3 → GW κ Γ 1384 [some (.ref b), some (rf Γ 0), some (rf Γ 44), some (vI (i : Int))] [] (wl Γ S3)) : GW κ Γ 937 [some (.ref b), some (rf Γ 0), some (rf Γ 44), some (vI (i : Int))] [] (wl Γ S) := by
  refine G_rload_n hk dL_law_937 rfl ?_
  refine G_qload_n hk dL_law_938 rfl ?_
  refine G_iload_n hk dL_law_939 rfl ?_
  refine G_iconst hk dL_law_940 ?_
  refine G_iadd hk dL_law_941 ?_
  refine G_sld hk hX (i + 1) dL_law_942 (by omega) (by omega) h4 ?_
  refine G_qload_n hk dL_law_943 rfl ?_
  refine G_iload_n hk dL_law_944 rfl ?_
  refine G_iconst hk dL_law_945 ?_
  refine G_iadd hk dL_law_946 ?_
  refine G_sld hk hX (i + 2) dL_law_947 (by omega) (by omega) h4 ?_
  refine G_cV2P hk dL_law_948 mvX10_toll mlL_119 (by decide) rfl rfl (Nat.le_of_ble_eq_true rfl) (c_X10_toll _ Γ 9 _ _ _ (i32_rng _) (i32_rng _)) ?_
  refine G_rload_n hk dL_law_951 rfl ?_
  refine G_qload_n hk dL_law_952 rfl ?_
  refine G_iload_n hk dL_law_953 rfl ?_
  refine G_iconst hk dL_law_954 ?_
  refine G_iadd hk dL_law_955 ?_
  refine G_sld hk hX (i + 1) dL_law_956 (by omega) (by omega) h4 ?_
  refine G_qload_n hk dL_law_957 rfl ?_
  refine G_iload_n hk dL_law_958 rfl ?_
  refine G_iconst hk dL_law_959 ?_
  refine G_iadd hk dL_law_960 ?_
  refine G_sld hk hX (i + 2) dL_law_961 (by omega) (by omega) h4 ?_
  refine G_cV2P hk dL_law_962 mvX11_toll mlL_122 (by decide) rfl rfl (Nat.le_of_ble_eq_true rfl) (c_X11_toll _ Γ 8 _ _ _ (i32_rng _) (i32_rng _)) ?_
  refine G_ieqS (tgt := 1384) hk dL_law_965 (by decide) ?_
  exact kn _ hR hI
theorem lw_c26 {κ : Kx} {Γ : Ev} {b Ln i : Nat} {xs : Nat → Int32} {S : Sx} (hk : Ok κ Γ RL code 4 12) (hX : XK κ b Ln xs) (h4 : Ln ≤ 448) (hi : i + 7 ≤ Ln) (hR : CR S S) (hI : InvM S) (kn : ∀ S3 : Sx, CR S3 S3 → InvM S3 → GW κ Γ 1384 [some (.ref b), some (rf Γ 0), some (rf Γ 44), some (vI (i : Int))] [] (wl Γ S3)) : GW κ Γ 970 [some (.ref b), some (rf Γ 0), some (rf Γ 44), some (vI (i : Int))] [] (wl Γ S) := by
  refine G_rload_n hk dL_law_970 rfl ?_
  refine G_qload_n hk dL_law_971 rfl ?_
  refine G_iload_n hk dL_law_972 rfl ?_
  refine G_iconst hk dL_law_973 ?_
  refine G_iadd hk dL_law_974 ?_
  refine G_sld hk hX (i + 1) dL_law_975 (by omega) (by omega) h4 ?_
  refine G_qload_n hk dL_law_976 rfl ?_
  refine G_iload_n hk dL_law_977 rfl ?_
  refine G_iconst hk dL_law_978 ?_
  refine G_iadd hk dL_law_979 ?_
  refine G_sld hk hX (i + 2) dL_law_980 (by omega) (by omega) h4 ?_
  refine G_qload_n hk dL_law_981 rfl ?_
  refine G_iload_n hk dL_law_982 rfl ?_
  refine G_iconst hk dL_law_983 ?_
  refine G_iadd hk dL_law_984 ?_
  refine G_sld hk hX (i + 3) dL_law_985 (by omega) (by omega) h4 ?_
  refine G_qload_n hk dL_law_986 rfl ?_
  refine G_iload_n hk dL_law_987 rfl ?_
  refine G_iconst hk dL_law_988 ?_
  refine G_iadd hk dL_law_989 ?_
  refine G_sld hk hX (i + 4) dL_law_990 (by omega) (by omega) h4 ?_
  refine G_qload_n hk dL_law_991 rfl ?_
  refine G_iload_n hk dL_law_992 rfl ?_
  refine G_iconst hk dL_law_993 ?_
  refine G_iadd hk dL_law_994 ?_
  refine G_sld hk hX (i + 5) dL_law_995 (by omega) (by omega) h4 ?_
  refine G_qload_n hk dL_law_996 rfl ?_
  refine G_iload_n hk dL_law_997 rfl ?_
  refine G_bipush hk dL_law_998 (by decide) ?_
  refine G_iadd hk dL_law_1000 ?_
  refine G_sld hk hX (i + 6) dL_law_1001 (by omega) (by omega) h4 ?_
  refine G_cV6J hk dL_law_1002 mvX10_shots mlL_123 (by decide) rfl rfl (Nat.le_of_ble_eq_true rfl) (c_X10_shots _ Γ 6 _ (av S) _ hR.1 _ _ _ _ _ _ (i32_rng _) (i32_rng _) (i32_rng _) (i32_rng _) (i32_rng _) (i32_rng _)) (fun rx Sx hx => ?_)
  have hI2 := InvM_hi (frK_hi hx.2) hI
  have ea : av Sx = av S := av_hi (frK_hi hx.2)
  refine G_rload_n hk dL_law_1005 rfl ?_
  refine G_qload_n hk dL_law_1006 rfl ?_
  refine G_iload_n hk dL_law_1007 rfl ?_
  refine G_iconst hk dL_law_1008 ?_
  refine G_iadd hk dL_law_1009 ?_
  refine G_sld hk hX (i + 1) dL_law_1010 (by omega) (by omega) h4 ?_
  refine G_qload_n hk dL_law_1011 rfl ?_
  refine G_iload_n hk dL_law_1012 rfl ?_
  refine G_iconst hk dL_law_1013 ?_
  refine G_iadd hk dL_law_1014 ?_
  refine G_sld hk hX (i + 2) dL_law_1015 (by omega) (by omega) h4 ?_
  refine G_qload_n hk dL_law_1016 rfl ?_
  refine G_iload_n hk dL_law_1017 rfl ?_
  refine G_iconst hk dL_law_1018 ?_
  refine G_iadd hk dL_law_1019 ?_
  refine G_sld hk hX (i + 3) dL_law_1020 (by omega) (by omega) h4 ?_
  refine G_qload_n hk dL_law_1021 rfl ?_
  refine G_iload_n hk dL_law_1022 rfl ?_
  refine G_iconst hk dL_law_1023 ?_
  refine G_iadd hk dL_law_1024 ?_
  refine G_sld hk hX (i + 4) dL_law_1025 (by omega) (by omega) h4 ?_
  refine G_qload_n hk dL_law_1026 rfl ?_
  refine G_iload_n hk dL_law_1027 rfl ?_
  refine G_iconst hk dL_law_1028 ?_
  refine G_iadd hk dL_law_1029 ?_
  refine G_sld hk hX (i + 5) dL_law_1030 (by omega) (by omega) h4 ?_
  refine G_qload_n hk dL_law_1031 rfl ?_
  refine G_iload_n hk dL_law_1032 rfl ?_
  refine G_bipush hk dL_law_1033 (by decide) ?_
  refine G_iadd hk dL_law_1035 ?_
  refine G_sld hk hX (i + 6) dL_law_1036 (by omega) (by omega) h4 ?_
  refine G_cV6J hk dL_law_1037 mvX11_shots mlL_127 (by decide) rfl rfl (Nat.le_of_ble_eq_true rfl) (c_X11_shots _ Γ 3 _ hI2 _ _ _ _ _ _ (i32_rng _) (i32_rng _) (i32_rng _) (i32_rng _) (i32_rng _) (i32_rng _)) (fun rm Sm hm => ?_)
  have sa := step_a hR hI hx.2 hm.2
  rw [hx.1, hm.1, ea]
  refine G_lcmpS hk dL_law_1040 ?_
  refine G_if_eq (tgt := 1384) hk dL_law_1041 (by decide) (by decide) (fun _ => ?_) (fun h => absurd rfl h)
  exact kn _ sa.1 sa.2
theorem lw_c27 {κ : Kx} {Γ : Ev} {b Ln i : Nat} {xs : Nat → Int32} {S : Sx} (hk : Ok κ Γ RL code 4 12) (hX : XK κ b Ln xs) (h4 : Ln ≤ 448) (hi : i + 7 ≤ Ln) (hR : CR S S) (hI : InvM S) (kn : ∀ S3 : Sx, CR S3 S3 → InvM S3 → GW κ Γ 1384 [some (.ref b), some (rf Γ 0), some (rf Γ 44), some (vI (i : Int))] [] (wl Γ S3)) : GW κ Γ 1046 [some (.ref b), some (rf Γ 0), some (rf Γ 44), some (vI (i : Int))] [] (wl Γ S) := by
  refine G_rload_n hk dL_law_1046 rfl ?_
  refine G_qload_n hk dL_law_1047 rfl ?_
  refine G_iload_n hk dL_law_1048 rfl ?_
  refine G_iconst hk dL_law_1049 ?_
  refine G_iadd hk dL_law_1050 ?_
  refine G_sld hk hX (i + 1) dL_law_1051 (by omega) (by omega) h4 ?_
  refine G_qload_n hk dL_law_1052 rfl ?_
  refine G_iload_n hk dL_law_1053 rfl ?_
  refine G_iconst hk dL_law_1054 ?_
  refine G_iadd hk dL_law_1055 ?_
  refine G_sld hk hX (i + 2) dL_law_1056 (by omega) (by omega) h4 ?_
  refine G_qload_n hk dL_law_1057 rfl ?_
  refine G_iload_n hk dL_law_1058 rfl ?_
  refine G_iconst hk dL_law_1059 ?_
  refine G_iadd hk dL_law_1060 ?_
  refine G_sld hk hX (i + 3) dL_law_1061 (by omega) (by omega) h4 ?_
  refine G_cV3I hk dL_law_1062 mvX10_plates mlL_128 (by decide) rfl rfl (Nat.le_of_ble_eq_true rfl) (c_X10_plates _ Γ 6 _ (av S) _ hR.1 _ _ _ (i32_rng _) (i32_rng _) (i32_rng _)) (fun rx Sx hx => ?_)
  have hI2 := InvM_hi (frK_hi hx.2) hI
  have ea : av Sx = av S := av_hi (frK_hi hx.2)
  refine G_rload_n hk dL_law_1065 rfl ?_
  refine G_qload_n hk dL_law_1066 rfl ?_
  refine G_iload_n hk dL_law_1067 rfl ?_
  refine G_iconst hk dL_law_1068 ?_
  refine G_iadd hk dL_law_1069 ?_
  refine G_sld hk hX (i + 1) dL_law_1070 (by omega) (by omega) h4 ?_
  refine G_qload_n hk dL_law_1071 rfl ?_
  refine G_iload_n hk dL_law_1072 rfl ?_
  refine G_iconst hk dL_law_1073 ?_
  refine G_iadd hk dL_law_1074 ?_
  refine G_sld hk hX (i + 2) dL_law_1075 (by omega) (by omega) h4 ?_
  refine G_qload_n hk dL_law_1076 rfl ?_
  refine G_iload_n hk dL_law_1077 rfl ?_
  refine G_iconst hk dL_law_1078 ?_
  refine G_iadd hk dL_law_1079 ?_
  refine G_sld hk hX (i + 3) dL_law_1080 (by omega) (by omega) h4 ?_
  refine G_cV3I hk dL_law_1081 mvX11_plates mlL_131 (by decide) rfl rfl (Nat.le_of_ble_eq_true rfl) (c_X11_plates _ Γ 3 _ hI2 _ _ _ (i32_rng _) (i32_rng _) (i32_rng _)) (fun rm Sm hm => ?_)
  have sa := step_a hR hI hx.2 hm.2
  rw [hx.1, hm.1, ea]
  refine G_ieqS (tgt := 1384) hk dL_law_1084 (by decide) ?_
  exact kn _ sa.1 sa.2
theorem lw_c28 {κ : Kx} {Γ : Ev} {b Ln i : Nat} {xs : Nat → Int32} {S : Sx} (hk : Ok κ Γ RL code 4 12) (hX : XK κ b Ln xs) (h4 : Ln ≤ 448) (hi : i + 7 ≤ Ln) (hR : CR S S) (hI : InvM S) (kn : ∀ S3 : Sx, CR S3 S3 → InvM S3 → GW κ Γ 1384 [some (.ref b), some (rf Γ 0), some (rf Γ 44), some (vI (i : Int))] [] (wl Γ S3)) : GW κ Γ 1089 [some (.ref b), some (rf Γ 0), some (rf Γ 44), some (vI (i : Int))] [] (wl Γ S) := by
  refine G_rload_n hk dL_law_1089 rfl ?_
  refine G_qload_n hk dL_law_1090 rfl ?_
  refine G_iload_n hk dL_law_1091 rfl ?_
  refine G_iconst hk dL_law_1092 ?_
  refine G_iadd hk dL_law_1093 ?_
  refine G_sld hk hX (i + 1) dL_law_1094 (by omega) (by omega) h4 ?_
  refine G_qload_n hk dL_law_1095 rfl ?_
  refine G_iload_n hk dL_law_1096 rfl ?_
  refine G_iconst hk dL_law_1097 ?_
  refine G_iadd hk dL_law_1098 ?_
  refine G_sld hk hX (i + 2) dL_law_1099 (by omega) (by omega) h4 ?_
  refine G_qload_n hk dL_law_1100 rfl ?_
  refine G_iload_n hk dL_law_1101 rfl ?_
  refine G_iconst hk dL_law_1102 ?_
  refine G_iadd hk dL_law_1103 ?_
  refine G_sld hk hX (i + 3) dL_law_1104 (by omega) (by omega) h4 ?_
  refine G_cV3I hk dL_law_1105 mvX10_sheet mlL_132 (by decide) rfl rfl (Nat.le_of_ble_eq_true rfl) (c_X10_sheet _ Γ 9 _ hR hI _ _ _ (i32_rng _) (i32_rng _) (i32_rng _)) (fun rx Sx hx => ?_)
  have hI2 := InvM_hi hx.2.2 hI
  refine G_rload_n hk dL_law_1108 rfl ?_
  refine G_qload_n hk dL_law_1109 rfl ?_
  refine G_iload_n hk dL_law_1110 rfl ?_
  refine G_iconst hk dL_law_1111 ?_
  refine G_iadd hk dL_law_1112 ?_
  refine G_sld hk hX (i + 1) dL_law_1113 (by omega) (by omega) h4 ?_
  refine G_qload_n hk dL_law_1114 rfl ?_
  refine G_iload_n hk dL_law_1115 rfl ?_
  refine G_iconst hk dL_law_1116 ?_
  refine G_iadd hk dL_law_1117 ?_
  refine G_sld hk hX (i + 2) dL_law_1118 (by omega) (by omega) h4 ?_
  refine G_qload_n hk dL_law_1119 rfl ?_
  refine G_iload_n hk dL_law_1120 rfl ?_
  refine G_iconst hk dL_law_1121 ?_
  refine G_iadd hk dL_law_1122 ?_
  refine G_sld hk hX (i + 3) dL_law_1123 (by omega) (by omega) h4 ?_
  refine G_cV3I hk dL_law_1124 mvX11_sheet mlL_135 (by decide) rfl rfl (Nat.le_of_ble_eq_true rfl) (c_X11_sheet _ Γ 9 _ _ _ _ (i32_rng _) (i32_rng _) (i32_rng _)) (fun rm Sm hm => ?_)
  obtain ⟨e1, e2, e3⟩ := step_q (q := (fun S => q_sheet S ((xs (i + 1)).toInt) ((xs (i + 2)).toInt) ((xs (i + 3)).toInt))) (loc_sheet ((xs (i + 1)).toInt) ((xs (i + 2)).toInt) ((xs (i + 3)).toInt)) hx hm (inv_sheet hI ((xs (i + 1)).toInt) ((xs (i + 2)).toInt) ((xs (i + 3)).toInt))
  rw [e1]
  refine G_ieqS (tgt := 1384) hk dL_law_1127 (by decide) ?_
  exact kn _ e2 e3
theorem lw_c29 {κ : Kx} {Γ : Ev} {b Ln i : Nat} {xs : Nat → Int32} {S : Sx} (hk : Ok κ Γ RL code 4 12) (hX : XK κ b Ln xs) (h4 : Ln ≤ 448) (hi : i + 7 ≤ Ln) (hR : CR S S) (hI : InvM S) (kn : ∀ S3 : Sx, CR S3 S3 → InvM S3 → GW κ Γ 1384 [some (.ref b), some (rf Γ 0), some (rf Γ 44), some (vI (i : Int))] [] (wl Γ S3)) : GW κ Γ 1132 [some (.ref b), some (rf Γ 0), some (rf Γ 44), some (vI (i : Int))] [] (wl Γ S) := by
  refine G_rload_n hk dL_law_1132 rfl ?_
  refine G_qload_n hk dL_law_1133 rfl ?_
  refine G_iload_n hk dL_law_1134 rfl ?_
  refine G_iconst hk dL_law_1135 ?_
  refine G_iadd hk dL_law_1136 ?_
  refine G_sld hk hX (i + 1) dL_law_1137 (by omega) (by omega) h4 ?_
  refine G_cV1I hk dL_law_1138 mvX10_lose mlL_136 (by decide) rfl rfl (Nat.le_of_ble_eq_true rfl) (c_X10_lose _ Γ 9 _ hR hI _ (i32_rng _)) (fun rx Sx hx => ?_)
  have hI2 := InvM_hi hx.2.2 hI
  refine G_rload_n hk dL_law_1141 rfl ?_
  refine G_qload_n hk dL_law_1142 rfl ?_
  refine G_iload_n hk dL_law_1143 rfl ?_
  refine G_iconst hk dL_law_1144 ?_
  refine G_iadd hk dL_law_1145 ?_
  refine G_sld hk hX (i + 1) dL_law_1146 (by omega) (by omega) h4 ?_
  refine G_cV1I hk dL_law_1147 mvX11_lose mlL_139 (by decide) rfl rfl (Nat.le_of_ble_eq_true rfl) (c_X11_lose _ Γ 9 _ _ (i32_rng _) hI2.2.2.1.1 hI2.2.2.1.2.1) (fun rm Sm hm => ?_)
  obtain ⟨e1, e2, e3⟩ := step_q (q := (fun S => q_lose S ((xs (i + 1)).toInt))) (loc_lose ((xs (i + 1)).toInt)) hx hm (inv_lose hI ((xs (i + 1)).toInt))
  rw [e1]
  refine G_ieqS (tgt := 1384) hk dL_law_1150 (by decide) ?_
  exact kn _ e2 e3
theorem lw_c30 {κ : Kx} {Γ : Ev} {b Ln i : Nat} {xs : Nat → Int32} {S : Sx} (hk : Ok κ Γ RL code 4 12) (hX : XK κ b Ln xs) (h4 : Ln ≤ 448) (hi : i + 7 ≤ Ln) (hR : CR S S) (hI : InvM S) (kn : ∀ S3 : Sx, CR S3 S3 → InvM S3 → GW κ Γ 1384 [some (.ref b), some (rf Γ 0), some (rf Γ 44), some (vI (i : Int))] [] (wl Γ S3)) : GW κ Γ 1155 [some (.ref b), some (rf Γ 0), some (rf Γ 44), some (vI (i : Int))] [] (wl Γ S) := by
  refine G_rload_n hk dL_law_1155 rfl ?_
  refine G_qload_n hk dL_law_1156 rfl ?_
  refine G_iload_n hk dL_law_1157 rfl ?_
  refine G_iconst hk dL_law_1158 ?_
  refine G_iadd hk dL_law_1159 ?_
  refine G_sld hk hX (i + 1) dL_law_1160 (by omega) (by omega) h4 ?_
  refine G_qload_n hk dL_law_1161 rfl ?_
  refine G_iload_n hk dL_law_1162 rfl ?_
  refine G_iconst hk dL_law_1163 ?_
  refine G_iadd hk dL_law_1164 ?_
  refine G_sld hk hX (i + 2) dL_law_1165 (by omega) (by omega) h4 ?_
  refine G_qload_n hk dL_law_1166 rfl ?_
  refine G_iload_n hk dL_law_1167 rfl ?_
  refine G_iconst hk dL_law_1168 ?_
  refine G_iadd hk dL_law_1169 ?_
  refine G_sld hk hX (i + 3) dL_law_1170 (by omega) (by omega) h4 ?_
  refine G_qload_n hk dL_law_1171 rfl ?_
  refine G_iload_n hk dL_law_1172 rfl ?_
  refine G_iconst hk dL_law_1173 ?_
  refine G_iadd hk dL_law_1174 ?_
  refine G_sld hk hX (i + 4) dL_law_1175 (by omega) (by omega) h4 ?_
  refine G_cV4I hk dL_law_1176 mvX10_lay mlL_140 (by decide) rfl rfl (Nat.le_of_ble_eq_true rfl) (c_X10_lay _ Γ 9 _ hR hI _ _ _ _ (i32_rng _) (i32_rng _) (i32_rng _) (i32_rng _)) (fun rx Sx hx => ?_)
  have hI2 := InvM_hi hx.2.2 hI
  refine G_rload_n hk dL_law_1179 rfl ?_
  refine G_qload_n hk dL_law_1180 rfl ?_
  refine G_iload_n hk dL_law_1181 rfl ?_
  refine G_iconst hk dL_law_1182 ?_
  refine G_iadd hk dL_law_1183 ?_
  refine G_sld hk hX (i + 1) dL_law_1184 (by omega) (by omega) h4 ?_
  refine G_qload_n hk dL_law_1185 rfl ?_
  refine G_iload_n hk dL_law_1186 rfl ?_
  refine G_iconst hk dL_law_1187 ?_
  refine G_iadd hk dL_law_1188 ?_
  refine G_sld hk hX (i + 2) dL_law_1189 (by omega) (by omega) h4 ?_
  refine G_qload_n hk dL_law_1190 rfl ?_
  refine G_iload_n hk dL_law_1191 rfl ?_
  refine G_iconst hk dL_law_1192 ?_
  refine G_iadd hk dL_law_1193 ?_
  refine G_sld hk hX (i + 3) dL_law_1194 (by omega) (by omega) h4 ?_
  refine G_qload_n hk dL_law_1195 rfl ?_
  refine G_iload_n hk dL_law_1196 rfl ?_
  refine G_iconst hk dL_law_1197 ?_
  refine G_iadd hk dL_law_1198 ?_
  refine G_sld hk hX (i + 4) dL_law_1199 (by omega) (by omega) h4 ?_
  refine G_cV4I hk dL_law_1200 mvX11_lay mlL_143 (by decide) rfl rfl (Nat.le_of_ble_eq_true rfl) (c_X11_lay _ Γ 9 _ _ _ _ _ (i32_rng _) (i32_rng _) (i32_rng _) (i32_rng _) hI2.2.2.1.1 hI2.2.2.1.2.1) (fun rm Sm hm => ?_)
  obtain ⟨e1, e2, e3⟩ := step_q (q := (fun S => q_lay S ((xs (i + 1)).toInt) ((xs (i + 2)).toInt) ((xs (i + 3)).toInt) ((xs (i + 4)).toInt))) (loc_lay ((xs (i + 1)).toInt) ((xs (i + 2)).toInt) ((xs (i + 3)).toInt) ((xs (i + 4)).toInt)) hx hm (inv_lay hI ((xs (i + 1)).toInt) ((xs (i + 2)).toInt) ((xs (i + 3)).toInt) ((xs (i + 4)).toInt) (i32_rng _))
  rw [e1]
  refine G_ieqS (tgt := 1384) hk dL_law_1203 (by decide) ?_
  exact kn _ e2 e3
theorem lw_c31 {κ : Kx} {Γ : Ev} {b Ln i : Nat} {xs : Nat → Int32} {S : Sx} (hk : Ok κ Γ RL code 4 12) (hX : XK κ b Ln xs) (h4 : Ln ≤ 448) (hi : i + 7 ≤ Ln) (hR : CR S S) (hI : InvM S) (kn : ∀ S3 : Sx, CR S3 S3 → InvM S3 → GW κ Γ 1384 [some (.ref b), some (rf Γ 0), some (rf Γ 44), some (vI (i : Int))] [] (wl Γ S3)) : GW κ Γ 1208 [some (.ref b), some (rf Γ 0), some (rf Γ 44), some (vI (i : Int))] [] (wl Γ S) := by
  refine G_rload_n hk dL_law_1208 rfl ?_
  refine G_qload_n hk dL_law_1209 rfl ?_
  refine G_iload_n hk dL_law_1210 rfl ?_
  refine G_iconst hk dL_law_1211 ?_
  refine G_iadd hk dL_law_1212 ?_
  refine G_sld hk hX (i + 1) dL_law_1213 (by omega) (by omega) h4 ?_
  refine G_qload_n hk dL_law_1214 rfl ?_
  refine G_iload_n hk dL_law_1215 rfl ?_
  refine G_iconst hk dL_law_1216 ?_
  refine G_iadd hk dL_law_1217 ?_
  refine G_sld hk hX (i + 2) dL_law_1218 (by omega) (by omega) h4 ?_
  refine G_qload_n hk dL_law_1219 rfl ?_
  refine G_iload_n hk dL_law_1220 rfl ?_
  refine G_iconst hk dL_law_1221 ?_
  refine G_iadd hk dL_law_1222 ?_
  refine G_sld hk hX (i + 3) dL_law_1223 (by omega) (by omega) h4 ?_
  refine G_cV3I hk dL_law_1224 mvX10_get mlL_144 (by decide) rfl rfl (Nat.le_of_ble_eq_true rfl) (c_X10_get _ Γ 9 _ hR hI _ _ _ (i32_rng _) (i32_rng _) (i32_rng _)) (fun rx Sx hx => ?_)
  have hI2 := InvM_hi hx.2.2 hI
  refine G_rload_n hk dL_law_1227 rfl ?_
  refine G_qload_n hk dL_law_1228 rfl ?_
  refine G_iload_n hk dL_law_1229 rfl ?_
  refine G_iconst hk dL_law_1230 ?_
  refine G_iadd hk dL_law_1231 ?_
  refine G_sld hk hX (i + 1) dL_law_1232 (by omega) (by omega) h4 ?_
  refine G_qload_n hk dL_law_1233 rfl ?_
  refine G_iload_n hk dL_law_1234 rfl ?_
  refine G_iconst hk dL_law_1235 ?_
  refine G_iadd hk dL_law_1236 ?_
  refine G_sld hk hX (i + 2) dL_law_1237 (by omega) (by omega) h4 ?_
  refine G_qload_n hk dL_law_1238 rfl ?_
  refine G_iload_n hk dL_law_1239 rfl ?_
  refine G_iconst hk dL_law_1240 ?_
  refine G_iadd hk dL_law_1241 ?_
  refine G_sld hk hX (i + 3) dL_law_1242 (by omega) (by omega) h4 ?_
  refine G_cV3I hk dL_law_1243 mvX11_get mlL_147 (by decide) rfl rfl (Nat.le_of_ble_eq_true rfl) (c_X11_get _ Γ 9 _ _ _ _ (i32_rng _) (i32_rng _) (i32_rng _) hI2.2.2.1.1 hI2.2.2.1.2.1) (fun rm Sm hm => ?_)
  obtain ⟨e1, e2, e3⟩ := step_q (q := (fun S => q_get S ((xs (i + 1)).toInt) ((xs (i + 2)).toInt) ((xs (i + 3)).toInt))) (loc_get ((xs (i + 1)).toInt) ((xs (i + 2)).toInt) ((xs (i + 3)).toInt)) hx hm (inv_get hI ((xs (i + 1)).toInt) ((xs (i + 2)).toInt) ((xs (i + 3)).toInt))
  rw [e1]
  refine G_ieqS (tgt := 1384) hk dL_law_1246 (by decide) ?_
  exact kn _ e2 e3
theorem lw_c32 {κ : Kx} {Γ : Ev} {b Ln i : Nat} {xs : Nat → Int32} {S : Sx} (hk : Ok κ Γ RL code 4 12) (hX : XK κ b Ln xs) (h4 : Ln ≤ 448) (hi : i + 7 ≤ Ln) (hR : CR S S) (hI : InvM S) (kn : ∀ S3 : Sx, CR S3 S3 → InvM S3 → GW κ Γ 1384 [some (.ref b), some (rf Γ 0), some (rf Γ 44), some (vI (i : Int))] [] (wl Γ S3)) : GW κ Γ 1251 [some (.ref b), some (rf Γ 0), some (rf Γ 44), some (vI (i : Int))] [] (wl Γ S) := by
  refine G_rload_n hk dL_law_1251 rfl ?_
  refine G_qload_n hk dL_law_1252 rfl ?_
  refine G_iload_n hk dL_law_1253 rfl ?_
  refine G_iconst hk dL_law_1254 ?_
  refine G_iadd hk dL_law_1255 ?_
  refine G_sld hk hX (i + 1) dL_law_1256 (by omega) (by omega) h4 ?_
  refine G_qload_n hk dL_law_1257 rfl ?_
  refine G_iload_n hk dL_law_1258 rfl ?_
  refine G_iconst hk dL_law_1259 ?_
  refine G_iadd hk dL_law_1260 ?_
  refine G_sld hk hX (i + 2) dL_law_1261 (by omega) (by omega) h4 ?_
  refine G_qload_n hk dL_law_1262 rfl ?_
  refine G_iload_n hk dL_law_1263 rfl ?_
  refine G_iconst hk dL_law_1264 ?_
  refine G_iadd hk dL_law_1265 ?_
  refine G_sld hk hX (i + 3) dL_law_1266 (by omega) (by omega) h4 ?_
  refine G_qload_n hk dL_law_1267 rfl ?_
  refine G_iload_n hk dL_law_1268 rfl ?_
  refine G_iconst hk dL_law_1269 ?_
  refine G_iadd hk dL_law_1270 ?_
  refine G_sld hk hX (i + 4) dL_law_1271 (by omega) (by omega) h4 ?_
  refine G_qload_n hk dL_law_1272 rfl ?_
  refine G_iload_n hk dL_law_1273 rfl ?_
  refine G_iconst hk dL_law_1274 ?_
  refine G_iadd hk dL_law_1275 ?_
  refine G_sld hk hX (i + 5) dL_law_1276 (by omega) (by omega) h4 ?_
  refine G_cV5I hk dL_law_1277 mvX10_copy mlL_148 (by decide) rfl rfl (Nat.le_of_ble_eq_true rfl) (c_X10_copy _ Γ 9 _ hR hI _ _ _ _ _ (i32_rng _) (i32_rng _) (i32_rng _) (i32_rng _) (i32_rng _)) (fun rx Sx hx => ?_)
  have hI2 := InvM_hi hx.2.2 hI
  refine G_rload_n hk dL_law_1280 rfl ?_
  refine G_qload_n hk dL_law_1281 rfl ?_
  refine G_iload_n hk dL_law_1282 rfl ?_
  refine G_iconst hk dL_law_1283 ?_
  refine G_iadd hk dL_law_1284 ?_
  refine G_sld hk hX (i + 1) dL_law_1285 (by omega) (by omega) h4 ?_
  refine G_qload_n hk dL_law_1286 rfl ?_
  refine G_iload_n hk dL_law_1287 rfl ?_
  refine G_iconst hk dL_law_1288 ?_
  refine G_iadd hk dL_law_1289 ?_
  refine G_sld hk hX (i + 2) dL_law_1290 (by omega) (by omega) h4 ?_
  refine G_qload_n hk dL_law_1291 rfl ?_
  refine G_iload_n hk dL_law_1292 rfl ?_
  refine G_iconst hk dL_law_1293 ?_
  refine G_iadd hk dL_law_1294 ?_
  refine G_sld hk hX (i + 3) dL_law_1295 (by omega) (by omega) h4 ?_
  refine G_qload_n hk dL_law_1296 rfl ?_
  refine G_iload_n hk dL_law_1297 rfl ?_
  refine G_iconst hk dL_law_1298 ?_
  refine G_iadd hk dL_law_1299 ?_
  refine G_sld hk hX (i + 4) dL_law_1300 (by omega) (by omega) h4 ?_
  refine G_qload_n hk dL_law_1301 rfl ?_
  refine G_iload_n hk dL_law_1302 rfl ?_
  refine G_iconst hk dL_law_1303 ?_
  refine G_iadd hk dL_law_1304 ?_
  refine G_sld hk hX (i + 5) dL_law_1305 (by omega) (by omega) h4 ?_
  refine G_cV5I hk dL_law_1306 mvX11_copy mlL_151 (by decide) rfl rfl (Nat.le_of_ble_eq_true rfl) (c_X11_copy _ Γ 9 _ _ _ _ _ _ (i32_rng _) (i32_rng _) (i32_rng _) (i32_rng _) (i32_rng _) hI2.2.2.1.1 hI2.2.2.1.2.1) (fun rm Sm hm => ?_)
  obtain ⟨e1, e2, e3⟩ := step_q (q := (fun S => q_copy S ((xs (i + 1)).toInt) ((xs (i + 2)).toInt) ((xs (i + 3)).toInt) ((xs (i + 4)).toInt) ((xs (i + 5)).toInt))) (loc_copy ((xs (i + 1)).toInt) ((xs (i + 2)).toInt) ((xs (i + 3)).toInt) ((xs (i + 4)).toInt) ((xs (i + 5)).toInt)) hx hm (inv_copy hI ((xs (i + 1)).toInt) ((xs (i + 2)).toInt) ((xs (i + 3)).toInt) ((xs (i + 4)).toInt) ((xs (i + 5)).toInt))
  rw [e1]
  refine G_ieqS (tgt := 1384) hk dL_law_1309 (by decide) ?_
  exact kn _ e2 e3
theorem lw_c33 {κ : Kx} {Γ : Ev} {b Ln i : Nat} {xs : Nat → Int32} {S : Sx} (hk : Ok κ Γ RL code 4 12) (hX : XK κ b Ln xs) (h4 : Ln ≤ 448) (hi : i + 7 ≤ Ln) (hR : CR S S) (hI : InvM S) (kn : ∀ S3 : Sx, CR S3 S3 → InvM S3 → GW κ Γ 1384 [some (.ref b), some (rf Γ 0), some (rf Γ 44), some (vI (i : Int))] [] (wl Γ S3)) : GW κ Γ 1314 [some (.ref b), some (rf Γ 0), some (rf Γ 44), some (vI (i : Int))] [] (wl Γ S) := by
  refine G_rload_n hk dL_law_1314 rfl ?_
  refine G_qload_n hk dL_law_1315 rfl ?_
  refine G_iload_n hk dL_law_1316 rfl ?_
  refine G_iconst hk dL_law_1317 ?_
  refine G_iadd hk dL_law_1318 ?_
  refine G_sld hk hX (i + 1) dL_law_1319 (by omega) (by omega) h4 ?_
  refine G_qload_n hk dL_law_1320 rfl ?_
  refine G_iload_n hk dL_law_1321 rfl ?_
  refine G_iconst hk dL_law_1322 ?_
  refine G_iadd hk dL_law_1323 ?_
  refine G_sld hk hX (i + 2) dL_law_1324 (by omega) (by omega) h4 ?_
  refine G_cV2I hk dL_law_1325 mvX10_write mlL_152 (by decide) rfl rfl (Nat.le_of_ble_eq_true rfl) (c_X10_write _ Γ 6 _ hR hI _ _ (i32_rng _) (i32_rng _)) (fun rx Sx hx => ?_)
  have hI2 := InvM_hi hx.2.2 hI
  refine G_rload_n hk dL_law_1328 rfl ?_
  refine G_qload_n hk dL_law_1329 rfl ?_
  refine G_iload_n hk dL_law_1330 rfl ?_
  refine G_iconst hk dL_law_1331 ?_
  refine G_iadd hk dL_law_1332 ?_
  refine G_sld hk hX (i + 1) dL_law_1333 (by omega) (by omega) h4 ?_
  refine G_qload_n hk dL_law_1334 rfl ?_
  refine G_iload_n hk dL_law_1335 rfl ?_
  refine G_iconst hk dL_law_1336 ?_
  refine G_iadd hk dL_law_1337 ?_
  refine G_sld hk hX (i + 2) dL_law_1338 (by omega) (by omega) h4 ?_
  refine G_cV2I hk dL_law_1339 mvX11_write mlL_155 (by decide) rfl rfl (Nat.le_of_ble_eq_true rfl) (c_X11_write _ Γ 4 _ hI2 _ _ (i32_rng _) (i32_rng _)) (fun rm Sm hm => ?_)
  obtain ⟨e1, e2, e3⟩ := step_w hx hm hI
  rw [e1]
  refine G_ieqS (tgt := 1384) hk dL_law_1342 (by decide) ?_
  exact kn _ e2 e3
theorem lw_c34 {κ : Kx} {Γ : Ev} {b Ln i : Nat} {xs : Nat → Int32} {S : Sx} (hk : Ok κ Γ RL code 4 12) (hX : XK κ b Ln xs) (h4 : Ln ≤ 448) (hi : i + 7 ≤ Ln) (hR : CR S S) (hI : InvM S) (kn : ∀ S3 : Sx, CR S3 S3 → InvM S3 → GW κ Γ 1384 [some (.ref b), some (rf Γ 0), some (rf Γ 44), some (vI (i : Int))] [] (wl Γ S3)) : GW κ Γ 1347 [some (.ref b), some (rf Γ 0), some (rf Γ 44), some (vI (i : Int))] [] (wl Γ S) := by
  refine G_rload_n hk dL_law_1347 rfl ?_
  refine G_qload_n hk dL_law_1348 rfl ?_
  refine G_iload_n hk dL_law_1349 rfl ?_
  refine G_iconst hk dL_law_1350 ?_
  refine G_iadd hk dL_law_1351 ?_
  refine G_sld hk hX (i + 1) dL_law_1352 (by omega) (by omega) h4 ?_
  refine G_cV1P hk dL_law_1353 mvX10_count mlL_156 (by decide) rfl rfl (Nat.le_of_ble_eq_true rfl) (c_X10_count _ Γ 9 _ (av S) _ hR.1 _ (i32_rng _)) ?_
  refine G_rload_n hk dL_law_1356 rfl ?_
  refine G_qload_n hk dL_law_1357 rfl ?_
  refine G_iload_n hk dL_law_1358 rfl ?_
  refine G_iconst hk dL_law_1359 ?_
  refine G_iadd hk dL_law_1360 ?_
  refine G_sld hk hX (i + 1) dL_law_1361 (by omega) (by omega) h4 ?_
  refine G_cV1I hk dL_law_1362 mvX11_count mlL_159 (by decide) rfl rfl (Nat.le_of_ble_eq_true rfl) (c_X11_count _ Γ 8 _ hI _ (i32_rng _)) (fun rm Sm hm => ?_)
  have sa := step_a hR hI (frK_0 S) hm.2
  rw [hm.1]
  refine G_ieqS (tgt := 1384) hk dL_law_1365 (by decide) ?_
  exact kn _ sa.1 sa.2
theorem lw_c35 {κ : Kx} {Γ : Ev} {b Ln i : Nat} {xs : Nat → Int32} {S : Sx} (hk : Ok κ Γ RL code 4 12) (hX : XK κ b Ln xs) (h4 : Ln ≤ 448) (hi : i + 7 ≤ Ln) (hR : CR S S) (hI : InvM S) (kn : ∀ S3 : Sx, CR S3 S3 → InvM S3 → GW κ Γ 1384 [some (.ref b), some (rf Γ 0), some (rf Γ 44), some (vI (i : Int))] [] (wl Γ S3)) : GW κ Γ 1370 [some (.ref b), some (rf Γ 0), some (rf Γ 44), some (vI (i : Int))] [] (wl Γ S) := by
  refine G_rload_n hk dL_law_1370 rfl ?_
  refine G_cV0J hk dL_law_1371 mvX10_digest mlL_160 (by decide) rfl rfl (Nat.le_of_ble_eq_true rfl) (c_X10_digest _ Γ 4 _ (av S) _ hR.1 (by have h9 := hI.2.2.1.2.2.2; exact ⟨by omega, by omega⟩)) (fun rx Sx hx => ?_)
  have hI2 := InvM_hi (frK_hi hx.2) hI
  have ea : av Sx = av S := av_hi (frK_hi hx.2)
  refine G_rload_n hk dL_law_1374 rfl ?_
  refine G_cV0J hk dL_law_1375 mvX11_digest mlL_164 (by decide) rfl rfl (Nat.le_of_ble_eq_true rfl) (c_X11_digest _ Γ 1 _ hI2) (fun rm Sm hm => ?_)
  have sa := step_a hR hI hx.2 hm.2
  have e4 : Sx 44 4 = S 44 4 := by rw [frK_hi hx.2 44 (by decide)]
  rw [hx.1, hm.1, ea, e4]
  refine G_lcmpS hk dL_law_1378 ?_
  refine G_if_eq (tgt := 1384) hk dL_law_1379 (by decide) (by decide) (fun _ => ?_) (fun h => absurd rfl h)
  exact kn _ sa.1 sa.2
theorem law_loop {κ : Kx} {Γ : Ev} {b Ln : Nat} {xs : Nat → Int32} (hk : Ok κ Γ RL code 4 12) (hX : XK κ b Ln xs) (h4 : Ln ≤ 448) (he : ∀ (L : List (Option Value)) (S : Sx), GW κ Γ 1390 L [] (wl Γ S)) : ∀ (f i : Nat) (S : Sx), Ln ≤ i + f → i ≤ Ln → CR S S → InvM S → GW κ Γ 18 [some (.ref b), some (rf Γ 0), some (rf Γ 44), some (vI (i : Int))] [] (wl Γ S) := by
  intro f
  induction f with
  | zero =>
    intro i S h1 h2 hR hI
    refine G_iload_n hk dL_law_18 rfl ?_
    refine G_qload_n hk dL_law_19 rfl ?_
    refine G_slen hk hX dL_law_20 ?_
    refine G_bipush hk dL_law_21 (by decide) ?_
    refine G_isub hk dL_law_23 ?_
    refine G_icmp_gt (tgt := 1390) hk dL_law_24 (by decide) ⟨by omega, by omega⟩ ⟨by omega, by omega⟩ (fun h_24 => ?_) (fun h_24 => ?_)
    · exact he _ S
    · exact absurd h_24 (by omega)
  | succ f ih =>
    intro i S h1 h2 hR hI
    refine G_iload_n hk dL_law_18 rfl ?_
    refine G_qload_n hk dL_law_19 rfl ?_
    refine G_slen hk hX dL_law_20 ?_
    refine G_bipush hk dL_law_21 (by decide) ?_
    refine G_isub hk dL_law_23 ?_
    refine G_icmp_gt (tgt := 1390) hk dL_law_24 (by decide) ⟨by omega, by omega⟩ ⟨by omega, by omega⟩ (fun h_24 => ?_) (fun h_24 => ?_)
    · exact he _ S
    refine G_qload_n hk dL_law_27 rfl ?_
    refine G_iload_n hk dL_law_28 rfl ?_
    refine G_sld hk hX i dL_law_29 rfl (by omega) h4 ?_
    refine G_bipush hk dL_law_30 (by decide) ?_
    refine G_iand hk dL_law_32 ?_
    have kn : ∀ S3 : Sx, CR S3 S3 → InvM S3 → GW κ Γ 1384 [some (.ref b), some (rf Γ 0), some (rf Γ 44), some (vI (i : Int))] [] (wl Γ S3) := by
      intro S3 hR3 hI3
      refine G_iinc hk dL_law_1384 rfl (by decide) rfl ?_
      refine G_goto (tgt := 18) hk dL_law_1387 (by decide) ?_
      have h9 := ih (i + 7) S3 (by omega) (by omega) hR3 hI3
      rw [show ((i + 7 : Nat) : Int) = (i : Int) + 7 by omega] at h9
      exact h9
    have hz := zand_r (xs i).toInt 63
    generalize zand (xs i).toInt 63 = z at hz ⊢
    by_cases hr9 : z < 0 ∨ 35 < z
    · refine G_tabOut (tgt := 1384) hk dL_law_33 hz hr9 (by decide) ?_
      exact kn S hR hI
    have hz9 : z = 0 ∨ z = 1 ∨ z = 2 ∨ z = 3 ∨ z = 4 ∨ z = 5 ∨ z = 6 ∨ z = 7 ∨ z = 8 ∨ z = 9 ∨ z = 10 ∨ z = 11 ∨ z = 12 ∨ z = 13 ∨ z = 14 ∨ z = 15 ∨ z = 16 ∨ z = 17 ∨ z = 18 ∨ z = 19 ∨ z = 20 ∨ z = 21 ∨ z = 22 ∨ z = 23 ∨ z = 24 ∨ z = 25 ∨ z = 26 ∨ z = 27 ∨ z = 28 ∨ z = 29 ∨ z = 30 ∨ z = 31 ∨ z = 32 ∨ z = 33 ∨ z = 34 ∨ z = 35 := by omega
    rcases hz9 with rfl | rfl | rfl | rfl | rfl | rfl | rfl | rfl | rfl | rfl | rfl | rfl | rfl | rfl | rfl | rfl | rfl | rfl | rfl | rfl | rfl | rfl | rfl | rfl | rfl | rfl | rfl | rfl | rfl | rfl | rfl | rfl | rfl | rfl | rfl | rfl
    · refine G_tabIn (tgt := 192) hk dL_law_33 (by decide) (by decide) (by decide) rfl (by decide) ?_
      exact lw_c0 hk hX h4 (by omega) hR hI kn
    · refine G_tabIn (tgt := 215) hk dL_law_33 (by decide) (by decide) (by decide) rfl (by decide) ?_
      exact lw_c1 hk hX h4 (by omega) hR hI kn
    · refine G_tabIn (tgt := 228) hk dL_law_33 (by decide) (by decide) (by decide) rfl (by decide) ?_
      exact lw_c2 hk hX h4 (by omega) hR hI kn
    · refine G_tabIn (tgt := 241) hk dL_law_33 (by decide) (by decide) (by decide) rfl (by decide) ?_
      exact lw_c3 hk hX h4 (by omega) hR hI kn
    · refine G_tabIn (tgt := 254) hk dL_law_33 (by decide) (by decide) (by decide) rfl (by decide) ?_
      exact lw_c4 hk hX h4 (by omega) hR hI kn
    · refine G_tabIn (tgt := 287) hk dL_law_33 (by decide) (by decide) (by decide) rfl (by decide) ?_
      exact lw_c5 hk hX h4 (by omega) hR hI kn
    · refine G_tabIn (tgt := 340) hk dL_law_33 (by decide) (by decide) (by decide) rfl (by decide) ?_
      exact lw_c6 hk hX h4 (by omega) hR hI kn
    · refine G_tabIn (tgt := 373) hk dL_law_33 (by decide) (by decide) (by decide) rfl (by decide) ?_
      exact lw_c7 hk hX h4 (by omega) hR hI kn
    · refine G_tabIn (tgt := 396) hk dL_law_33 (by decide) (by decide) (by decide) rfl (by decide) ?_
      exact lw_c8 hk hX h4 (by omega) hR hI kn
    · refine G_tabIn (tgt := 419) hk dL_law_33 (by decide) (by decide) (by decide) rfl (by decide) ?_
      exact lw_c9 hk hX h4 (by omega) hR hI kn
    · refine G_tabIn (tgt := 452) hk dL_law_33 (by decide) (by decide) (by decide) rfl (by decide) ?_
      exact lw_c10 hk hX h4 (by omega) hR hI kn
    · refine G_tabIn (tgt := 485) hk dL_law_33 (by decide) (by decide) (by decide) rfl (by decide) ?_
      exact lw_c11 hk hX h4 (by omega) hR hI kn
    · refine G_tabIn (tgt := 518) hk dL_law_33 (by decide) (by decide) (by decide) rfl (by decide) ?_
      exact lw_c12 hk hX h4 (by omega) hR hI kn
    · refine G_tabIn (tgt := 551) hk dL_law_33 (by decide) (by decide) (by decide) rfl (by decide) ?_
      exact lw_c13 hk hX h4 (by omega) hR hI kn
    · refine G_tabIn (tgt := 584) hk dL_law_33 (by decide) (by decide) (by decide) rfl (by decide) ?_
      exact lw_c14 hk hX h4 (by omega) hR hI kn
    · refine G_tabIn (tgt := 607) hk dL_law_33 (by decide) (by decide) (by decide) rfl (by decide) ?_
      exact lw_c15 hk hX h4 (by omega) hR hI kn
    · refine G_tabIn (tgt := 670) hk dL_law_33 (by decide) (by decide) (by decide) rfl (by decide) ?_
      exact lw_c16 hk hX h4 (by omega) hR hI kn
    · refine G_tabIn (tgt := 703) hk dL_law_33 (by decide) (by decide) (by decide) rfl (by decide) ?_
      exact lw_c17 hk hX h4 (by omega) hR hI kn
    · refine G_tabIn (tgt := 746) hk dL_law_33 (by decide) (by decide) (by decide) rfl (by decide) ?_
      exact lw_c18 hk hX h4 (by omega) hR hI kn
    · refine G_tabIn (tgt := 779) hk dL_law_33 (by decide) (by decide) (by decide) rfl (by decide) ?_
      exact lw_c19 hk hX h4 (by omega) hR hI kn
    · refine G_tabIn (tgt := 822) hk dL_law_33 (by decide) (by decide) (by decide) rfl (by decide) ?_
      exact lw_c20 hk hX h4 (by omega) hR hI kn
    · refine G_tabIn (tgt := 835) hk dL_law_33 (by decide) (by decide) (by decide) rfl (by decide) ?_
      exact lw_c21 hk hX h4 (by omega) hR hI kn
    · refine G_tabIn (tgt := 858) hk dL_law_33 (by decide) (by decide) (by decide) rfl (by decide) ?_
      exact lw_c22 hk hX h4 (by omega) hR hI kn
    · refine G_tabIn (tgt := 871) hk dL_law_33 (by decide) (by decide) (by decide) rfl (by decide) ?_
      exact lw_c23 hk hX h4 (by omega) hR hI kn
    · refine G_tabIn (tgt := 894) hk dL_law_33 (by decide) (by decide) (by decide) rfl (by decide) ?_
      exact lw_c24 hk hX h4 (by omega) hR hI kn
    · refine G_tabIn (tgt := 937) hk dL_law_33 (by decide) (by decide) (by decide) rfl (by decide) ?_
      exact lw_c25 hk hX h4 (by omega) hR hI kn
    · refine G_tabIn (tgt := 970) hk dL_law_33 (by decide) (by decide) (by decide) rfl (by decide) ?_
      exact lw_c26 hk hX h4 (by omega) hR hI kn
    · refine G_tabIn (tgt := 1046) hk dL_law_33 (by decide) (by decide) (by decide) rfl (by decide) ?_
      exact lw_c27 hk hX h4 (by omega) hR hI kn
    · refine G_tabIn (tgt := 1089) hk dL_law_33 (by decide) (by decide) (by decide) rfl (by decide) ?_
      exact lw_c28 hk hX h4 (by omega) hR hI kn
    · refine G_tabIn (tgt := 1132) hk dL_law_33 (by decide) (by decide) (by decide) rfl (by decide) ?_
      exact lw_c29 hk hX h4 (by omega) hR hI kn
    · refine G_tabIn (tgt := 1155) hk dL_law_33 (by decide) (by decide) (by decide) rfl (by decide) ?_
      exact lw_c30 hk hX h4 (by omega) hR hI kn
    · refine G_tabIn (tgt := 1208) hk dL_law_33 (by decide) (by decide) (by decide) rfl (by decide) ?_
      exact lw_c31 hk hX h4 (by omega) hR hI kn
    · refine G_tabIn (tgt := 1251) hk dL_law_33 (by decide) (by decide) (by decide) rfl (by decide) ?_
      exact lw_c32 hk hX h4 (by omega) hR hI kn
    · refine G_tabIn (tgt := 1314) hk dL_law_33 (by decide) (by decide) (by decide) rfl (by decide) ?_
      exact lw_c33 hk hX h4 (by omega) hR hI kn
    · refine G_tabIn (tgt := 1347) hk dL_law_33 (by decide) (by decide) (by decide) rfl (by decide) ?_
      exact lw_c34 hk hX h4 (by omega) hR hI kn
    · refine G_tabIn (tgt := 1370) hk dL_law_33 (by decide) (by decide) (by decide) rfl (by decide) ?_
      exact lw_c35 hk hX h4 (by omega) hR hI kn
