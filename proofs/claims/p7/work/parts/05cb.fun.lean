noncomputable def F_Ho_readKey_L44a (t_length : Int32) (c_tape : Nat → Int32) (c_n_k : Nat → Int64) (hf_features : Int32) (hf_keys : Int32) (c_hf_steps : Nat → Int32) (r_20 : Int64) : Nat → Int32 → (Nat → Int32) → Int32 → Int32 → Int32 → Int32 → Int32 → Int64 → Int32 → Int32 → (Int32 × Int32 × Int32 × Int32 × Int32 × Int32 × Int64 × Int32 × Int32 × (Nat → Int32) × (Nat → Int64) × Int32) := fun k9 => Nat.rec (motive := fun _ => Int32 → (Nat → Int32) → Int32 → Int32 → Int32 → Int32 → Int32 → Int64 → Int32 → Int32 → (Int32 × Int32 × Int32 × Int32 × Int32 × Int32 × Int64 × Int32 × Int32 × (Nat → Int32) × (Nat → Int64) × Int32)) (fun _ _ _ _ _ _ _ _ _ _ => default) (fun _ (G_L44a : Int32 → (Nat → Int32) → Int32 → Int32 → Int32 → Int32 → Int32 → Int64 → Int32 → Int32 → (Int32 × Int32 × Int32 × Int32 × Int32 × Int32 × Int64 × Int32 × Int32 × (Nat → Int32) × (Nat → Int64) × Int32)) => fun (v_106 : Int32) (g_107 : Nat → Int32) (v_108 : Int32) (v_109 : Int32) (v_110 : Int32) (v_111 : Int32) (v_112 : Int32) (v_113 : Int64) (v_114 : Int32) (v_115 : Int32) =>
    if 3 < v_106 then (
      let w_249 := F_Te_isSign v_108 v_112 59
      let r_247 : Int32 := w_249
      if r_247 = 0 then (
        let w_255 := F_keepLongAt_10 c_n_k hf_keys r_20
        let nw0_252 : Nat → Int64 := w_255
        let w_266 := F_Te_takeSign t_length v_108 v_109 v_110 v_111 v_112 v_113 v_114 v_115 c_tape 59
        let r_264 : Int32 := w_266.1
        let nw0_256 : Int32 := w_266.2.1
        let nw1_257 : Int32 := w_266.2.2.1
        let nw2_258 : Int32 := w_266.2.2.2.1
        let nw3_259 : Int32 := w_266.2.2.2.2.1
        let nw4_260 : Int32 := w_266.2.2.2.2.2.1
        let nw5_261 : Int64 := w_266.2.2.2.2.2.2.1
        let nw6_262 : Int32 := w_266.2.2.2.2.2.2.2.1
        let nw7_263 : Int32 := w_266.2.2.2.2.2.2.2.2
        (r_264, nw0_256, nw1_257, nw2_258, nw3_259, nw4_260, nw5_261, nw6_262, nw7_263, g_107, nw0_252, (hf_keys + 1))) else (
        if hf_features ≤ v_106 then (
          let w_274 := F_keepLongAt_10 c_n_k hf_keys r_20
          let nw0_271 : Nat → Int64 := w_274
          let w_285 := F_Te_takeSign t_length v_108 v_109 v_110 v_111 v_112 v_113 v_114 v_115 c_tape 59
          let r_283 : Int32 := w_285.1
          let nw0_275 : Int32 := w_285.2.1
          let nw1_276 : Int32 := w_285.2.2.1
          let nw2_277 : Int32 := w_285.2.2.2.1
          let nw3_278 : Int32 := w_285.2.2.2.2.1
          let nw4_279 : Int32 := w_285.2.2.2.2.2.1
          let nw5_280 : Int64 := w_285.2.2.2.2.2.2.1
          let nw6_281 : Int32 := w_285.2.2.2.2.2.2.2.1
          let nw7_282 : Int32 := w_285.2.2.2.2.2.2.2.2
          (r_283, nw0_275, nw1_276, nw2_277, nw3_278, nw4_279, nw5_280, nw6_281, nw7_282, g_107, nw0_271, (hf_keys + 1))) else (
          let w_292 := F_Te_refuse v_108 v_109 v_114 v_115 8
          let r_290 : Int32 := w_292.1
          let nw0_288 : Int32 := w_292.2.1
          let nw1_289 : Int32 := w_292.2.2
          (r_290, v_108, v_109, v_110, v_111, v_112, v_113, nw0_288, nw1_289, g_107, c_n_k, hf_keys)))) else (
      let w_297 := F_Te_isNumber v_108
      let r_295 : Int32 := w_297
      if r_295 = 0 then (
        let w_302 := F_Te_isSign v_108 v_112 59
        let r_300 : Int32 := w_302
        if r_300 = 0 then (
          let w_308 := F_keepLongAt_10 c_n_k hf_keys r_20
          let nw0_305 : Nat → Int64 := w_308
          let w_319 := F_Te_takeSign t_length v_108 v_109 v_110 v_111 v_112 v_113 v_114 v_115 c_tape 59
          let r_317 : Int32 := w_319.1
          let nw0_309 : Int32 := w_319.2.1
          let nw1_310 : Int32 := w_319.2.2.1
          let nw2_311 : Int32 := w_319.2.2.2.1
          let nw3_312 : Int32 := w_319.2.2.2.2.1
          let nw4_313 : Int32 := w_319.2.2.2.2.2.1
          let nw5_314 : Int64 := w_319.2.2.2.2.2.2.1
          let nw6_315 : Int32 := w_319.2.2.2.2.2.2.2.1
          let nw7_316 : Int32 := w_319.2.2.2.2.2.2.2.2
          (r_317, nw0_309, nw1_310, nw2_311, nw3_312, nw4_313, nw5_314, nw6_315, nw7_316, g_107, nw0_305, (hf_keys + 1))) else (
          if hf_features ≤ v_106 then (
            let w_327 := F_keepLongAt_10 c_n_k hf_keys r_20
            let nw0_324 : Nat → Int64 := w_327
            let w_338 := F_Te_takeSign t_length v_108 v_109 v_110 v_111 v_112 v_113 v_114 v_115 c_tape 59
            let r_336 : Int32 := w_338.1
            let nw0_328 : Int32 := w_338.2.1
            let nw1_329 : Int32 := w_338.2.2.1
            let nw2_330 : Int32 := w_338.2.2.2.1
            let nw3_331 : Int32 := w_338.2.2.2.2.1
            let nw4_332 : Int32 := w_338.2.2.2.2.2.1
            let nw5_333 : Int64 := w_338.2.2.2.2.2.2.1
            let nw6_334 : Int32 := w_338.2.2.2.2.2.2.2.1
            let nw7_335 : Int32 := w_338.2.2.2.2.2.2.2.2
            (r_336, nw0_328, nw1_329, nw2_330, nw3_331, nw4_332, nw5_333, nw6_334, nw7_335, g_107, nw0_324, (hf_keys + 1))) else (
            let w_345 := F_Te_refuse v_108 v_109 v_114 v_115 8
            let r_343 : Int32 := w_345.1
            let nw0_341 : Int32 := w_345.2.1
            let nw1_342 : Int32 := w_345.2.2
            (r_343, v_108, v_109, v_110, v_111, v_112, v_113, nw0_341, nw1_342, g_107, c_n_k, hf_keys)))) else (
        if v_106 < hf_features then (
          let w_352 := F_H_stepsOf hf_features c_hf_steps v_106
          let r_350 : Int32 := w_352
          let w_363 := F_Te_takeNumber t_length v_108 v_109 v_110 v_111 v_112 v_113 v_114 v_115 c_tape 0 (r_350 - 1)
          let r_361 : Int32 := w_363.1
          let nw0_353 : Int32 := w_363.2.1
          let nw1_354 : Int32 := w_363.2.2.1
          let nw2_355 : Int32 := w_363.2.2.2.1
          let nw3_356 : Int32 := w_363.2.2.2.2.1
          let nw4_357 : Int32 := w_363.2.2.2.2.2.1
          let nw5_358 : Int32 := w_363.2.2.2.2.2.2.1
          let nw6_359 : Int32 := w_363.2.2.2.2.2.2.2.1
          let nw7_360 : Int64 := w_363.2.2.2.2.2.2.2.2
          if r_361 = (-1) then (
            ((0 : Int32), nw2_355, nw3_356, nw4_357, nw5_358, nw6_359, nw7_360, nw0_353, nw1_354, g_107, c_n_k, hf_keys)) else (
            let w_369 := F_H_setStep g_107 hf_keys v_106 r_361
            let nw0_366 : Nat → Int32 := w_369
            G_L44a (v_106 + 1) nw0_366 nw2_355 nw3_356 nw4_357 nw5_358 nw6_359 nw7_360 nw0_353 nw1_354)) else (
          let w_378 := F_Te_refuse v_108 v_109 v_114 v_115 8
          let r_376 : Int32 := w_378.1
          let nw0_374 : Int32 := w_378.2.1
          let nw1_375 : Int32 := w_378.2.2
          (r_376, v_108, v_109, v_110, v_111, v_112, v_113, nw0_374, nw1_375, g_107, c_n_k, hf_keys))))) k9
theorem F_Ho_readKey_L44a_s (t_length : Int32) (c_tape : Nat → Int32) (c_n_k : Nat → Int64) (hf_features : Int32) (hf_keys : Int32) (c_hf_steps : Nat → Int32) (r_20 : Int64) (n9 : Nat) (v_106 : Int32) (g_107 : Nat → Int32) (v_108 : Int32) (v_109 : Int32) (v_110 : Int32) (v_111 : Int32) (v_112 : Int32) (v_113 : Int64) (v_114 : Int32) (v_115 : Int32) : F_Ho_readKey_L44a t_length c_tape c_n_k hf_features hf_keys c_hf_steps r_20 (n9 + 1) v_106 g_107 v_108 v_109 v_110 v_111 v_112 v_113 v_114 v_115 = (
    if 3 < v_106 then (
      let w_249 := F_Te_isSign v_108 v_112 59
      let r_247 : Int32 := w_249
      if r_247 = 0 then (
        let w_255 := F_keepLongAt_10 c_n_k hf_keys r_20
        let nw0_252 : Nat → Int64 := w_255
        let w_266 := F_Te_takeSign t_length v_108 v_109 v_110 v_111 v_112 v_113 v_114 v_115 c_tape 59
        let r_264 : Int32 := w_266.1
        let nw0_256 : Int32 := w_266.2.1
        let nw1_257 : Int32 := w_266.2.2.1
        let nw2_258 : Int32 := w_266.2.2.2.1
        let nw3_259 : Int32 := w_266.2.2.2.2.1
        let nw4_260 : Int32 := w_266.2.2.2.2.2.1
        let nw5_261 : Int64 := w_266.2.2.2.2.2.2.1
        let nw6_262 : Int32 := w_266.2.2.2.2.2.2.2.1
        let nw7_263 : Int32 := w_266.2.2.2.2.2.2.2.2
        (r_264, nw0_256, nw1_257, nw2_258, nw3_259, nw4_260, nw5_261, nw6_262, nw7_263, g_107, nw0_252, (hf_keys + 1))) else (
        if hf_features ≤ v_106 then (
          let w_274 := F_keepLongAt_10 c_n_k hf_keys r_20
          let nw0_271 : Nat → Int64 := w_274
          let w_285 := F_Te_takeSign t_length v_108 v_109 v_110 v_111 v_112 v_113 v_114 v_115 c_tape 59
          let r_283 : Int32 := w_285.1
          let nw0_275 : Int32 := w_285.2.1
          let nw1_276 : Int32 := w_285.2.2.1
          let nw2_277 : Int32 := w_285.2.2.2.1
          let nw3_278 : Int32 := w_285.2.2.2.2.1
          let nw4_279 : Int32 := w_285.2.2.2.2.2.1
          let nw5_280 : Int64 := w_285.2.2.2.2.2.2.1
          let nw6_281 : Int32 := w_285.2.2.2.2.2.2.2.1
          let nw7_282 : Int32 := w_285.2.2.2.2.2.2.2.2
          (r_283, nw0_275, nw1_276, nw2_277, nw3_278, nw4_279, nw5_280, nw6_281, nw7_282, g_107, nw0_271, (hf_keys + 1))) else (
          let w_292 := F_Te_refuse v_108 v_109 v_114 v_115 8
          let r_290 : Int32 := w_292.1
          let nw0_288 : Int32 := w_292.2.1
          let nw1_289 : Int32 := w_292.2.2
          (r_290, v_108, v_109, v_110, v_111, v_112, v_113, nw0_288, nw1_289, g_107, c_n_k, hf_keys)))) else (
      let w_297 := F_Te_isNumber v_108
      let r_295 : Int32 := w_297
      if r_295 = 0 then (
        let w_302 := F_Te_isSign v_108 v_112 59
        let r_300 : Int32 := w_302
        if r_300 = 0 then (
          let w_308 := F_keepLongAt_10 c_n_k hf_keys r_20
          let nw0_305 : Nat → Int64 := w_308
          let w_319 := F_Te_takeSign t_length v_108 v_109 v_110 v_111 v_112 v_113 v_114 v_115 c_tape 59
          let r_317 : Int32 := w_319.1
          let nw0_309 : Int32 := w_319.2.1
          let nw1_310 : Int32 := w_319.2.2.1
          let nw2_311 : Int32 := w_319.2.2.2.1
          let nw3_312 : Int32 := w_319.2.2.2.2.1
          let nw4_313 : Int32 := w_319.2.2.2.2.2.1
          let nw5_314 : Int64 := w_319.2.2.2.2.2.2.1
          let nw6_315 : Int32 := w_319.2.2.2.2.2.2.2.1
          let nw7_316 : Int32 := w_319.2.2.2.2.2.2.2.2
          (r_317, nw0_309, nw1_310, nw2_311, nw3_312, nw4_313, nw5_314, nw6_315, nw7_316, g_107, nw0_305, (hf_keys + 1))) else (
          if hf_features ≤ v_106 then (
            let w_327 := F_keepLongAt_10 c_n_k hf_keys r_20
            let nw0_324 : Nat → Int64 := w_327
            let w_338 := F_Te_takeSign t_length v_108 v_109 v_110 v_111 v_112 v_113 v_114 v_115 c_tape 59
            let r_336 : Int32 := w_338.1
            let nw0_328 : Int32 := w_338.2.1
            let nw1_329 : Int32 := w_338.2.2.1
            let nw2_330 : Int32 := w_338.2.2.2.1
            let nw3_331 : Int32 := w_338.2.2.2.2.1
            let nw4_332 : Int32 := w_338.2.2.2.2.2.1
            let nw5_333 : Int64 := w_338.2.2.2.2.2.2.1
            let nw6_334 : Int32 := w_338.2.2.2.2.2.2.2.1
            let nw7_335 : Int32 := w_338.2.2.2.2.2.2.2.2
            (r_336, nw0_328, nw1_329, nw2_330, nw3_331, nw4_332, nw5_333, nw6_334, nw7_335, g_107, nw0_324, (hf_keys + 1))) else (
            let w_345 := F_Te_refuse v_108 v_109 v_114 v_115 8
            let r_343 : Int32 := w_345.1
            let nw0_341 : Int32 := w_345.2.1
            let nw1_342 : Int32 := w_345.2.2
            (r_343, v_108, v_109, v_110, v_111, v_112, v_113, nw0_341, nw1_342, g_107, c_n_k, hf_keys)))) else (
        if v_106 < hf_features then (
          let w_352 := F_H_stepsOf hf_features c_hf_steps v_106
          let r_350 : Int32 := w_352
          let w_363 := F_Te_takeNumber t_length v_108 v_109 v_110 v_111 v_112 v_113 v_114 v_115 c_tape 0 (r_350 - 1)
          let r_361 : Int32 := w_363.1
          let nw0_353 : Int32 := w_363.2.1
          let nw1_354 : Int32 := w_363.2.2.1
          let nw2_355 : Int32 := w_363.2.2.2.1
          let nw3_356 : Int32 := w_363.2.2.2.2.1
          let nw4_357 : Int32 := w_363.2.2.2.2.2.1
          let nw5_358 : Int32 := w_363.2.2.2.2.2.2.1
          let nw6_359 : Int32 := w_363.2.2.2.2.2.2.2.1
          let nw7_360 : Int64 := w_363.2.2.2.2.2.2.2.2
          if r_361 = (-1) then (
            ((0 : Int32), nw2_355, nw3_356, nw4_357, nw5_358, nw6_359, nw7_360, nw0_353, nw1_354, g_107, c_n_k, hf_keys)) else (
            let w_369 := F_H_setStep g_107 hf_keys v_106 r_361
            let nw0_366 : Nat → Int32 := w_369
            (F_Ho_readKey_L44a t_length c_tape c_n_k hf_features hf_keys c_hf_steps r_20 n9) (v_106 + 1) nw0_366 nw2_355 nw3_356 nw4_357 nw5_358 nw6_359 nw7_360 nw0_353 nw1_354)) else (
          let w_378 := F_Te_refuse v_108 v_109 v_114 v_115 8
          let r_376 : Int32 := w_378.1
          let nw0_374 : Int32 := w_378.2.1
          let nw1_375 : Int32 := w_378.2.2
          (r_376, v_108, v_109, v_110, v_111, v_112, v_113, nw0_374, nw1_375, g_107, c_n_k, hf_keys))))) := rfl
noncomputable def F_Ho_readKey (t_length : Int32) (t_kind : Int32) (t_start : Int32) (t_end : Int32) (t_number : Int32) (t_sign : Int32) (t_letters : Int64) (t_fault : Int32) (t_faultPlace : Int32) (c_tape : Nat → Int32) (c_n_f : Nat → Int64) (c_n_k : Nat → Int64) (c_n_r : Nat → Int64) (c_n_d : Nat → Int64) (hf_features : Int32) (hf_keys : Int32) (hf_rings : Int32) (hf_doors : Int32) (c_hf_steps : Nat → Int32) (c_hf_keySteps : Nat → Int32) : Int32 × Int32 × Int32 × Int32 × Int32 × Int32 × Int64 × Int32 × Int32 × (Nat → Int32) × (Nat → Int64) × Int32 :=
  if hf_keys < 10 then (
    let w_11 := F_Te_advance t_length t_end t_number t_sign t_letters c_tape
    let nw0_3 : Int32 := w_11.1
    let nw1_4 : Int32 := w_11.2.1
    let nw2_5 : Int32 := w_11.2.2.1
    let nw3_6 : Int32 := w_11.2.2.2.1
    let nw4_7 : Int32 := w_11.2.2.2.2.1
    let nw5_8 : Int64 := w_11.2.2.2.2.2
    let w_22 := F_Ho_takeNewName t_length nw0_3 nw1_4 nw2_5 nw4_7 nw3_6 nw5_8 t_fault t_faultPlace c_tape c_n_f c_n_k c_n_r c_n_d hf_features hf_keys hf_rings hf_doors
    let r_20 : Int64 := w_22.1
    let nw0_12 : Int32 := w_22.2.1
    let nw1_13 : Int32 := w_22.2.2.1
    let nw2_14 : Int32 := w_22.2.2.2.1
    let nw3_15 : Int32 := w_22.2.2.2.2.1
    let nw4_16 : Int32 := w_22.2.2.2.2.2.1
    let nw5_17 : Int64 := w_22.2.2.2.2.2.2.1
    let nw6_18 : Int32 := w_22.2.2.2.2.2.2.2.1
    let nw7_19 : Int32 := w_22.2.2.2.2.2.2.2.2
    if (lg_cmp r_20 0) = 0 then (
      ((0 : Int32), nw0_12, nw1_13, nw2_14, nw3_15, nw4_16, nw5_17, nw6_18, nw7_19, c_hf_keySteps, c_n_k, hf_keys)) else (
      F_Ho_readKey_L44a t_length c_tape c_n_k hf_features hf_keys c_hf_steps r_20 ((2147483647 - (0 : Int32).toInt).toNat + 1) (0 : Int32) c_hf_keySteps nw0_12 nw1_13 nw2_14 nw3_15 nw4_16 nw5_17 nw6_18 nw7_19)) else (
    let w_388 := F_Te_refuse t_kind t_start t_fault t_faultPlace 6
    let r_386 : Int32 := w_388.1
    let nw0_384 : Int32 := w_388.2.1
    let nw1_385 : Int32 := w_388.2.2
    (r_386, t_kind, t_start, t_end, t_number, t_sign, t_letters, nw0_384, nw1_385, c_hf_keySteps, c_n_k, hf_keys))
theorem F_Ho_readKey_s (t_length : Int32) (t_kind : Int32) (t_start : Int32) (t_end : Int32) (t_number : Int32) (t_sign : Int32) (t_letters : Int64) (t_fault : Int32) (t_faultPlace : Int32) (c_tape : Nat → Int32) (c_n_f : Nat → Int64) (c_n_k : Nat → Int64) (c_n_r : Nat → Int64) (c_n_d : Nat → Int64) (hf_features : Int32) (hf_keys : Int32) (hf_rings : Int32) (hf_doors : Int32) (c_hf_steps : Nat → Int32) (c_hf_keySteps : Nat → Int32) : F_Ho_readKey t_length t_kind t_start t_end t_number t_sign t_letters t_fault t_faultPlace c_tape c_n_f c_n_k c_n_r c_n_d hf_features hf_keys hf_rings hf_doors c_hf_steps c_hf_keySteps = (
  if hf_keys < 10 then (
    let w_11 := F_Te_advance t_length t_end t_number t_sign t_letters c_tape
    let nw0_3 : Int32 := w_11.1
    let nw1_4 : Int32 := w_11.2.1
    let nw2_5 : Int32 := w_11.2.2.1
    let nw3_6 : Int32 := w_11.2.2.2.1
    let nw4_7 : Int32 := w_11.2.2.2.2.1
    let nw5_8 : Int64 := w_11.2.2.2.2.2
    let w_22 := F_Ho_takeNewName t_length nw0_3 nw1_4 nw2_5 nw4_7 nw3_6 nw5_8 t_fault t_faultPlace c_tape c_n_f c_n_k c_n_r c_n_d hf_features hf_keys hf_rings hf_doors
    let r_20 : Int64 := w_22.1
    let nw0_12 : Int32 := w_22.2.1
    let nw1_13 : Int32 := w_22.2.2.1
    let nw2_14 : Int32 := w_22.2.2.2.1
    let nw3_15 : Int32 := w_22.2.2.2.2.1
    let nw4_16 : Int32 := w_22.2.2.2.2.2.1
    let nw5_17 : Int64 := w_22.2.2.2.2.2.2.1
    let nw6_18 : Int32 := w_22.2.2.2.2.2.2.2.1
    let nw7_19 : Int32 := w_22.2.2.2.2.2.2.2.2
    if (lg_cmp r_20 0) = 0 then (
      ((0 : Int32), nw0_12, nw1_13, nw2_14, nw3_15, nw4_16, nw5_17, nw6_18, nw7_19, c_hf_keySteps, c_n_k, hf_keys)) else (
      F_Ho_readKey_L44a t_length c_tape c_n_k hf_features hf_keys c_hf_steps r_20 ((2147483647 - (0 : Int32).toInt).toNat + 1) (0 : Int32) c_hf_keySteps nw0_12 nw1_13 nw2_14 nw3_15 nw4_16 nw5_17 nw6_18 nw7_19)) else (
    let w_388 := F_Te_refuse t_kind t_start t_fault t_faultPlace 6
    let r_386 : Int32 := w_388.1
    let nw0_384 : Int32 := w_388.2.1
    let nw1_385 : Int32 := w_388.2.2
    (r_386, t_kind, t_start, t_end, t_number, t_sign, t_letters, nw0_384, nw1_385, c_hf_keySteps, c_n_k, hf_keys))) := rfl
noncomputable def F_Ho_readRing_L68a (t_length : Int32) (c_tape : Nat → Int32) (c_n_k : Nat → Int64) (hf_keys : Int32) (hf_rings : Int32) (nw0_25 : Nat → Int64) (nw0_29 : Int32) : Nat → Int32 → (Nat → Int32) → Int32 → Int32 → Int32 → Int32 → Int32 → Int32 → Int64 → Int32 → Int32 → (Nat → Int32) → (Int32 × Int32 × Int32 × Int32 × Int32 × Int32 × Int64 × Int32 × Int32 × (Nat → Int64) × Int32 × (Nat → Int32) × Int32 × (Nat → Int32)) := fun k9 => Nat.rec (motive := fun _ => Int32 → (Nat → Int32) → Int32 → Int32 → Int32 → Int32 → Int32 → Int32 → Int64 → Int32 → Int32 → (Nat → Int32) → (Int32 × Int32 × Int32 × Int32 × Int32 × Int32 × Int64 × Int32 × Int32 × (Nat → Int64) × Int32 × (Nat → Int32) × Int32 × (Nat → Int32))) (fun _ _ _ _ _ _ _ _ _ _ _ _ => default) (fun _ (G_L68a : Int32 → (Nat → Int32) → Int32 → Int32 → Int32 → Int32 → Int32 → Int32 → Int64 → Int32 → Int32 → (Nat → Int32) → (Int32 × Int32 × Int32 × Int32 × Int32 × Int32 × Int64 × Int32 × Int32 × (Nat → Int64) × Int32 × (Nat → Int32) × Int32 × (Nat → Int32))) => fun (v_129 : Int32) (g_130 : Nat → Int32) (v_131 : Int32) (v_132 : Int32) (v_133 : Int32) (v_134 : Int32) (v_135 : Int32) (v_136 : Int32) (v_137 : Int64) (v_138 : Int32) (v_139 : Int32) (g_140 : Nat → Int32) =>
    if 10 < v_129 then (
      let w_221 := F_Te_takeSign t_length v_132 v_133 v_134 v_135 v_136 v_137 v_138 v_139 c_tape 59
      let r_219 : Int32 := w_221.1
      let nw0_211 : Int32 := w_221.2.1
      let nw1_212 : Int32 := w_221.2.2.1
      let nw2_213 : Int32 := w_221.2.2.2.1
      let nw3_214 : Int32 := w_221.2.2.2.2.1
      let nw4_215 : Int32 := w_221.2.2.2.2.2.1
      let nw5_216 : Int64 := w_221.2.2.2.2.2.2.1
      let nw6_217 : Int32 := w_221.2.2.2.2.2.2.2.1
      let nw7_218 : Int32 := w_221.2.2.2.2.2.2.2.2
      (r_219, nw0_211, nw1_212, nw2_213, nw3_214, nw4_215, nw5_216, nw6_217, nw7_218, nw0_25, nw0_29, g_140, v_131, g_130)) else (
      let w_226 := F_Te_isSign v_132 v_136 59
      let r_224 : Int32 := w_226
      if r_224 = 0 then (
        let w_246 := F_HR_thing_k t_length v_132 v_133 v_134 v_137 v_138 v_139 c_tape c_n_k hf_keys
        let r_244 : Int32 := w_246.1
        let nw0_242 : Int32 := w_246.2.1
        let nw1_243 : Int32 := w_246.2.2
        if r_244 = (-1) then (
          ((0 : Int32), v_132, v_133, v_134, v_135, v_136, v_137, nw0_242, nw1_243, nw0_25, nw0_29, g_140, v_131, g_130)) else (
          let x_249 : Int32 := (v_131 >>> (r_244 &&& 31))
          let x_250 : Int32 := (x_249 &&& 1)
          if x_250 = 1 then (
            let w_275 := F_Te_refuse v_132 v_133 nw0_242 nw1_243 5
            let r_273 : Int32 := w_275.1
            let nw0_271 : Int32 := w_275.2.1
            let nw1_272 : Int32 := w_275.2.2
            (r_273, v_132, v_133, v_134, v_135, v_136, v_137, nw0_271, nw1_272, nw0_25, nw0_29, g_140, v_131, g_130)) else (
            let x_253 : Int32 := ((1 : Int32) <<< (r_244 &&& 31))
            let x_254 : Int32 := (v_131 ||| x_253)
            let w_259 := F_H_putOn nw0_29 g_130 g_140 r_244 hf_rings v_129
            let nw0_255 : Nat → Int32 := w_259.1
            let nw1_256 : Nat → Int32 := w_259.2
            let w_268 := F_Te_advance t_length v_134 v_135 v_136 v_137 c_tape
            let nw0_260 : Int32 := w_268.1
            let nw1_261 : Int32 := w_268.2.1
            let nw2_262 : Int32 := w_268.2.2.1
            let nw3_263 : Int32 := w_268.2.2.2.1
            let nw4_264 : Int32 := w_268.2.2.2.2.1
            let nw5_265 : Int64 := w_268.2.2.2.2.2
            G_L68a (v_129 + 1) nw0_255 x_254 nw0_260 nw1_261 nw2_262 nw4_264 nw3_263 nw5_265 nw0_242 nw1_243 nw1_256))) else (
        let w_239 := F_Te_takeSign t_length v_132 v_133 v_134 v_135 v_136 v_137 v_138 v_139 c_tape 59
        let r_237 : Int32 := w_239.1
        let nw0_229 : Int32 := w_239.2.1
        let nw1_230 : Int32 := w_239.2.2.1
        let nw2_231 : Int32 := w_239.2.2.2.1
        let nw3_232 : Int32 := w_239.2.2.2.2.1
        let nw4_233 : Int32 := w_239.2.2.2.2.2.1
        let nw5_234 : Int64 := w_239.2.2.2.2.2.2.1
        let nw6_235 : Int32 := w_239.2.2.2.2.2.2.2.1
        let nw7_236 : Int32 := w_239.2.2.2.2.2.2.2.2
        (r_237, nw0_229, nw1_230, nw2_231, nw3_232, nw4_233, nw5_234, nw6_235, nw7_236, nw0_25, nw0_29, g_140, v_131, g_130)))) k9
theorem F_Ho_readRing_L68a_s (t_length : Int32) (c_tape : Nat → Int32) (c_n_k : Nat → Int64) (hf_keys : Int32) (hf_rings : Int32) (nw0_25 : Nat → Int64) (nw0_29 : Int32) (n9 : Nat) (v_129 : Int32) (g_130 : Nat → Int32) (v_131 : Int32) (v_132 : Int32) (v_133 : Int32) (v_134 : Int32) (v_135 : Int32) (v_136 : Int32) (v_137 : Int64) (v_138 : Int32) (v_139 : Int32) (g_140 : Nat → Int32) : F_Ho_readRing_L68a t_length c_tape c_n_k hf_keys hf_rings nw0_25 nw0_29 (n9 + 1) v_129 g_130 v_131 v_132 v_133 v_134 v_135 v_136 v_137 v_138 v_139 g_140 = (
    if 10 < v_129 then (
      let w_221 := F_Te_takeSign t_length v_132 v_133 v_134 v_135 v_136 v_137 v_138 v_139 c_tape 59
      let r_219 : Int32 := w_221.1
      let nw0_211 : Int32 := w_221.2.1
      let nw1_212 : Int32 := w_221.2.2.1
      let nw2_213 : Int32 := w_221.2.2.2.1
      let nw3_214 : Int32 := w_221.2.2.2.2.1
      let nw4_215 : Int32 := w_221.2.2.2.2.2.1
      let nw5_216 : Int64 := w_221.2.2.2.2.2.2.1
      let nw6_217 : Int32 := w_221.2.2.2.2.2.2.2.1
      let nw7_218 : Int32 := w_221.2.2.2.2.2.2.2.2
      (r_219, nw0_211, nw1_212, nw2_213, nw3_214, nw4_215, nw5_216, nw6_217, nw7_218, nw0_25, nw0_29, g_140, v_131, g_130)) else (
      let w_226 := F_Te_isSign v_132 v_136 59
      let r_224 : Int32 := w_226
      if r_224 = 0 then (
        let w_246 := F_HR_thing_k t_length v_132 v_133 v_134 v_137 v_138 v_139 c_tape c_n_k hf_keys
        let r_244 : Int32 := w_246.1
        let nw0_242 : Int32 := w_246.2.1
        let nw1_243 : Int32 := w_246.2.2
        if r_244 = (-1) then (
          ((0 : Int32), v_132, v_133, v_134, v_135, v_136, v_137, nw0_242, nw1_243, nw0_25, nw0_29, g_140, v_131, g_130)) else (
          let x_249 : Int32 := (v_131 >>> (r_244 &&& 31))
          let x_250 : Int32 := (x_249 &&& 1)
          if x_250 = 1 then (
            let w_275 := F_Te_refuse v_132 v_133 nw0_242 nw1_243 5
            let r_273 : Int32 := w_275.1
            let nw0_271 : Int32 := w_275.2.1
            let nw1_272 : Int32 := w_275.2.2
            (r_273, v_132, v_133, v_134, v_135, v_136, v_137, nw0_271, nw1_272, nw0_25, nw0_29, g_140, v_131, g_130)) else (
            let x_253 : Int32 := ((1 : Int32) <<< (r_244 &&& 31))
            let x_254 : Int32 := (v_131 ||| x_253)
            let w_259 := F_H_putOn nw0_29 g_130 g_140 r_244 hf_rings v_129
            let nw0_255 : Nat → Int32 := w_259.1
            let nw1_256 : Nat → Int32 := w_259.2
            let w_268 := F_Te_advance t_length v_134 v_135 v_136 v_137 c_tape
            let nw0_260 : Int32 := w_268.1
            let nw1_261 : Int32 := w_268.2.1
            let nw2_262 : Int32 := w_268.2.2.1
            let nw3_263 : Int32 := w_268.2.2.2.1
            let nw4_264 : Int32 := w_268.2.2.2.2.1
            let nw5_265 : Int64 := w_268.2.2.2.2.2
            (F_Ho_readRing_L68a t_length c_tape c_n_k hf_keys hf_rings nw0_25 nw0_29 n9) (v_129 + 1) nw0_255 x_254 nw0_260 nw1_261 nw2_262 nw4_264 nw3_263 nw5_265 nw0_242 nw1_243 nw1_256))) else (
        let w_239 := F_Te_takeSign t_length v_132 v_133 v_134 v_135 v_136 v_137 v_138 v_139 c_tape 59
        let r_237 : Int32 := w_239.1
        let nw0_229 : Int32 := w_239.2.1
        let nw1_230 : Int32 := w_239.2.2.1
        let nw2_231 : Int32 := w_239.2.2.2.1
        let nw3_232 : Int32 := w_239.2.2.2.2.1
        let nw4_233 : Int32 := w_239.2.2.2.2.2.1
        let nw5_234 : Int64 := w_239.2.2.2.2.2.2.1
        let nw6_235 : Int32 := w_239.2.2.2.2.2.2.2.1
        let nw7_236 : Int32 := w_239.2.2.2.2.2.2.2.2
        (r_237, nw0_229, nw1_230, nw2_231, nw3_232, nw4_233, nw5_234, nw6_235, nw7_236, nw0_25, nw0_29, g_140, v_131, g_130)))) := rfl
noncomputable def F_Ho_readRing (hr_keysOnRings : Int32) (t_length : Int32) (t_kind : Int32) (t_start : Int32) (t_end : Int32) (t_number : Int32) (t_sign : Int32) (t_letters : Int64) (t_fault : Int32) (t_faultPlace : Int32) (c_tape : Nat → Int32) (c_n_f : Nat → Int64) (c_n_k : Nat → Int64) (c_n_r : Nat → Int64) (c_n_d : Nat → Int64) (hf_features : Int32) (hf_keys : Int32) (hf_rings : Int32) (hf_doors : Int32) (c_hf_on : Nat → Int32) (c_hf_onMany : Nat → Int32) : Int32 × Int32 × Int32 × Int32 × Int32 × Int32 × Int64 × Int32 × Int32 × (Nat → Int64) × Int32 × (Nat → Int32) × Int32 × (Nat → Int32) :=
  if hf_rings < 3 then (
    let w_11 := F_Te_advance t_length t_end t_number t_sign t_letters c_tape
    let nw0_3 : Int32 := w_11.1
    let nw1_4 : Int32 := w_11.2.1
    let nw2_5 : Int32 := w_11.2.2.1
    let nw3_6 : Int32 := w_11.2.2.2.1
    let nw4_7 : Int32 := w_11.2.2.2.2.1
    let nw5_8 : Int64 := w_11.2.2.2.2.2
    let w_22 := F_Ho_takeNewName t_length nw0_3 nw1_4 nw2_5 nw4_7 nw3_6 nw5_8 t_fault t_faultPlace c_tape c_n_f c_n_k c_n_r c_n_d hf_features hf_keys hf_rings hf_doors
    let r_20 : Int64 := w_22.1
    let nw0_12 : Int32 := w_22.2.1
    let nw1_13 : Int32 := w_22.2.2.1
    let nw2_14 : Int32 := w_22.2.2.2.1
    let nw3_15 : Int32 := w_22.2.2.2.2.1
    let nw4_16 : Int32 := w_22.2.2.2.2.2.1
    let nw5_17 : Int64 := w_22.2.2.2.2.2.2.1
    let nw6_18 : Int32 := w_22.2.2.2.2.2.2.2.1
    let nw7_19 : Int32 := w_22.2.2.2.2.2.2.2.2
    if (lg_cmp r_20 0) = 0 then (
      ((0 : Int32), nw0_12, nw1_13, nw2_14, nw3_15, nw4_16, nw5_17, nw6_18, nw7_19, c_n_r, hf_rings, c_hf_onMany, hr_keysOnRings, c_hf_on)) else (
      let w_28 := F_keepLongAt_3 c_n_r hf_rings r_20
      let nw0_25 : Nat → Int64 := w_28
      let w_33 := F_H_addRing hf_rings c_hf_onMany
      let nw0_29 : Int32 := w_33.1
      let nw1_30 : Nat → Int32 := w_33.2
      F_Ho_readRing_L68a t_length c_tape c_n_k hf_keys hf_rings nw0_25 nw0_29 ((2147483647 - (0 : Int32).toInt).toNat + 1) (0 : Int32) c_hf_on hr_keysOnRings nw0_12 nw1_13 nw2_14 nw3_15 nw4_16 nw5_17 nw6_18 nw7_19 nw1_30)) else (
    let w_287 := F_Te_refuse t_kind t_start t_fault t_faultPlace 6
    let r_285 : Int32 := w_287.1
    let nw0_283 : Int32 := w_287.2.1
    let nw1_284 : Int32 := w_287.2.2
    (r_285, t_kind, t_start, t_end, t_number, t_sign, t_letters, nw0_283, nw1_284, c_n_r, hf_rings, c_hf_onMany, hr_keysOnRings, c_hf_on))
theorem F_Ho_readRing_s (hr_keysOnRings : Int32) (t_length : Int32) (t_kind : Int32) (t_start : Int32) (t_end : Int32) (t_number : Int32) (t_sign : Int32) (t_letters : Int64) (t_fault : Int32) (t_faultPlace : Int32) (c_tape : Nat → Int32) (c_n_f : Nat → Int64) (c_n_k : Nat → Int64) (c_n_r : Nat → Int64) (c_n_d : Nat → Int64) (hf_features : Int32) (hf_keys : Int32) (hf_rings : Int32) (hf_doors : Int32) (c_hf_on : Nat → Int32) (c_hf_onMany : Nat → Int32) : F_Ho_readRing hr_keysOnRings t_length t_kind t_start t_end t_number t_sign t_letters t_fault t_faultPlace c_tape c_n_f c_n_k c_n_r c_n_d hf_features hf_keys hf_rings hf_doors c_hf_on c_hf_onMany = (
  if hf_rings < 3 then (
    let w_11 := F_Te_advance t_length t_end t_number t_sign t_letters c_tape
    let nw0_3 : Int32 := w_11.1
    let nw1_4 : Int32 := w_11.2.1
    let nw2_5 : Int32 := w_11.2.2.1
    let nw3_6 : Int32 := w_11.2.2.2.1
    let nw4_7 : Int32 := w_11.2.2.2.2.1
    let nw5_8 : Int64 := w_11.2.2.2.2.2
    let w_22 := F_Ho_takeNewName t_length nw0_3 nw1_4 nw2_5 nw4_7 nw3_6 nw5_8 t_fault t_faultPlace c_tape c_n_f c_n_k c_n_r c_n_d hf_features hf_keys hf_rings hf_doors
    let r_20 : Int64 := w_22.1
    let nw0_12 : Int32 := w_22.2.1
    let nw1_13 : Int32 := w_22.2.2.1
    let nw2_14 : Int32 := w_22.2.2.2.1
    let nw3_15 : Int32 := w_22.2.2.2.2.1
    let nw4_16 : Int32 := w_22.2.2.2.2.2.1
    let nw5_17 : Int64 := w_22.2.2.2.2.2.2.1
    let nw6_18 : Int32 := w_22.2.2.2.2.2.2.2.1
    let nw7_19 : Int32 := w_22.2.2.2.2.2.2.2.2
    if (lg_cmp r_20 0) = 0 then (
      ((0 : Int32), nw0_12, nw1_13, nw2_14, nw3_15, nw4_16, nw5_17, nw6_18, nw7_19, c_n_r, hf_rings, c_hf_onMany, hr_keysOnRings, c_hf_on)) else (
      let w_28 := F_keepLongAt_3 c_n_r hf_rings r_20
      let nw0_25 : Nat → Int64 := w_28
      let w_33 := F_H_addRing hf_rings c_hf_onMany
      let nw0_29 : Int32 := w_33.1
      let nw1_30 : Nat → Int32 := w_33.2
      F_Ho_readRing_L68a t_length c_tape c_n_k hf_keys hf_rings nw0_25 nw0_29 ((2147483647 - (0 : Int32).toInt).toNat + 1) (0 : Int32) c_hf_on hr_keysOnRings nw0_12 nw1_13 nw2_14 nw3_15 nw4_16 nw5_17 nw6_18 nw7_19 nw1_30)) else (
    let w_287 := F_Te_refuse t_kind t_start t_fault t_faultPlace 6
    let r_285 : Int32 := w_287.1
    let nw0_283 : Int32 := w_287.2.1
    let nw1_284 : Int32 := w_287.2.2
    (r_285, t_kind, t_start, t_end, t_number, t_sign, t_letters, nw0_283, nw1_284, c_n_r, hf_rings, c_hf_onMany, hr_keysOnRings, c_hf_on))) := rfl
noncomputable def F_Ho_readDoor_L113a (t_length : Int32) (c_tape : Nat → Int32) (c_n_k : Nat → Int64) (hf_keys : Int32) (hf_doors : Int32) (nw0_68 : Nat → Int64) (nw0_72 : Int32) (nw1_73 : Nat → Int32) : Nat → Int32 → Int32 → Int32 → Int32 → Int32 → Int32 → Int64 → Int32 → Int32 → (Nat → Int32) → (Int32 × Int32 × Int32 × Int32 × Int32 × Int32 × Int64 × Int32 × Int32 × (Nat → Int64) × Int32 × (Nat → Int32) × (Nat → Int32)) := fun k9 => Nat.rec (motive := fun _ => Int32 → Int32 → Int32 → Int32 → Int32 → Int32 → Int64 → Int32 → Int32 → (Nat → Int32) → (Int32 × Int32 × Int32 × Int32 × Int32 × Int32 × Int64 × Int32 × Int32 × (Nat → Int64) × Int32 × (Nat → Int32) × (Nat → Int32))) (fun _ _ _ _ _ _ _ _ _ _ => default) (fun _ (G_L113a : Int32 → Int32 → Int32 → Int32 → Int32 → Int32 → Int64 → Int32 → Int32 → (Nat → Int32) → (Int32 × Int32 × Int32 × Int32 × Int32 × Int32 × Int64 × Int32 × Int32 × (Nat → Int64) × Int32 × (Nat → Int32) × (Nat → Int32))) => fun (v_196 : Int32) (v_197 : Int32) (v_198 : Int32) (v_199 : Int32) (v_200 : Int32) (v_201 : Int32) (v_202 : Int64) (v_203 : Int32) (v_204 : Int32) (g_205 : Nat → Int32) =>
    if 10 < v_196 then (
      let w_319 := F_Te_takeSign t_length v_197 v_198 v_199 v_200 v_201 v_202 v_203 v_204 c_tape 59
      let r_317 : Int32 := w_319.1
      let nw0_309 : Int32 := w_319.2.1
      let nw1_310 : Int32 := w_319.2.2.1
      let nw2_311 : Int32 := w_319.2.2.2.1
      let nw3_312 : Int32 := w_319.2.2.2.2.1
      let nw4_313 : Int32 := w_319.2.2.2.2.2.1
      let nw5_314 : Int64 := w_319.2.2.2.2.2.2.1
      let nw6_315 : Int32 := w_319.2.2.2.2.2.2.2.1
      let nw7_316 : Int32 := w_319.2.2.2.2.2.2.2.2
      (r_317, nw0_309, nw1_310, nw2_311, nw3_312, nw4_313, nw5_314, nw6_315, nw7_316, nw0_68, nw0_72, nw1_73, g_205)) else (
      if v_196 = 0 then (
        let w_328 := F_HR_thing_k t_length v_197 v_198 v_199 v_202 v_203 v_204 c_tape c_n_k hf_keys
        let r_326 : Int32 := w_328.1
        let nw0_324 : Int32 := w_328.2.1
        let nw1_325 : Int32 := w_328.2.2
        if r_326 = (-1) then (
          ((0 : Int32), v_197, v_198, v_199, v_200, v_201, v_202, nw0_324, nw1_325, nw0_68, nw0_72, nw1_73, g_205)) else (
          let w_333 := F_H_unlocks hf_keys nw0_72 g_205 r_326 hf_doors
          let r_331 : Int32 := w_333
          if r_331 = 0 then (
            let w_339 := F_H_addOpener nw0_72 g_205 hf_doors r_326
            let nw0_336 : Nat → Int32 := w_339
            let w_348 := F_Te_advance t_length v_199 v_200 v_201 v_202 c_tape
            let nw0_340 : Int32 := w_348.1
            let nw1_341 : Int32 := w_348.2.1
            let nw2_342 : Int32 := w_348.2.2.1
            let nw3_343 : Int32 := w_348.2.2.2.1
            let nw4_344 : Int32 := w_348.2.2.2.2.1
            let nw5_345 : Int64 := w_348.2.2.2.2.2
            G_L113a (v_196 + 1) nw0_340 nw1_341 nw2_342 nw4_344 nw3_343 nw5_345 nw0_324 nw1_325 nw0_336) else (
            let w_355 := F_Te_refuse v_197 v_198 nw0_324 nw1_325 5
            let r_353 : Int32 := w_355.1
            let nw0_351 : Int32 := w_355.2.1
            let nw1_352 : Int32 := w_355.2.2
            (r_353, v_197, v_198, v_199, v_200, v_201, v_202, nw0_351, nw1_352, nw0_68, nw0_72, nw1_73, g_205)))) else (
        let w_362 := F_Te_isSign v_197 v_201 59
        let r_360 : Int32 := w_362
        if r_360 = 0 then (
          let w_382 := F_HR_thing_k t_length v_197 v_198 v_199 v_202 v_203 v_204 c_tape c_n_k hf_keys
          let r_380 : Int32 := w_382.1
          let nw0_378 : Int32 := w_382.2.1
          let nw1_379 : Int32 := w_382.2.2
          if r_380 = (-1) then (
            ((0 : Int32), v_197, v_198, v_199, v_200, v_201, v_202, nw0_378, nw1_379, nw0_68, nw0_72, nw1_73, g_205)) else (
            let w_387 := F_H_unlocks hf_keys nw0_72 g_205 r_380 hf_doors
            let r_385 : Int32 := w_387
            if r_385 = 0 then (
              let w_393 := F_H_addOpener nw0_72 g_205 hf_doors r_380
              let nw0_390 : Nat → Int32 := w_393
              let w_402 := F_Te_advance t_length v_199 v_200 v_201 v_202 c_tape
              let nw0_394 : Int32 := w_402.1
              let nw1_395 : Int32 := w_402.2.1
              let nw2_396 : Int32 := w_402.2.2.1
              let nw3_397 : Int32 := w_402.2.2.2.1
              let nw4_398 : Int32 := w_402.2.2.2.2.1
              let nw5_399 : Int64 := w_402.2.2.2.2.2
              G_L113a (v_196 + 1) nw0_394 nw1_395 nw2_396 nw4_398 nw3_397 nw5_399 nw0_378 nw1_379 nw0_390) else (
              let w_409 := F_Te_refuse v_197 v_198 nw0_378 nw1_379 5
              let r_407 : Int32 := w_409.1
              let nw0_405 : Int32 := w_409.2.1
              let nw1_406 : Int32 := w_409.2.2
              (r_407, v_197, v_198, v_199, v_200, v_201, v_202, nw0_405, nw1_406, nw0_68, nw0_72, nw1_73, g_205)))) else (
          let w_375 := F_Te_takeSign t_length v_197 v_198 v_199 v_200 v_201 v_202 v_203 v_204 c_tape 59
          let r_373 : Int32 := w_375.1
          let nw0_365 : Int32 := w_375.2.1
          let nw1_366 : Int32 := w_375.2.2.1
          let nw2_367 : Int32 := w_375.2.2.2.1
          let nw3_368 : Int32 := w_375.2.2.2.2.1
          let nw4_369 : Int32 := w_375.2.2.2.2.2.1
          let nw5_370 : Int64 := w_375.2.2.2.2.2.2.1
          let nw6_371 : Int32 := w_375.2.2.2.2.2.2.2.1
          let nw7_372 : Int32 := w_375.2.2.2.2.2.2.2.2
          (r_373, nw0_365, nw1_366, nw2_367, nw3_368, nw4_369, nw5_370, nw6_371, nw7_372, nw0_68, nw0_72, nw1_73, g_205))))) k9
theorem F_Ho_readDoor_L113a_s (t_length : Int32) (c_tape : Nat → Int32) (c_n_k : Nat → Int64) (hf_keys : Int32) (hf_doors : Int32) (nw0_68 : Nat → Int64) (nw0_72 : Int32) (nw1_73 : Nat → Int32) (n9 : Nat) (v_196 : Int32) (v_197 : Int32) (v_198 : Int32) (v_199 : Int32) (v_200 : Int32) (v_201 : Int32) (v_202 : Int64) (v_203 : Int32) (v_204 : Int32) (g_205 : Nat → Int32) : F_Ho_readDoor_L113a t_length c_tape c_n_k hf_keys hf_doors nw0_68 nw0_72 nw1_73 (n9 + 1) v_196 v_197 v_198 v_199 v_200 v_201 v_202 v_203 v_204 g_205 = (
    if 10 < v_196 then (
      let w_319 := F_Te_takeSign t_length v_197 v_198 v_199 v_200 v_201 v_202 v_203 v_204 c_tape 59
      let r_317 : Int32 := w_319.1
      let nw0_309 : Int32 := w_319.2.1
      let nw1_310 : Int32 := w_319.2.2.1
      let nw2_311 : Int32 := w_319.2.2.2.1
      let nw3_312 : Int32 := w_319.2.2.2.2.1
      let nw4_313 : Int32 := w_319.2.2.2.2.2.1
      let nw5_314 : Int64 := w_319.2.2.2.2.2.2.1
      let nw6_315 : Int32 := w_319.2.2.2.2.2.2.2.1
      let nw7_316 : Int32 := w_319.2.2.2.2.2.2.2.2
      (r_317, nw0_309, nw1_310, nw2_311, nw3_312, nw4_313, nw5_314, nw6_315, nw7_316, nw0_68, nw0_72, nw1_73, g_205)) else (
      if v_196 = 0 then (
        let w_328 := F_HR_thing_k t_length v_197 v_198 v_199 v_202 v_203 v_204 c_tape c_n_k hf_keys
        let r_326 : Int32 := w_328.1
        let nw0_324 : Int32 := w_328.2.1
        let nw1_325 : Int32 := w_328.2.2
        if r_326 = (-1) then (
          ((0 : Int32), v_197, v_198, v_199, v_200, v_201, v_202, nw0_324, nw1_325, nw0_68, nw0_72, nw1_73, g_205)) else (
          let w_333 := F_H_unlocks hf_keys nw0_72 g_205 r_326 hf_doors
          let r_331 : Int32 := w_333
          if r_331 = 0 then (
            let w_339 := F_H_addOpener nw0_72 g_205 hf_doors r_326
            let nw0_336 : Nat → Int32 := w_339
            let w_348 := F_Te_advance t_length v_199 v_200 v_201 v_202 c_tape
            let nw0_340 : Int32 := w_348.1
            let nw1_341 : Int32 := w_348.2.1
            let nw2_342 : Int32 := w_348.2.2.1
            let nw3_343 : Int32 := w_348.2.2.2.1
            let nw4_344 : Int32 := w_348.2.2.2.2.1
            let nw5_345 : Int64 := w_348.2.2.2.2.2
            (F_Ho_readDoor_L113a t_length c_tape c_n_k hf_keys hf_doors nw0_68 nw0_72 nw1_73 n9) (v_196 + 1) nw0_340 nw1_341 nw2_342 nw4_344 nw3_343 nw5_345 nw0_324 nw1_325 nw0_336) else (
            let w_355 := F_Te_refuse v_197 v_198 nw0_324 nw1_325 5
            let r_353 : Int32 := w_355.1
            let nw0_351 : Int32 := w_355.2.1
            let nw1_352 : Int32 := w_355.2.2
            (r_353, v_197, v_198, v_199, v_200, v_201, v_202, nw0_351, nw1_352, nw0_68, nw0_72, nw1_73, g_205)))) else (
        let w_362 := F_Te_isSign v_197 v_201 59
        let r_360 : Int32 := w_362
        if r_360 = 0 then (
          let w_382 := F_HR_thing_k t_length v_197 v_198 v_199 v_202 v_203 v_204 c_tape c_n_k hf_keys
          let r_380 : Int32 := w_382.1
          let nw0_378 : Int32 := w_382.2.1
          let nw1_379 : Int32 := w_382.2.2
          if r_380 = (-1) then (
            ((0 : Int32), v_197, v_198, v_199, v_200, v_201, v_202, nw0_378, nw1_379, nw0_68, nw0_72, nw1_73, g_205)) else (
            let w_387 := F_H_unlocks hf_keys nw0_72 g_205 r_380 hf_doors
            let r_385 : Int32 := w_387
            if r_385 = 0 then (
              let w_393 := F_H_addOpener nw0_72 g_205 hf_doors r_380
              let nw0_390 : Nat → Int32 := w_393
              let w_402 := F_Te_advance t_length v_199 v_200 v_201 v_202 c_tape
              let nw0_394 : Int32 := w_402.1
              let nw1_395 : Int32 := w_402.2.1
              let nw2_396 : Int32 := w_402.2.2.1
              let nw3_397 : Int32 := w_402.2.2.2.1
              let nw4_398 : Int32 := w_402.2.2.2.2.1
              let nw5_399 : Int64 := w_402.2.2.2.2.2
              (F_Ho_readDoor_L113a t_length c_tape c_n_k hf_keys hf_doors nw0_68 nw0_72 nw1_73 n9) (v_196 + 1) nw0_394 nw1_395 nw2_396 nw4_398 nw3_397 nw5_399 nw0_378 nw1_379 nw0_390) else (
              let w_409 := F_Te_refuse v_197 v_198 nw0_378 nw1_379 5
              let r_407 : Int32 := w_409.1
              let nw0_405 : Int32 := w_409.2.1
              let nw1_406 : Int32 := w_409.2.2
              (r_407, v_197, v_198, v_199, v_200, v_201, v_202, nw0_405, nw1_406, nw0_68, nw0_72, nw1_73, g_205)))) else (
          let w_375 := F_Te_takeSign t_length v_197 v_198 v_199 v_200 v_201 v_202 v_203 v_204 c_tape 59
          let r_373 : Int32 := w_375.1
          let nw0_365 : Int32 := w_375.2.1
          let nw1_366 : Int32 := w_375.2.2.1
          let nw2_367 : Int32 := w_375.2.2.2.1
          let nw3_368 : Int32 := w_375.2.2.2.2.1
          let nw4_369 : Int32 := w_375.2.2.2.2.2.1
          let nw5_370 : Int64 := w_375.2.2.2.2.2.2.1
          let nw6_371 : Int32 := w_375.2.2.2.2.2.2.2.1
          let nw7_372 : Int32 := w_375.2.2.2.2.2.2.2.2
          (r_373, nw0_365, nw1_366, nw2_367, nw3_368, nw4_369, nw5_370, nw6_371, nw7_372, nw0_68, nw0_72, nw1_73, g_205))))) := rfl
noncomputable def F_Ho_readDoor (t_length : Int32) (t_kind : Int32) (t_start : Int32) (t_end : Int32) (t_number : Int32) (t_sign : Int32) (t_letters : Int64) (t_fault : Int32) (t_faultPlace : Int32) (c_tape : Nat → Int32) (c_n_f : Nat → Int64) (c_n_k : Nat → Int64) (c_n_r : Nat → Int64) (c_n_d : Nat → Int64) (hf_features : Int32) (hf_keys : Int32) (hf_rings : Int32) (hf_doors : Int32) (c_hf_wanted : Nat → Int32) (c_hf_openers : Nat → Int32) : Int32 × Int32 × Int32 × Int32 × Int32 × Int32 × Int64 × Int32 × Int32 × (Nat → Int64) × Int32 × (Nat → Int32) × (Nat → Int32) :=
  if hf_doors < 5 then (
    let w_11 := F_Te_advance t_length t_end t_number t_sign t_letters c_tape
    let nw0_3 : Int32 := w_11.1
    let nw1_4 : Int32 := w_11.2.1
    let nw2_5 : Int32 := w_11.2.2.1
    let nw3_6 : Int32 := w_11.2.2.2.1
    let nw4_7 : Int32 := w_11.2.2.2.2.1
    let nw5_8 : Int64 := w_11.2.2.2.2.2
    let w_22 := F_Ho_takeNewName t_length nw0_3 nw1_4 nw2_5 nw4_7 nw3_6 nw5_8 t_fault t_faultPlace c_tape c_n_f c_n_k c_n_r c_n_d hf_features hf_keys hf_rings hf_doors
    let r_20 : Int64 := w_22.1
    let nw0_12 : Int32 := w_22.2.1
    let nw1_13 : Int32 := w_22.2.2.1
    let nw2_14 : Int32 := w_22.2.2.2.1
    let nw3_15 : Int32 := w_22.2.2.2.2.1
    let nw4_16 : Int32 := w_22.2.2.2.2.2.1
    let nw5_17 : Int64 := w_22.2.2.2.2.2.2.1
    let nw6_18 : Int32 := w_22.2.2.2.2.2.2.2.1
    let nw7_19 : Int32 := w_22.2.2.2.2.2.2.2.2
    if (lg_cmp r_20 0) = 0 then (
      ((0 : Int32), nw0_12, nw1_13, nw2_14, nw3_15, nw4_16, nw5_17, nw6_18, nw7_19, c_n_d, hf_doors, c_hf_wanted, c_hf_openers)) else (
      let w_37 := F_Te_takeWord t_length nw0_12 nw1_13 nw2_14 nw3_15 nw4_16 nw5_17 nw6_18 nw7_19 c_tape 22
      let r_35 : Int32 := w_37.1
      let nw0_27 : Int32 := w_37.2.1
      let nw1_28 : Int32 := w_37.2.2.1
      let nw2_29 : Int32 := w_37.2.2.2.1
      let nw3_30 : Int32 := w_37.2.2.2.2.1
      let nw4_31 : Int32 := w_37.2.2.2.2.2.1
      let nw5_32 : Int64 := w_37.2.2.2.2.2.2.1
      let nw6_33 : Int32 := w_37.2.2.2.2.2.2.2.1
      let nw7_34 : Int32 := w_37.2.2.2.2.2.2.2.2
      if r_35 = 0 then (
        ((0 : Int32), nw0_27, nw1_28, nw2_29, nw3_30, nw4_31, nw5_32, nw6_33, nw7_34, c_n_d, hf_doors, c_hf_wanted, c_hf_openers)) else (
        let w_50 := F_Te_takeNumber t_length nw0_27 nw1_28 nw2_29 nw3_30 nw4_31 nw5_32 nw6_33 nw7_34 c_tape 0 99
        let r_48 : Int32 := w_50.1
        let nw0_40 : Int32 := w_50.2.1
        let nw1_41 : Int32 := w_50.2.2.1
        let nw2_42 : Int32 := w_50.2.2.2.1
        let nw3_43 : Int32 := w_50.2.2.2.2.1
        let nw4_44 : Int32 := w_50.2.2.2.2.2.1
        let nw5_45 : Int32 := w_50.2.2.2.2.2.2.1
        let nw6_46 : Int32 := w_50.2.2.2.2.2.2.2.1
        let nw7_47 : Int64 := w_50.2.2.2.2.2.2.2.2
        if r_48 = (-1) then (
          ((0 : Int32), nw2_42, nw3_43, nw4_44, nw5_45, nw6_46, nw7_47, nw0_40, nw1_41, c_n_d, hf_doors, c_hf_wanted, c_hf_openers)) else (
          let w_65 := F_Te_takeWord t_length nw2_42 nw3_43 nw4_44 nw5_45 nw6_46 nw7_47 nw0_40 nw1_41 c_tape 23
          let r_63 : Int32 := w_65.1
          let nw0_55 : Int32 := w_65.2.1
          let nw1_56 : Int32 := w_65.2.2.1
          let nw2_57 : Int32 := w_65.2.2.2.1
          let nw3_58 : Int32 := w_65.2.2.2.2.1
          let nw4_59 : Int32 := w_65.2.2.2.2.2.1
          let nw5_60 : Int64 := w_65.2.2.2.2.2.2.1
          let nw6_61 : Int32 := w_65.2.2.2.2.2.2.2.1
          let nw7_62 : Int32 := w_65.2.2.2.2.2.2.2.2
          if r_63 = 0 then (
            ((0 : Int32), nw0_55, nw1_56, nw2_57, nw3_58, nw4_59, nw5_60, nw6_61, nw7_62, c_n_d, hf_doors, c_hf_wanted, c_hf_openers)) else (
            let w_71 := F_keepLongAt_5 c_n_d hf_doors r_20
            let nw0_68 : Nat → Int64 := w_71
            let w_77 := F_H_addDoor hf_doors c_hf_wanted c_hf_openers r_48
            let nw0_72 : Int32 := w_77.1
            let nw1_73 : Nat → Int32 := w_77.2.1
            let nw2_74 : Nat → Int32 := w_77.2.2
            F_Ho_readDoor_L113a t_length c_tape c_n_k hf_keys hf_doors nw0_68 nw0_72 nw1_73 ((2147483647 - (0 : Int32).toInt).toNat + 1) (0 : Int32) nw0_55 nw1_56 nw2_57 nw3_58 nw4_59 nw5_60 nw6_61 nw7_62 nw2_74))))) else (
    let w_423 := F_Te_refuse t_kind t_start t_fault t_faultPlace 6
    let r_421 : Int32 := w_423.1
    let nw0_419 : Int32 := w_423.2.1
    let nw1_420 : Int32 := w_423.2.2
    (r_421, t_kind, t_start, t_end, t_number, t_sign, t_letters, nw0_419, nw1_420, c_n_d, hf_doors, c_hf_wanted, c_hf_openers))
theorem F_Ho_readDoor_s (t_length : Int32) (t_kind : Int32) (t_start : Int32) (t_end : Int32) (t_number : Int32) (t_sign : Int32) (t_letters : Int64) (t_fault : Int32) (t_faultPlace : Int32) (c_tape : Nat → Int32) (c_n_f : Nat → Int64) (c_n_k : Nat → Int64) (c_n_r : Nat → Int64) (c_n_d : Nat → Int64) (hf_features : Int32) (hf_keys : Int32) (hf_rings : Int32) (hf_doors : Int32) (c_hf_wanted : Nat → Int32) (c_hf_openers : Nat → Int32) : F_Ho_readDoor t_length t_kind t_start t_end t_number t_sign t_letters t_fault t_faultPlace c_tape c_n_f c_n_k c_n_r c_n_d hf_features hf_keys hf_rings hf_doors c_hf_wanted c_hf_openers = (
  if hf_doors < 5 then (
    let w_11 := F_Te_advance t_length t_end t_number t_sign t_letters c_tape
    let nw0_3 : Int32 := w_11.1
    let nw1_4 : Int32 := w_11.2.1
    let nw2_5 : Int32 := w_11.2.2.1
    let nw3_6 : Int32 := w_11.2.2.2.1
    let nw4_7 : Int32 := w_11.2.2.2.2.1
    let nw5_8 : Int64 := w_11.2.2.2.2.2
    let w_22 := F_Ho_takeNewName t_length nw0_3 nw1_4 nw2_5 nw4_7 nw3_6 nw5_8 t_fault t_faultPlace c_tape c_n_f c_n_k c_n_r c_n_d hf_features hf_keys hf_rings hf_doors
    let r_20 : Int64 := w_22.1
    let nw0_12 : Int32 := w_22.2.1
    let nw1_13 : Int32 := w_22.2.2.1
    let nw2_14 : Int32 := w_22.2.2.2.1
    let nw3_15 : Int32 := w_22.2.2.2.2.1
    let nw4_16 : Int32 := w_22.2.2.2.2.2.1
    let nw5_17 : Int64 := w_22.2.2.2.2.2.2.1
    let nw6_18 : Int32 := w_22.2.2.2.2.2.2.2.1
    let nw7_19 : Int32 := w_22.2.2.2.2.2.2.2.2
    if (lg_cmp r_20 0) = 0 then (
      ((0 : Int32), nw0_12, nw1_13, nw2_14, nw3_15, nw4_16, nw5_17, nw6_18, nw7_19, c_n_d, hf_doors, c_hf_wanted, c_hf_openers)) else (
      let w_37 := F_Te_takeWord t_length nw0_12 nw1_13 nw2_14 nw3_15 nw4_16 nw5_17 nw6_18 nw7_19 c_tape 22
      let r_35 : Int32 := w_37.1
      let nw0_27 : Int32 := w_37.2.1
      let nw1_28 : Int32 := w_37.2.2.1
      let nw2_29 : Int32 := w_37.2.2.2.1
      let nw3_30 : Int32 := w_37.2.2.2.2.1
      let nw4_31 : Int32 := w_37.2.2.2.2.2.1
      let nw5_32 : Int64 := w_37.2.2.2.2.2.2.1
      let nw6_33 : Int32 := w_37.2.2.2.2.2.2.2.1
      let nw7_34 : Int32 := w_37.2.2.2.2.2.2.2.2
      if r_35 = 0 then (
        ((0 : Int32), nw0_27, nw1_28, nw2_29, nw3_30, nw4_31, nw5_32, nw6_33, nw7_34, c_n_d, hf_doors, c_hf_wanted, c_hf_openers)) else (
        let w_50 := F_Te_takeNumber t_length nw0_27 nw1_28 nw2_29 nw3_30 nw4_31 nw5_32 nw6_33 nw7_34 c_tape 0 99
        let r_48 : Int32 := w_50.1
        let nw0_40 : Int32 := w_50.2.1
        let nw1_41 : Int32 := w_50.2.2.1
        let nw2_42 : Int32 := w_50.2.2.2.1
        let nw3_43 : Int32 := w_50.2.2.2.2.1
        let nw4_44 : Int32 := w_50.2.2.2.2.2.1
        let nw5_45 : Int32 := w_50.2.2.2.2.2.2.1
        let nw6_46 : Int32 := w_50.2.2.2.2.2.2.2.1
        let nw7_47 : Int64 := w_50.2.2.2.2.2.2.2.2
        if r_48 = (-1) then (
          ((0 : Int32), nw2_42, nw3_43, nw4_44, nw5_45, nw6_46, nw7_47, nw0_40, nw1_41, c_n_d, hf_doors, c_hf_wanted, c_hf_openers)) else (
          let w_65 := F_Te_takeWord t_length nw2_42 nw3_43 nw4_44 nw5_45 nw6_46 nw7_47 nw0_40 nw1_41 c_tape 23
          let r_63 : Int32 := w_65.1
          let nw0_55 : Int32 := w_65.2.1
          let nw1_56 : Int32 := w_65.2.2.1
          let nw2_57 : Int32 := w_65.2.2.2.1
          let nw3_58 : Int32 := w_65.2.2.2.2.1
          let nw4_59 : Int32 := w_65.2.2.2.2.2.1
          let nw5_60 : Int64 := w_65.2.2.2.2.2.2.1
          let nw6_61 : Int32 := w_65.2.2.2.2.2.2.2.1
          let nw7_62 : Int32 := w_65.2.2.2.2.2.2.2.2
          if r_63 = 0 then (
            ((0 : Int32), nw0_55, nw1_56, nw2_57, nw3_58, nw4_59, nw5_60, nw6_61, nw7_62, c_n_d, hf_doors, c_hf_wanted, c_hf_openers)) else (
            let w_71 := F_keepLongAt_5 c_n_d hf_doors r_20
            let nw0_68 : Nat → Int64 := w_71
            let w_77 := F_H_addDoor hf_doors c_hf_wanted c_hf_openers r_48
            let nw0_72 : Int32 := w_77.1
            let nw1_73 : Nat → Int32 := w_77.2.1
            let nw2_74 : Nat → Int32 := w_77.2.2
            F_Ho_readDoor_L113a t_length c_tape c_n_k hf_keys hf_doors nw0_68 nw0_72 nw1_73 ((2147483647 - (0 : Int32).toInt).toNat + 1) (0 : Int32) nw0_55 nw1_56 nw2_57 nw3_58 nw4_59 nw5_60 nw6_61 nw7_62 nw2_74))))) else (
    let w_423 := F_Te_refuse t_kind t_start t_fault t_faultPlace 6
    let r_421 : Int32 := w_423.1
    let nw0_419 : Int32 := w_423.2.1
    let nw1_420 : Int32 := w_423.2.2
    (r_421, t_kind, t_start, t_end, t_number, t_sign, t_letters, nw0_419, nw1_420, c_n_d, hf_doors, c_hf_wanted, c_hf_openers))) := rfl
noncomputable def F_Ho_readTurned (hr_turnedTold : Int32) (t_length : Int32) (t_kind : Int32) (t_start : Int32) (t_end : Int32) (t_number : Int32) (t_sign : Int32) (t_letters : Int64) (t_fault : Int32) (t_faultPlace : Int32) (c_tape : Nat → Int32) (hf_turned : Int32) : Int32 × Int32 × Int32 × Int32 × Int32 × Int32 × Int32 × Int64 × Int32 × Int32 × Int32 :=
  if hr_turnedTold = 0 then (
    let w_11 := F_Te_advance t_length t_end t_number t_sign t_letters c_tape
    let nw0_3 : Int32 := w_11.1
    let nw1_4 : Int32 := w_11.2.1
    let nw2_5 : Int32 := w_11.2.2.1
    let nw3_6 : Int32 := w_11.2.2.2.1
    let nw4_7 : Int32 := w_11.2.2.2.2.1
    let nw5_8 : Int64 := w_11.2.2.2.2.2
    let w_22 := F_Te_takeNumber t_length nw0_3 nw1_4 nw2_5 nw4_7 nw3_6 nw5_8 t_fault t_faultPlace c_tape 0 16
    let r_20 : Int32 := w_22.1
    let nw0_12 : Int32 := w_22.2.1
    let nw1_13 : Int32 := w_22.2.2.1
    let nw2_14 : Int32 := w_22.2.2.2.1
    let nw3_15 : Int32 := w_22.2.2.2.2.1
    let nw4_16 : Int32 := w_22.2.2.2.2.2.1
    let nw5_17 : Int32 := w_22.2.2.2.2.2.2.1
    let nw6_18 : Int32 := w_22.2.2.2.2.2.2.2.1
    let nw7_19 : Int64 := w_22.2.2.2.2.2.2.2.2
    if r_20 = (-1) then (
      ((0 : Int32), (1 : Int32), nw2_14, nw3_15, nw4_16, nw5_17, nw6_18, nw7_19, nw0_12, nw1_13, hf_turned)) else (
      let w_35 := F_Te_takeSign t_length nw2_14 nw3_15 nw4_16 nw5_17 nw6_18 nw7_19 nw0_12 nw1_13 c_tape 59
      let r_33 : Int32 := w_35.1
      let nw0_25 : Int32 := w_35.2.1
      let nw1_26 : Int32 := w_35.2.2.1
      let nw2_27 : Int32 := w_35.2.2.2.1
      let nw3_28 : Int32 := w_35.2.2.2.2.1
      let nw4_29 : Int32 := w_35.2.2.2.2.2.1
      let nw5_30 : Int64 := w_35.2.2.2.2.2.2.1
      let nw6_31 : Int32 := w_35.2.2.2.2.2.2.2.1
      let nw7_32 : Int32 := w_35.2.2.2.2.2.2.2.2
      (r_33, (1 : Int32), nw0_25, nw1_26, nw2_27, nw3_28, nw4_29, nw5_30, nw6_31, nw7_32, r_20))) else (
    let w_44 := F_Te_refuse t_kind t_start t_fault t_faultPlace 5
    let r_42 : Int32 := w_44.1
    let nw0_40 : Int32 := w_44.2.1
    let nw1_41 : Int32 := w_44.2.2
    (r_42, hr_turnedTold, t_kind, t_start, t_end, t_number, t_sign, t_letters, nw0_40, nw1_41, hf_turned))
theorem F_Ho_readTurned_s (hr_turnedTold : Int32) (t_length : Int32) (t_kind : Int32) (t_start : Int32) (t_end : Int32) (t_number : Int32) (t_sign : Int32) (t_letters : Int64) (t_fault : Int32) (t_faultPlace : Int32) (c_tape : Nat → Int32) (hf_turned : Int32) : F_Ho_readTurned hr_turnedTold t_length t_kind t_start t_end t_number t_sign t_letters t_fault t_faultPlace c_tape hf_turned = (
  if hr_turnedTold = 0 then (
    let w_11 := F_Te_advance t_length t_end t_number t_sign t_letters c_tape
    let nw0_3 : Int32 := w_11.1
    let nw1_4 : Int32 := w_11.2.1
    let nw2_5 : Int32 := w_11.2.2.1
    let nw3_6 : Int32 := w_11.2.2.2.1
    let nw4_7 : Int32 := w_11.2.2.2.2.1
    let nw5_8 : Int64 := w_11.2.2.2.2.2
    let w_22 := F_Te_takeNumber t_length nw0_3 nw1_4 nw2_5 nw4_7 nw3_6 nw5_8 t_fault t_faultPlace c_tape 0 16
    let r_20 : Int32 := w_22.1
    let nw0_12 : Int32 := w_22.2.1
    let nw1_13 : Int32 := w_22.2.2.1
    let nw2_14 : Int32 := w_22.2.2.2.1
    let nw3_15 : Int32 := w_22.2.2.2.2.1
    let nw4_16 : Int32 := w_22.2.2.2.2.2.1
    let nw5_17 : Int32 := w_22.2.2.2.2.2.2.1
    let nw6_18 : Int32 := w_22.2.2.2.2.2.2.2.1
    let nw7_19 : Int64 := w_22.2.2.2.2.2.2.2.2
    if r_20 = (-1) then (
      ((0 : Int32), (1 : Int32), nw2_14, nw3_15, nw4_16, nw5_17, nw6_18, nw7_19, nw0_12, nw1_13, hf_turned)) else (
      let w_35 := F_Te_takeSign t_length nw2_14 nw3_15 nw4_16 nw5_17 nw6_18 nw7_19 nw0_12 nw1_13 c_tape 59
      let r_33 : Int32 := w_35.1
      let nw0_25 : Int32 := w_35.2.1
      let nw1_26 : Int32 := w_35.2.2.1
      let nw2_27 : Int32 := w_35.2.2.2.1
      let nw3_28 : Int32 := w_35.2.2.2.2.1
      let nw4_29 : Int32 := w_35.2.2.2.2.2.1
      let nw5_30 : Int64 := w_35.2.2.2.2.2.2.1
      let nw6_31 : Int32 := w_35.2.2.2.2.2.2.2.1
      let nw7_32 : Int32 := w_35.2.2.2.2.2.2.2.2
      (r_33, (1 : Int32), nw0_25, nw1_26, nw2_27, nw3_28, nw4_29, nw5_30, nw6_31, nw7_32, r_20))) else (
    let w_44 := F_Te_refuse t_kind t_start t_fault t_faultPlace 5
    let r_42 : Int32 := w_44.1
    let nw0_40 : Int32 := w_44.2.1
    let nw1_41 : Int32 := w_44.2.2
    (r_42, hr_turnedTold, t_kind, t_start, t_end, t_number, t_sign, t_letters, nw0_40, nw1_41, hf_turned))) := rfl
noncomputable def F_Ho_readRound_L28a (t_length : Int32) (c_tape : Nat → Int32) (c_n_d : Nat → Int64) (hf_doors : Int32) : Nat → Int32 → Int32 → (Nat → Int32) → Int32 → Int32 → Int32 → Int32 → Int32 → Int64 → Int32 → Int32 → (Int32 × Int32 × Int32 × Int32 × Int32 × Int32 × Int64 × Int32 × Int32 × Int32 × (Nat → Int32)) := fun k9 => Nat.rec (motive := fun _ => Int32 → Int32 → (Nat → Int32) → Int32 → Int32 → Int32 → Int32 → Int32 → Int64 → Int32 → Int32 → (Int32 × Int32 × Int32 × Int32 × Int32 × Int32 × Int64 × Int32 × Int32 × Int32 × (Nat → Int32))) (fun _ _ _ _ _ _ _ _ _ _ _ => default) (fun _ (G_L28a : Int32 → Int32 → (Nat → Int32) → Int32 → Int32 → Int32 → Int32 → Int32 → Int64 → Int32 → Int32 → (Int32 × Int32 × Int32 × Int32 × Int32 × Int32 × Int64 × Int32 × Int32 × Int32 × (Nat → Int32))) => fun (v_117 : Int32) (v_118 : Int32) (g_119 : Nat → Int32) (v_120 : Int32) (v_121 : Int32) (v_122 : Int32) (v_123 : Int32) (v_124 : Int32) (v_125 : Int64) (v_126 : Int32) (v_127 : Int32) =>
    if 12 < v_117 then (
      let w_237 := F_Te_takeSign t_length v_120 v_121 v_122 v_123 v_124 v_125 v_126 v_127 c_tape 59
      let r_235 : Int32 := w_237.1
      let nw0_227 : Int32 := w_237.2.1
      let nw1_228 : Int32 := w_237.2.2.1
      let nw2_229 : Int32 := w_237.2.2.2.1
      let nw3_230 : Int32 := w_237.2.2.2.2.1
      let nw4_231 : Int32 := w_237.2.2.2.2.2.1
      let nw5_232 : Int64 := w_237.2.2.2.2.2.2.1
      let nw6_233 : Int32 := w_237.2.2.2.2.2.2.2.1
      let nw7_234 : Int32 := w_237.2.2.2.2.2.2.2.2
      (r_235, nw0_227, nw1_228, nw2_229, nw3_230, nw4_231, nw5_232, nw6_233, nw7_234, v_118, g_119)) else (
      if v_117 = 0 then (
        let w_246 := F_HR_thing_d t_length v_120 v_121 v_122 v_125 v_126 v_127 c_tape c_n_d hf_doors
        let r_244 : Int32 := w_246.1
        let nw0_242 : Int32 := w_246.2.1
        let nw1_243 : Int32 := w_246.2.2
        if r_244 = (-1) then (
          ((0 : Int32), v_120, v_121, v_122, v_123, v_124, v_125, nw0_242, nw1_243, v_118, g_119)) else (
          if v_117 < 12 then (
            let w_255 := F_H_addToRound v_118 g_119 r_244
            let nw0_251 : Int32 := w_255.1
            let nw1_252 : Nat → Int32 := w_255.2
            let w_264 := F_Te_advance t_length v_122 v_123 v_124 v_125 c_tape
            let nw0_256 : Int32 := w_264.1
            let nw1_257 : Int32 := w_264.2.1
            let nw2_258 : Int32 := w_264.2.2.1
            let nw3_259 : Int32 := w_264.2.2.2.1
            let nw4_260 : Int32 := w_264.2.2.2.2.1
            let nw5_261 : Int64 := w_264.2.2.2.2.2
            G_L28a (v_117 + 1) nw0_251 nw1_252 nw0_256 nw1_257 nw2_258 nw4_260 nw3_259 nw5_261 nw0_242 nw1_243) else (
            let w_271 := F_Te_refuse v_120 v_121 nw0_242 nw1_243 6
            let r_269 : Int32 := w_271.1
            let nw0_267 : Int32 := w_271.2.1
            let nw1_268 : Int32 := w_271.2.2
            (r_269, v_120, v_121, v_122, v_123, v_124, v_125, nw0_267, nw1_268, v_118, g_119)))) else (
        let w_278 := F_Te_isSign v_120 v_124 59
        let r_276 : Int32 := w_278
        if r_276 = 0 then (
          let w_298 := F_HR_thing_d t_length v_120 v_121 v_122 v_125 v_126 v_127 c_tape c_n_d hf_doors
          let r_296 : Int32 := w_298.1
          let nw0_294 : Int32 := w_298.2.1
          let nw1_295 : Int32 := w_298.2.2
          if r_296 = (-1) then (
            ((0 : Int32), v_120, v_121, v_122, v_123, v_124, v_125, nw0_294, nw1_295, v_118, g_119)) else (
            if v_117 < 12 then (
              let w_307 := F_H_addToRound v_118 g_119 r_296
              let nw0_303 : Int32 := w_307.1
              let nw1_304 : Nat → Int32 := w_307.2
              let w_316 := F_Te_advance t_length v_122 v_123 v_124 v_125 c_tape
              let nw0_308 : Int32 := w_316.1
              let nw1_309 : Int32 := w_316.2.1
              let nw2_310 : Int32 := w_316.2.2.1
              let nw3_311 : Int32 := w_316.2.2.2.1
              let nw4_312 : Int32 := w_316.2.2.2.2.1
              let nw5_313 : Int64 := w_316.2.2.2.2.2
              G_L28a (v_117 + 1) nw0_303 nw1_304 nw0_308 nw1_309 nw2_310 nw4_312 nw3_311 nw5_313 nw0_294 nw1_295) else (
              let w_323 := F_Te_refuse v_120 v_121 nw0_294 nw1_295 6
              let r_321 : Int32 := w_323.1
              let nw0_319 : Int32 := w_323.2.1
              let nw1_320 : Int32 := w_323.2.2
              (r_321, v_120, v_121, v_122, v_123, v_124, v_125, nw0_319, nw1_320, v_118, g_119)))) else (
          let w_291 := F_Te_takeSign t_length v_120 v_121 v_122 v_123 v_124 v_125 v_126 v_127 c_tape 59
          let r_289 : Int32 := w_291.1
          let nw0_281 : Int32 := w_291.2.1
          let nw1_282 : Int32 := w_291.2.2.1
          let nw2_283 : Int32 := w_291.2.2.2.1
          let nw3_284 : Int32 := w_291.2.2.2.2.1
          let nw4_285 : Int32 := w_291.2.2.2.2.2.1
          let nw5_286 : Int64 := w_291.2.2.2.2.2.2.1
          let nw6_287 : Int32 := w_291.2.2.2.2.2.2.2.1
          let nw7_288 : Int32 := w_291.2.2.2.2.2.2.2.2
          (r_289, nw0_281, nw1_282, nw2_283, nw3_284, nw4_285, nw5_286, nw6_287, nw7_288, v_118, g_119))))) k9
theorem F_Ho_readRound_L28a_s (t_length : Int32) (c_tape : Nat → Int32) (c_n_d : Nat → Int64) (hf_doors : Int32) (n9 : Nat) (v_117 : Int32) (v_118 : Int32) (g_119 : Nat → Int32) (v_120 : Int32) (v_121 : Int32) (v_122 : Int32) (v_123 : Int32) (v_124 : Int32) (v_125 : Int64) (v_126 : Int32) (v_127 : Int32) : F_Ho_readRound_L28a t_length c_tape c_n_d hf_doors (n9 + 1) v_117 v_118 g_119 v_120 v_121 v_122 v_123 v_124 v_125 v_126 v_127 = (
    if 12 < v_117 then (
      let w_237 := F_Te_takeSign t_length v_120 v_121 v_122 v_123 v_124 v_125 v_126 v_127 c_tape 59
      let r_235 : Int32 := w_237.1
      let nw0_227 : Int32 := w_237.2.1
      let nw1_228 : Int32 := w_237.2.2.1
      let nw2_229 : Int32 := w_237.2.2.2.1
      let nw3_230 : Int32 := w_237.2.2.2.2.1
      let nw4_231 : Int32 := w_237.2.2.2.2.2.1
      let nw5_232 : Int64 := w_237.2.2.2.2.2.2.1
      let nw6_233 : Int32 := w_237.2.2.2.2.2.2.2.1
      let nw7_234 : Int32 := w_237.2.2.2.2.2.2.2.2
      (r_235, nw0_227, nw1_228, nw2_229, nw3_230, nw4_231, nw5_232, nw6_233, nw7_234, v_118, g_119)) else (
      if v_117 = 0 then (
        let w_246 := F_HR_thing_d t_length v_120 v_121 v_122 v_125 v_126 v_127 c_tape c_n_d hf_doors
        let r_244 : Int32 := w_246.1
        let nw0_242 : Int32 := w_246.2.1
        let nw1_243 : Int32 := w_246.2.2
        if r_244 = (-1) then (
          ((0 : Int32), v_120, v_121, v_122, v_123, v_124, v_125, nw0_242, nw1_243, v_118, g_119)) else (
          if v_117 < 12 then (
            let w_255 := F_H_addToRound v_118 g_119 r_244
            let nw0_251 : Int32 := w_255.1
            let nw1_252 : Nat → Int32 := w_255.2
            let w_264 := F_Te_advance t_length v_122 v_123 v_124 v_125 c_tape
            let nw0_256 : Int32 := w_264.1
            let nw1_257 : Int32 := w_264.2.1
            let nw2_258 : Int32 := w_264.2.2.1
            let nw3_259 : Int32 := w_264.2.2.2.1
            let nw4_260 : Int32 := w_264.2.2.2.2.1
            let nw5_261 : Int64 := w_264.2.2.2.2.2
            (F_Ho_readRound_L28a t_length c_tape c_n_d hf_doors n9) (v_117 + 1) nw0_251 nw1_252 nw0_256 nw1_257 nw2_258 nw4_260 nw3_259 nw5_261 nw0_242 nw1_243) else (
            let w_271 := F_Te_refuse v_120 v_121 nw0_242 nw1_243 6
            let r_269 : Int32 := w_271.1
            let nw0_267 : Int32 := w_271.2.1
            let nw1_268 : Int32 := w_271.2.2
            (r_269, v_120, v_121, v_122, v_123, v_124, v_125, nw0_267, nw1_268, v_118, g_119)))) else (
        let w_278 := F_Te_isSign v_120 v_124 59
        let r_276 : Int32 := w_278
        if r_276 = 0 then (
          let w_298 := F_HR_thing_d t_length v_120 v_121 v_122 v_125 v_126 v_127 c_tape c_n_d hf_doors
          let r_296 : Int32 := w_298.1
          let nw0_294 : Int32 := w_298.2.1
          let nw1_295 : Int32 := w_298.2.2
          if r_296 = (-1) then (
            ((0 : Int32), v_120, v_121, v_122, v_123, v_124, v_125, nw0_294, nw1_295, v_118, g_119)) else (
            if v_117 < 12 then (
              let w_307 := F_H_addToRound v_118 g_119 r_296
              let nw0_303 : Int32 := w_307.1
              let nw1_304 : Nat → Int32 := w_307.2
              let w_316 := F_Te_advance t_length v_122 v_123 v_124 v_125 c_tape
              let nw0_308 : Int32 := w_316.1
              let nw1_309 : Int32 := w_316.2.1
              let nw2_310 : Int32 := w_316.2.2.1
              let nw3_311 : Int32 := w_316.2.2.2.1
              let nw4_312 : Int32 := w_316.2.2.2.2.1
              let nw5_313 : Int64 := w_316.2.2.2.2.2
              (F_Ho_readRound_L28a t_length c_tape c_n_d hf_doors n9) (v_117 + 1) nw0_303 nw1_304 nw0_308 nw1_309 nw2_310 nw4_312 nw3_311 nw5_313 nw0_294 nw1_295) else (
              let w_323 := F_Te_refuse v_120 v_121 nw0_294 nw1_295 6
              let r_321 : Int32 := w_323.1
              let nw0_319 : Int32 := w_323.2.1
              let nw1_320 : Int32 := w_323.2.2
              (r_321, v_120, v_121, v_122, v_123, v_124, v_125, nw0_319, nw1_320, v_118, g_119)))) else (
          let w_291 := F_Te_takeSign t_length v_120 v_121 v_122 v_123 v_124 v_125 v_126 v_127 c_tape 59
          let r_289 : Int32 := w_291.1
          let nw0_281 : Int32 := w_291.2.1
          let nw1_282 : Int32 := w_291.2.2.1
          let nw2_283 : Int32 := w_291.2.2.2.1
          let nw3_284 : Int32 := w_291.2.2.2.2.1
          let nw4_285 : Int32 := w_291.2.2.2.2.2.1
          let nw5_286 : Int64 := w_291.2.2.2.2.2.2.1
          let nw6_287 : Int32 := w_291.2.2.2.2.2.2.2.1
          let nw7_288 : Int32 := w_291.2.2.2.2.2.2.2.2
          (r_289, nw0_281, nw1_282, nw2_283, nw3_284, nw4_285, nw5_286, nw6_287, nw7_288, v_118, g_119))))) := rfl
noncomputable def F_Ho_readRound (t_length : Int32) (t_kind : Int32) (t_start : Int32) (t_end : Int32) (t_number : Int32) (t_sign : Int32) (t_letters : Int64) (t_fault : Int32) (t_faultPlace : Int32) (c_tape : Nat → Int32) (c_n_d : Nat → Int64) (hf_doors : Int32) (hf_roundMany : Int32) (c_hf_roundDoors : Nat → Int32) : Int32 × Int32 × Int32 × Int32 × Int32 × Int32 × Int64 × Int32 × Int32 × Int32 × (Nat → Int32) :=
  if hf_roundMany ≤ 0 then (
    let w_11 := F_Te_advance t_length t_end t_number t_sign t_letters c_tape
    let nw0_3 : Int32 := w_11.1
    let nw1_4 : Int32 := w_11.2.1
    let nw2_5 : Int32 := w_11.2.2.1
    let nw3_6 : Int32 := w_11.2.2.2.1
    let nw4_7 : Int32 := w_11.2.2.2.2.1
    let nw5_8 : Int64 := w_11.2.2.2.2.2
    F_Ho_readRound_L28a t_length c_tape c_n_d hf_doors ((2147483647 - (0 : Int32).toInt).toNat + 1) (0 : Int32) hf_roundMany c_hf_roundDoors nw0_3 nw1_4 nw2_5 nw4_7 nw3_6 nw5_8 t_fault t_faultPlace) else (
    let w_333 := F_Te_refuse t_kind t_start t_fault t_faultPlace 5
    let r_331 : Int32 := w_333.1
    let nw0_329 : Int32 := w_333.2.1
    let nw1_330 : Int32 := w_333.2.2
    (r_331, t_kind, t_start, t_end, t_number, t_sign, t_letters, nw0_329, nw1_330, hf_roundMany, c_hf_roundDoors))
theorem F_Ho_readRound_s (t_length : Int32) (t_kind : Int32) (t_start : Int32) (t_end : Int32) (t_number : Int32) (t_sign : Int32) (t_letters : Int64) (t_fault : Int32) (t_faultPlace : Int32) (c_tape : Nat → Int32) (c_n_d : Nat → Int64) (hf_doors : Int32) (hf_roundMany : Int32) (c_hf_roundDoors : Nat → Int32) : F_Ho_readRound t_length t_kind t_start t_end t_number t_sign t_letters t_fault t_faultPlace c_tape c_n_d hf_doors hf_roundMany c_hf_roundDoors = (
  if hf_roundMany ≤ 0 then (
    let w_11 := F_Te_advance t_length t_end t_number t_sign t_letters c_tape
    let nw0_3 : Int32 := w_11.1
    let nw1_4 : Int32 := w_11.2.1
    let nw2_5 : Int32 := w_11.2.2.1
    let nw3_6 : Int32 := w_11.2.2.2.1
    let nw4_7 : Int32 := w_11.2.2.2.2.1
    let nw5_8 : Int64 := w_11.2.2.2.2.2
    F_Ho_readRound_L28a t_length c_tape c_n_d hf_doors ((2147483647 - (0 : Int32).toInt).toNat + 1) (0 : Int32) hf_roundMany c_hf_roundDoors nw0_3 nw1_4 nw2_5 nw4_7 nw3_6 nw5_8 t_fault t_faultPlace) else (
    let w_333 := F_Te_refuse t_kind t_start t_fault t_faultPlace 5
    let r_331 : Int32 := w_333.1
    let nw0_329 : Int32 := w_333.2.1
    let nw1_330 : Int32 := w_333.2.2
    (r_331, t_kind, t_start, t_end, t_number, t_sign, t_letters, nw0_329, nw1_330, hf_roundMany, c_hf_roundDoors))) := rfl
noncomputable def F_Ru_takeFeature (h_features : Int32) (c_h_featureNames : Nat → Int64) (t_length : Int32) (t_kind : Int32) (t_start : Int32) (t_end : Int32) (t_number : Int32) (t_sign : Int32) (t_letters : Int64) (t_fault : Int32) (t_faultPlace : Int32) (c_tape : Nat → Int32) : Int32 × Int32 × Int32 × Int32 × Int32 × Int32 × Int64 × Int32 × Int32 :=
  let w_3 := F_Te_isName t_length t_kind t_start t_end t_letters c_tape
  let r_1 : Int32 := w_3
  if r_1 = 0 then (
    let w_33 := F_Te_refuse t_kind t_start t_fault t_faultPlace 2
    let r_31 : Int32 := w_33.1
    let nw0_29 : Int32 := w_33.2.1
    let nw1_30 : Int32 := w_33.2.2
    ((-1 : Int32), t_kind, t_start, t_end, t_number, t_sign, t_letters, nw0_29, nw1_30)) else (
    let w_8 := F_H_featureNamed h_features c_h_featureNames t_letters
    let r_6 : Int32 := w_8
    if r_6 = (-1) then (
      let w_26 := F_Te_refuse t_kind t_start t_fault t_faultPlace 3
      let r_24 : Int32 := w_26.1
      let nw0_22 : Int32 := w_26.2.1
      let nw1_23 : Int32 := w_26.2.2
      (r_6, t_kind, t_start, t_end, t_number, t_sign, t_letters, nw0_22, nw1_23)) else (
      let w_19 := F_Te_advance t_length t_end t_number t_sign t_letters c_tape
      let nw0_11 : Int32 := w_19.1
      let nw1_12 : Int32 := w_19.2.1
      let nw2_13 : Int32 := w_19.2.2.1
      let nw3_14 : Int32 := w_19.2.2.2.1
      let nw4_15 : Int32 := w_19.2.2.2.2.1
      let nw5_16 : Int64 := w_19.2.2.2.2.2
      (r_6, nw0_11, nw1_12, nw2_13, nw4_15, nw3_14, nw5_16, t_fault, t_faultPlace)))
theorem F_Ru_takeFeature_s (h_features : Int32) (c_h_featureNames : Nat → Int64) (t_length : Int32) (t_kind : Int32) (t_start : Int32) (t_end : Int32) (t_number : Int32) (t_sign : Int32) (t_letters : Int64) (t_fault : Int32) (t_faultPlace : Int32) (c_tape : Nat → Int32) : F_Ru_takeFeature h_features c_h_featureNames t_length t_kind t_start t_end t_number t_sign t_letters t_fault t_faultPlace c_tape = (
  let w_3 := F_Te_isName t_length t_kind t_start t_end t_letters c_tape
  let r_1 : Int32 := w_3
  if r_1 = 0 then (
    let w_33 := F_Te_refuse t_kind t_start t_fault t_faultPlace 2
    let r_31 : Int32 := w_33.1
    let nw0_29 : Int32 := w_33.2.1
    let nw1_30 : Int32 := w_33.2.2
    ((-1 : Int32), t_kind, t_start, t_end, t_number, t_sign, t_letters, nw0_29, nw1_30)) else (
    let w_8 := F_H_featureNamed h_features c_h_featureNames t_letters
    let r_6 : Int32 := w_8
    if r_6 = (-1) then (
      let w_26 := F_Te_refuse t_kind t_start t_fault t_faultPlace 3
      let r_24 : Int32 := w_26.1
      let nw0_22 : Int32 := w_26.2.1
      let nw1_23 : Int32 := w_26.2.2
      (r_6, t_kind, t_start, t_end, t_number, t_sign, t_letters, nw0_22, nw1_23)) else (
      let w_19 := F_Te_advance t_length t_end t_number t_sign t_letters c_tape
      let nw0_11 : Int32 := w_19.1
      let nw1_12 : Int32 := w_19.2.1
      let nw2_13 : Int32 := w_19.2.2.1
      let nw3_14 : Int32 := w_19.2.2.2.1
      let nw4_15 : Int32 := w_19.2.2.2.2.1
      let nw5_16 : Int64 := w_19.2.2.2.2.2
      (r_6, nw0_11, nw1_12, nw2_13, nw4_15, nw3_14, nw5_16, t_fault, t_faultPlace)))) := rfl
noncomputable def F_Ru_readPlain (h_features : Int32) (c_h_featureNames : Nat → Int64) (t_length : Int32) (t_kind : Int32) (t_start : Int32) (t_end : Int32) (t_number : Int32) (t_sign : Int32) (t_letters : Int64) (t_fault : Int32) (t_faultPlace : Int32) (c_tape : Nat → Int32) (rf_lines : Int32) (rf_steps : Int32) (rf_asksSure : Int32) (c_rf_kinds : Nat → Int32) (c_rf_features : Nat → Int32) (c_rf_compares : Nat → Int32) (c_rf_numbers : Nat → Int32) (k : Int32) : Int32 × Int32 × Int32 × Int32 × Int32 × Int32 × Int64 × Int32 × Int32 × Int32 × Int32 × Int32 × (Nat → Int32) × (Nat → Int32) × (Nat → Int32) × (Nat → Int32) :=
  if k = 0 then (
    let w_36 := F_Ru_takeFeature h_features c_h_featureNames t_length t_kind t_start t_end t_number t_sign t_letters t_fault t_faultPlace c_tape
    let r_34 : Int32 := w_36.1
    let nw0_26 : Int32 := w_36.2.1
    let nw1_27 : Int32 := w_36.2.2.1
    let nw2_28 : Int32 := w_36.2.2.2.1
    let nw3_29 : Int32 := w_36.2.2.2.2.1
    let nw4_30 : Int32 := w_36.2.2.2.2.2.1
    let nw5_31 : Int64 := w_36.2.2.2.2.2.2.1
    let nw6_32 : Int32 := w_36.2.2.2.2.2.2.2.1
    let nw7_33 : Int32 := w_36.2.2.2.2.2.2.2.2
    if r_34 = (-1) then (
      ((0 : Int32), nw0_26, nw1_27, nw2_28, nw3_29, nw4_30, nw5_31, nw6_32, nw7_33, rf_lines, rf_steps, rf_asksSure, c_rf_kinds, c_rf_features, c_rf_compares, c_rf_numbers)) else (
      let w_48 := F_Ru_add rf_lines rf_steps rf_asksSure c_rf_kinds c_rf_features c_rf_compares c_rf_numbers k r_34 0 0
      let nw0_39 : Int32 := w_48.1
      let nw1_40 : Nat → Int32 := w_48.2.1
      let nw2_41 : Nat → Int32 := w_48.2.2.1
      let nw3_42 : Nat → Int32 := w_48.2.2.2.1
      let nw4_43 : Nat → Int32 := w_48.2.2.2.2.1
      let nw5_44 : Int32 := w_48.2.2.2.2.2.1
      let nw6_45 : Int32 := w_48.2.2.2.2.2.2
      let w_59 := F_Te_takeSign t_length nw0_26 nw1_27 nw2_28 nw3_29 nw4_30 nw5_31 nw6_32 nw7_33 c_tape 59
      let r_57 : Int32 := w_59.1
      let nw0_49 : Int32 := w_59.2.1
      let nw1_50 : Int32 := w_59.2.2.1
      let nw2_51 : Int32 := w_59.2.2.2.1
      let nw3_52 : Int32 := w_59.2.2.2.2.1
      let nw4_53 : Int32 := w_59.2.2.2.2.2.1
      let nw5_54 : Int64 := w_59.2.2.2.2.2.2.1
      let nw6_55 : Int32 := w_59.2.2.2.2.2.2.2.1
      let nw7_56 : Int32 := w_59.2.2.2.2.2.2.2.2
      (r_57, nw0_49, nw1_50, nw2_51, nw3_52, nw4_53, nw5_54, nw6_55, nw7_56, nw0_39, nw6_45, nw5_44, nw1_40, nw2_41, nw3_42, nw4_43))) else (
    let w_12 := F_Ru_add rf_lines rf_steps rf_asksSure c_rf_kinds c_rf_features c_rf_compares c_rf_numbers k (-1) 0 0
    let nw0_3 : Int32 := w_12.1
    let nw1_4 : Nat → Int32 := w_12.2.1
    let nw2_5 : Nat → Int32 := w_12.2.2.1
    let nw3_6 : Nat → Int32 := w_12.2.2.2.1
    let nw4_7 : Nat → Int32 := w_12.2.2.2.2.1
    let nw5_8 : Int32 := w_12.2.2.2.2.2.1
    let nw6_9 : Int32 := w_12.2.2.2.2.2.2
    let w_23 := F_Te_takeSign t_length t_kind t_start t_end t_number t_sign t_letters t_fault t_faultPlace c_tape 59
    let r_21 : Int32 := w_23.1
    let nw0_13 : Int32 := w_23.2.1
    let nw1_14 : Int32 := w_23.2.2.1
    let nw2_15 : Int32 := w_23.2.2.2.1
    let nw3_16 : Int32 := w_23.2.2.2.2.1
    let nw4_17 : Int32 := w_23.2.2.2.2.2.1
    let nw5_18 : Int64 := w_23.2.2.2.2.2.2.1
    let nw6_19 : Int32 := w_23.2.2.2.2.2.2.2.1
    let nw7_20 : Int32 := w_23.2.2.2.2.2.2.2.2
    (r_21, nw0_13, nw1_14, nw2_15, nw3_16, nw4_17, nw5_18, nw6_19, nw7_20, nw0_3, nw6_9, nw5_8, nw1_4, nw2_5, nw3_6, nw4_7))
theorem F_Ru_readPlain_s (h_features : Int32) (c_h_featureNames : Nat → Int64) (t_length : Int32) (t_kind : Int32) (t_start : Int32) (t_end : Int32) (t_number : Int32) (t_sign : Int32) (t_letters : Int64) (t_fault : Int32) (t_faultPlace : Int32) (c_tape : Nat → Int32) (rf_lines : Int32) (rf_steps : Int32) (rf_asksSure : Int32) (c_rf_kinds : Nat → Int32) (c_rf_features : Nat → Int32) (c_rf_compares : Nat → Int32) (c_rf_numbers : Nat → Int32) (k : Int32) : F_Ru_readPlain h_features c_h_featureNames t_length t_kind t_start t_end t_number t_sign t_letters t_fault t_faultPlace c_tape rf_lines rf_steps rf_asksSure c_rf_kinds c_rf_features c_rf_compares c_rf_numbers k = (
  if k = 0 then (
    let w_36 := F_Ru_takeFeature h_features c_h_featureNames t_length t_kind t_start t_end t_number t_sign t_letters t_fault t_faultPlace c_tape
    let r_34 : Int32 := w_36.1
    let nw0_26 : Int32 := w_36.2.1
    let nw1_27 : Int32 := w_36.2.2.1
    let nw2_28 : Int32 := w_36.2.2.2.1
    let nw3_29 : Int32 := w_36.2.2.2.2.1
    let nw4_30 : Int32 := w_36.2.2.2.2.2.1
    let nw5_31 : Int64 := w_36.2.2.2.2.2.2.1
    let nw6_32 : Int32 := w_36.2.2.2.2.2.2.2.1
    let nw7_33 : Int32 := w_36.2.2.2.2.2.2.2.2
    if r_34 = (-1) then (
      ((0 : Int32), nw0_26, nw1_27, nw2_28, nw3_29, nw4_30, nw5_31, nw6_32, nw7_33, rf_lines, rf_steps, rf_asksSure, c_rf_kinds, c_rf_features, c_rf_compares, c_rf_numbers)) else (
      let w_48 := F_Ru_add rf_lines rf_steps rf_asksSure c_rf_kinds c_rf_features c_rf_compares c_rf_numbers k r_34 0 0
      let nw0_39 : Int32 := w_48.1
      let nw1_40 : Nat → Int32 := w_48.2.1
      let nw2_41 : Nat → Int32 := w_48.2.2.1
      let nw3_42 : Nat → Int32 := w_48.2.2.2.1
      let nw4_43 : Nat → Int32 := w_48.2.2.2.2.1
      let nw5_44 : Int32 := w_48.2.2.2.2.2.1
      let nw6_45 : Int32 := w_48.2.2.2.2.2.2
      let w_59 := F_Te_takeSign t_length nw0_26 nw1_27 nw2_28 nw3_29 nw4_30 nw5_31 nw6_32 nw7_33 c_tape 59
      let r_57 : Int32 := w_59.1
      let nw0_49 : Int32 := w_59.2.1
      let nw1_50 : Int32 := w_59.2.2.1
      let nw2_51 : Int32 := w_59.2.2.2.1
      let nw3_52 : Int32 := w_59.2.2.2.2.1
      let nw4_53 : Int32 := w_59.2.2.2.2.2.1
      let nw5_54 : Int64 := w_59.2.2.2.2.2.2.1
      let nw6_55 : Int32 := w_59.2.2.2.2.2.2.2.1
      let nw7_56 : Int32 := w_59.2.2.2.2.2.2.2.2
      (r_57, nw0_49, nw1_50, nw2_51, nw3_52, nw4_53, nw5_54, nw6_55, nw7_56, nw0_39, nw6_45, nw5_44, nw1_40, nw2_41, nw3_42, nw4_43))) else (
    let w_12 := F_Ru_add rf_lines rf_steps rf_asksSure c_rf_kinds c_rf_features c_rf_compares c_rf_numbers k (-1) 0 0
    let nw0_3 : Int32 := w_12.1
    let nw1_4 : Nat → Int32 := w_12.2.1
    let nw2_5 : Nat → Int32 := w_12.2.2.1
    let nw3_6 : Nat → Int32 := w_12.2.2.2.1
    let nw4_7 : Nat → Int32 := w_12.2.2.2.2.1
    let nw5_8 : Int32 := w_12.2.2.2.2.2.1
    let nw6_9 : Int32 := w_12.2.2.2.2.2.2
    let w_23 := F_Te_takeSign t_length t_kind t_start t_end t_number t_sign t_letters t_fault t_faultPlace c_tape 59
    let r_21 : Int32 := w_23.1
    let nw0_13 : Int32 := w_23.2.1
    let nw1_14 : Int32 := w_23.2.2.1
    let nw2_15 : Int32 := w_23.2.2.2.1
    let nw3_16 : Int32 := w_23.2.2.2.2.1
    let nw4_17 : Int32 := w_23.2.2.2.2.2.1
    let nw5_18 : Int64 := w_23.2.2.2.2.2.2.1
    let nw6_19 : Int32 := w_23.2.2.2.2.2.2.2.1
    let nw7_20 : Int32 := w_23.2.2.2.2.2.2.2.2
    (r_21, nw0_13, nw1_14, nw2_15, nw3_16, nw4_17, nw5_18, nw6_19, nw7_20, nw0_3, nw6_9, nw5_8, nw1_4, nw2_5, nw3_6, nw4_7))) := rfl
noncomputable def F_Ru_beginBlock (rr_depth : Int32) (t_length : Int32) (t_kind : Int32) (t_start : Int32) (t_end : Int32) (t_number : Int32) (t_sign : Int32) (t_letters : Int64) (t_fault : Int32) (t_faultPlace : Int32) (c_tape : Nat → Int32) (c_rr_b : Nat → Int32) (rf_lines : Int32) : Int32 × Int32 × Int32 × Int32 × Int32 × Int32 × Int32 × Int64 × Int32 × Int32 × (Nat → Int32) :=
  let w_4 := F_keepAt_3 c_rr_b rr_depth (rf_lines - 1)
  let nw0_1 : Nat → Int32 := w_4
  let w_15 := F_Te_takeSign t_length t_kind t_start t_end t_number t_sign t_letters t_fault t_faultPlace c_tape 59
  let r_13 : Int32 := w_15.1
  let nw0_5 : Int32 := w_15.2.1
  let nw1_6 : Int32 := w_15.2.2.1
  let nw2_7 : Int32 := w_15.2.2.2.1
  let nw3_8 : Int32 := w_15.2.2.2.2.1
  let nw4_9 : Int32 := w_15.2.2.2.2.2.1
  let nw5_10 : Int64 := w_15.2.2.2.2.2.2.1
  let nw6_11 : Int32 := w_15.2.2.2.2.2.2.2.1
  let nw7_12 : Int32 := w_15.2.2.2.2.2.2.2.2
  (r_13, (rr_depth + 1), nw0_5, nw1_6, nw2_7, nw3_8, nw4_9, nw5_10, nw6_11, nw7_12, nw0_1)
theorem F_Ru_beginBlock_s (rr_depth : Int32) (t_length : Int32) (t_kind : Int32) (t_start : Int32) (t_end : Int32) (t_number : Int32) (t_sign : Int32) (t_letters : Int64) (t_fault : Int32) (t_faultPlace : Int32) (c_tape : Nat → Int32) (c_rr_b : Nat → Int32) (rf_lines : Int32) : F_Ru_beginBlock rr_depth t_length t_kind t_start t_end t_number t_sign t_letters t_fault t_faultPlace c_tape c_rr_b rf_lines = (
  let w_4 := F_keepAt_3 c_rr_b rr_depth (rf_lines - 1)
  let nw0_1 : Nat → Int32 := w_4
  let w_15 := F_Te_takeSign t_length t_kind t_start t_end t_number t_sign t_letters t_fault t_faultPlace c_tape 59
  let r_13 : Int32 := w_15.1
  let nw0_5 : Int32 := w_15.2.1
  let nw1_6 : Int32 := w_15.2.2.1
  let nw2_7 : Int32 := w_15.2.2.2.1
  let nw3_8 : Int32 := w_15.2.2.2.2.1
  let nw4_9 : Int32 := w_15.2.2.2.2.2.1
  let nw5_10 : Int64 := w_15.2.2.2.2.2.2.1
  let nw6_11 : Int32 := w_15.2.2.2.2.2.2.2.1
  let nw7_12 : Int32 := w_15.2.2.2.2.2.2.2.2
  (r_13, (rr_depth + 1), nw0_5, nw1_6, nw2_7, nw3_8, nw4_9, nw5_10, nw6_11, nw7_12, nw0_1)) := rfl
noncomputable def F_Ru_plainKind (t_length : Int32) (t_kind : Int32) (t_start : Int32) (t_end : Int32) (c_tape : Nat → Int32) : Int32 :=
  let w_3 := F_Te_is t_length t_kind t_start t_end c_tape 33
  let r_1 : Int32 := w_3
  if r_1 = 0 then (
    let w_8 := F_Te_is t_length t_kind t_start t_end c_tape 34
    let r_6 : Int32 := w_8
    if r_6 = 0 then (
      let w_13 := F_Te_is t_length t_kind t_start t_end c_tape 35
      let r_11 : Int32 := w_13
      if r_11 = 0 then (
        let w_18 := F_Te_is t_length t_kind t_start t_end c_tape 36
        let r_16 : Int32 := w_18
        if r_16 = 0 then (
          let w_23 := F_Te_is t_length t_kind t_start t_end c_tape 37
          let r_21 : Int32 := w_23
          if r_21 = 0 then (
            let w_28 := F_Te_is t_length t_kind t_start t_end c_tape 38
            let r_26 : Int32 := w_28
            if r_26 = 0 then (
              (-1 : Int32)) else (
              (5 : Int32))) else (
            (4 : Int32))) else (
          (3 : Int32))) else (
        (2 : Int32))) else (
      (1 : Int32))) else (
    (0 : Int32))
theorem F_Ru_plainKind_s (t_length : Int32) (t_kind : Int32) (t_start : Int32) (t_end : Int32) (c_tape : Nat → Int32) : F_Ru_plainKind t_length t_kind t_start t_end c_tape = (
  let w_3 := F_Te_is t_length t_kind t_start t_end c_tape 33
  let r_1 : Int32 := w_3
  if r_1 = 0 then (
    let w_8 := F_Te_is t_length t_kind t_start t_end c_tape 34
    let r_6 : Int32 := w_8
    if r_6 = 0 then (
      let w_13 := F_Te_is t_length t_kind t_start t_end c_tape 35
      let r_11 : Int32 := w_13
      if r_11 = 0 then (
        let w_18 := F_Te_is t_length t_kind t_start t_end c_tape 36
        let r_16 : Int32 := w_18
        if r_16 = 0 then (
          let w_23 := F_Te_is t_length t_kind t_start t_end c_tape 37
          let r_21 : Int32 := w_23
          if r_21 = 0 then (
            let w_28 := F_Te_is t_length t_kind t_start t_end c_tape 38
            let r_26 : Int32 := w_28
            if r_26 = 0 then (
              (-1 : Int32)) else (
              (5 : Int32))) else (
            (4 : Int32))) else (
          (3 : Int32))) else (
        (2 : Int32))) else (
      (1 : Int32))) else (
    (0 : Int32))) := rfl
noncomputable def F_Ru_readLoop (t_length : Int32) (t_kind : Int32) (t_start : Int32) (t_end : Int32) (t_number : Int32) (t_sign : Int32) (t_letters : Int64) (t_fault : Int32) (t_faultPlace : Int32) (c_tape : Nat → Int32) (rf_lines : Int32) (rf_steps : Int32) (rf_asksSure : Int32) (c_rf_kinds : Nat → Int32) (c_rf_features : Nat → Int32) (c_rf_compares : Nat → Int32) (c_rf_numbers : Nat → Int32) : Int32 × Int32 × Int32 × Int32 × Int32 × Int32 × Int64 × Int32 × Int32 × Int32 × Int32 × Int32 × (Nat → Int32) × (Nat → Int32) × (Nat → Int32) × (Nat → Int32) :=
  let w_11 := F_Te_takeNumber t_length t_kind t_start t_end t_number t_sign t_letters t_fault t_faultPlace c_tape 1 9
  let r_9 : Int32 := w_11.1
  let nw0_1 : Int32 := w_11.2.1
  let nw1_2 : Int32 := w_11.2.2.1
  let nw2_3 : Int32 := w_11.2.2.2.1
  let nw3_4 : Int32 := w_11.2.2.2.2.1
  let nw4_5 : Int32 := w_11.2.2.2.2.2.1
  let nw5_6 : Int32 := w_11.2.2.2.2.2.2.1
  let nw6_7 : Int32 := w_11.2.2.2.2.2.2.2.1
  let nw7_8 : Int64 := w_11.2.2.2.2.2.2.2.2
  if r_9 = (-1) then (
    ((0 : Int32), nw2_3, nw3_4, nw4_5, nw5_6, nw6_7, nw7_8, nw0_1, nw1_2, rf_lines, rf_steps, rf_asksSure, c_rf_kinds, c_rf_features, c_rf_compares, c_rf_numbers)) else (
    let w_23 := F_Ru_add rf_lines rf_steps rf_asksSure c_rf_kinds c_rf_features c_rf_compares c_rf_numbers 9 (-1) 0 r_9
    let nw0_14 : Int32 := w_23.1
    let nw1_15 : Nat → Int32 := w_23.2.1
    let nw2_16 : Nat → Int32 := w_23.2.2.1
    let nw3_17 : Nat → Int32 := w_23.2.2.2.1
    let nw4_18 : Nat → Int32 := w_23.2.2.2.2.1
    let nw5_19 : Int32 := w_23.2.2.2.2.2.1
    let nw6_20 : Int32 := w_23.2.2.2.2.2.2
    ((1 : Int32), nw2_3, nw3_4, nw4_5, nw5_6, nw6_7, nw7_8, nw0_1, nw1_2, nw0_14, nw6_20, nw5_19, nw1_15, nw2_16, nw3_17, nw4_18))
theorem F_Ru_readLoop_s (t_length : Int32) (t_kind : Int32) (t_start : Int32) (t_end : Int32) (t_number : Int32) (t_sign : Int32) (t_letters : Int64) (t_fault : Int32) (t_faultPlace : Int32) (c_tape : Nat → Int32) (rf_lines : Int32) (rf_steps : Int32) (rf_asksSure : Int32) (c_rf_kinds : Nat → Int32) (c_rf_features : Nat → Int32) (c_rf_compares : Nat → Int32) (c_rf_numbers : Nat → Int32) : F_Ru_readLoop t_length t_kind t_start t_end t_number t_sign t_letters t_fault t_faultPlace c_tape rf_lines rf_steps rf_asksSure c_rf_kinds c_rf_features c_rf_compares c_rf_numbers = (
  let w_11 := F_Te_takeNumber t_length t_kind t_start t_end t_number t_sign t_letters t_fault t_faultPlace c_tape 1 9
  let r_9 : Int32 := w_11.1
  let nw0_1 : Int32 := w_11.2.1
  let nw1_2 : Int32 := w_11.2.2.1
  let nw2_3 : Int32 := w_11.2.2.2.1
  let nw3_4 : Int32 := w_11.2.2.2.2.1
  let nw4_5 : Int32 := w_11.2.2.2.2.2.1
  let nw5_6 : Int32 := w_11.2.2.2.2.2.2.1
  let nw6_7 : Int32 := w_11.2.2.2.2.2.2.2.1
  let nw7_8 : Int64 := w_11.2.2.2.2.2.2.2.2
  if r_9 = (-1) then (
    ((0 : Int32), nw2_3, nw3_4, nw4_5, nw5_6, nw6_7, nw7_8, nw0_1, nw1_2, rf_lines, rf_steps, rf_asksSure, c_rf_kinds, c_rf_features, c_rf_compares, c_rf_numbers)) else (
    let w_23 := F_Ru_add rf_lines rf_steps rf_asksSure c_rf_kinds c_rf_features c_rf_compares c_rf_numbers 9 (-1) 0 r_9
    let nw0_14 : Int32 := w_23.1
    let nw1_15 : Nat → Int32 := w_23.2.1
    let nw2_16 : Nat → Int32 := w_23.2.2.1
    let nw3_17 : Nat → Int32 := w_23.2.2.2.1
    let nw4_18 : Nat → Int32 := w_23.2.2.2.2.1
    let nw5_19 : Int32 := w_23.2.2.2.2.2.1
    let nw6_20 : Int32 := w_23.2.2.2.2.2.2
    ((1 : Int32), nw2_3, nw3_4, nw4_5, nw5_6, nw6_7, nw7_8, nw0_1, nw1_2, nw0_14, nw6_20, nw5_19, nw1_15, nw2_16, nw3_17, nw4_18))) := rfl
noncomputable def F_Ru_readWhen (h_features : Int32) (c_h_featureNames : Nat → Int64) (t_length : Int32) (t_kind : Int32) (t_start : Int32) (t_end : Int32) (t_number : Int32) (t_sign : Int32) (t_letters : Int64) (t_fault : Int32) (t_faultPlace : Int32) (c_tape : Nat → Int32) (rf_lines : Int32) (rf_steps : Int32) (rf_asksSure : Int32) (c_rf_kinds : Nat → Int32) (c_rf_features : Nat → Int32) (c_rf_compares : Nat → Int32) (c_rf_numbers : Nat → Int32) : Int32 × Int32 × Int32 × Int32 × Int32 × Int32 × Int64 × Int32 × Int32 × Int32 × Int32 × Int32 × (Nat → Int32) × (Nat → Int32) × (Nat → Int32) × (Nat → Int32) :=
  let w_3 := F_Te_is t_length t_kind t_start t_end c_tape 39
  let r_1 : Int32 := w_3
  if r_1 = 0 then (
    let w_8 := F_Te_is t_length t_kind t_start t_end c_tape 40
    let r_6 : Int32 := w_8
    if r_6 = 0 then (
      let w_21 := F_Te_takeWord t_length t_kind t_start t_end t_number t_sign t_letters t_fault t_faultPlace c_tape 41
      let r_19 : Int32 := w_21.1
      let nw0_11 : Int32 := w_21.2.1
      let nw1_12 : Int32 := w_21.2.2.1
      let nw2_13 : Int32 := w_21.2.2.2.1
      let nw3_14 : Int32 := w_21.2.2.2.2.1
      let nw4_15 : Int32 := w_21.2.2.2.2.2.1
      let nw5_16 : Int64 := w_21.2.2.2.2.2.2.1
      let nw6_17 : Int32 := w_21.2.2.2.2.2.2.2.1
      let nw7_18 : Int32 := w_21.2.2.2.2.2.2.2.2
      if r_19 = 0 then (
        ((0 : Int32), nw0_11, nw1_12, nw2_13, nw3_14, nw4_15, nw5_16, nw6_17, nw7_18, rf_lines, rf_steps, rf_asksSure, c_rf_kinds, c_rf_features, c_rf_compares, c_rf_numbers)) else (
        let w_34 := F_Te_takeNumber t_length nw0_11 nw1_12 nw2_13 nw3_14 nw4_15 nw5_16 nw6_17 nw7_18 c_tape 0 16
        let r_32 : Int32 := w_34.1
        let nw0_24 : Int32 := w_34.2.1
        let nw1_25 : Int32 := w_34.2.2.1
        let nw2_26 : Int32 := w_34.2.2.2.1
        let nw3_27 : Int32 := w_34.2.2.2.2.1
        let nw4_28 : Int32 := w_34.2.2.2.2.2.1
        let nw5_29 : Int32 := w_34.2.2.2.2.2.2.1
        let nw6_30 : Int32 := w_34.2.2.2.2.2.2.2.1
        let nw7_31 : Int64 := w_34.2.2.2.2.2.2.2.2
        if r_32 = (-1) then (
          ((0 : Int32), nw2_26, nw3_27, nw4_28, nw5_29, nw6_30, nw7_31, nw0_24, nw1_25, rf_lines, rf_steps, rf_asksSure, c_rf_kinds, c_rf_features, c_rf_compares, c_rf_numbers)) else (
          let w_46 := F_Ru_add rf_lines rf_steps rf_asksSure c_rf_kinds c_rf_features c_rf_compares c_rf_numbers 7 (-1) 0 r_32
          let nw0_37 : Int32 := w_46.1
          let nw1_38 : Nat → Int32 := w_46.2.1
          let nw2_39 : Nat → Int32 := w_46.2.2.1
          let nw3_40 : Nat → Int32 := w_46.2.2.2.1
          let nw4_41 : Nat → Int32 := w_46.2.2.2.2.1
          let nw5_42 : Int32 := w_46.2.2.2.2.2.1
          let nw6_43 : Int32 := w_46.2.2.2.2.2.2
          ((1 : Int32), nw2_26, nw3_27, nw4_28, nw5_29, nw6_30, nw7_31, nw0_24, nw1_25, nw0_37, nw6_43, nw5_42, nw1_38, nw2_39, nw3_40, nw4_41)))) else (
      let w_61 := F_Te_advance t_length t_end t_number t_sign t_letters c_tape
      let nw0_53 : Int32 := w_61.1
      let nw1_54 : Int32 := w_61.2.1
      let nw2_55 : Int32 := w_61.2.2.1
      let nw3_56 : Int32 := w_61.2.2.2.1
      let nw4_57 : Int32 := w_61.2.2.2.2.1
      let nw5_58 : Int64 := w_61.2.2.2.2.2
      let w_71 := F_Ru_add rf_lines rf_steps rf_asksSure c_rf_kinds c_rf_features c_rf_compares c_rf_numbers 8 (-1) 0 0
      let nw0_62 : Int32 := w_71.1
      let nw1_63 : Nat → Int32 := w_71.2.1
      let nw2_64 : Nat → Int32 := w_71.2.2.1
      let nw3_65 : Nat → Int32 := w_71.2.2.2.1
      let nw4_66 : Nat → Int32 := w_71.2.2.2.2.1
      let nw5_67 : Int32 := w_71.2.2.2.2.2.1
      let nw6_68 : Int32 := w_71.2.2.2.2.2.2
      ((1 : Int32), nw0_53, nw1_54, nw2_55, nw4_57, nw3_56, nw5_58, t_fault, t_faultPlace, nw0_62, nw6_68, nw5_67, nw1_63, nw2_64, nw3_65, nw4_66))) else (
    let w_82 := F_Te_advance t_length t_end t_number t_sign t_letters c_tape
    let nw0_74 : Int32 := w_82.1
    let nw1_75 : Int32 := w_82.2.1
    let nw2_76 : Int32 := w_82.2.2.1
    let nw3_77 : Int32 := w_82.2.2.2.1
    let nw4_78 : Int32 := w_82.2.2.2.2.1
    let nw5_79 : Int64 := w_82.2.2.2.2.2
    let w_93 := F_Ru_takeFeature h_features c_h_featureNames t_length nw0_74 nw1_75 nw2_76 nw4_78 nw3_77 nw5_79 t_fault t_faultPlace c_tape
    let r_91 : Int32 := w_93.1
    let nw0_83 : Int32 := w_93.2.1
    let nw1_84 : Int32 := w_93.2.2.1
    let nw2_85 : Int32 := w_93.2.2.2.1
    let nw3_86 : Int32 := w_93.2.2.2.2.1
    let nw4_87 : Int32 := w_93.2.2.2.2.2.1
    let nw5_88 : Int64 := w_93.2.2.2.2.2.2.1
    let nw6_89 : Int32 := w_93.2.2.2.2.2.2.2.1
    let nw7_90 : Int32 := w_93.2.2.2.2.2.2.2.2
    if r_91 = (-1) then (
      ((0 : Int32), nw0_83, nw1_84, nw2_85, nw3_86, nw4_87, nw5_88, nw6_89, nw7_90, rf_lines, rf_steps, rf_asksSure, c_rf_kinds, c_rf_features, c_rf_compares, c_rf_numbers)) else (
      let w_106 := F_Te_takeCompare t_length nw0_83 nw1_84 nw2_85 nw3_86 nw4_87 nw5_88 nw6_89 nw7_90 c_tape
      let r_104 : Int32 := w_106.1
      let nw0_96 : Int32 := w_106.2.1
      let nw1_97 : Int32 := w_106.2.2.1
      let nw2_98 : Int32 := w_106.2.2.2.1
      let nw3_99 : Int32 := w_106.2.2.2.2.1
      let nw4_100 : Int32 := w_106.2.2.2.2.2.1
      let nw5_101 : Int64 := w_106.2.2.2.2.2.2.1
      let nw6_102 : Int32 := w_106.2.2.2.2.2.2.2.1
      let nw7_103 : Int32 := w_106.2.2.2.2.2.2.2.2
      if r_104 = (-1) then (
        ((0 : Int32), nw0_96, nw1_97, nw2_98, nw3_99, nw4_100, nw5_101, nw6_102, nw7_103, rf_lines, rf_steps, rf_asksSure, c_rf_kinds, c_rf_features, c_rf_compares, c_rf_numbers)) else (
        let w_119 := F_Te_takeNumber t_length nw0_96 nw1_97 nw2_98 nw3_99 nw4_100 nw5_101 nw6_102 nw7_103 c_tape 0 3
        let r_117 : Int32 := w_119.1
        let nw0_109 : Int32 := w_119.2.1
        let nw1_110 : Int32 := w_119.2.2.1
        let nw2_111 : Int32 := w_119.2.2.2.1
        let nw3_112 : Int32 := w_119.2.2.2.2.1
        let nw4_113 : Int32 := w_119.2.2.2.2.2.1
        let nw5_114 : Int32 := w_119.2.2.2.2.2.2.1
        let nw6_115 : Int32 := w_119.2.2.2.2.2.2.2.1
        let nw7_116 : Int64 := w_119.2.2.2.2.2.2.2.2
        if r_117 = (-1) then (
          ((0 : Int32), nw2_111, nw3_112, nw4_113, nw5_114, nw6_115, nw7_116, nw0_109, nw1_110, rf_lines, rf_steps, rf_asksSure, c_rf_kinds, c_rf_features, c_rf_compares, c_rf_numbers)) else (
          let w_131 := F_Ru_add rf_lines rf_steps rf_asksSure c_rf_kinds c_rf_features c_rf_compares c_rf_numbers 6 r_91 r_104 r_117
          let nw0_122 : Int32 := w_131.1
          let nw1_123 : Nat → Int32 := w_131.2.1
          let nw2_124 : Nat → Int32 := w_131.2.2.1
          let nw3_125 : Nat → Int32 := w_131.2.2.2.1
          let nw4_126 : Nat → Int32 := w_131.2.2.2.2.1
          let nw5_127 : Int32 := w_131.2.2.2.2.2.1
          let nw6_128 : Int32 := w_131.2.2.2.2.2.2
          ((1 : Int32), nw2_111, nw3_112, nw4_113, nw5_114, nw6_115, nw7_116, nw0_109, nw1_110, nw0_122, nw6_128, nw5_127, nw1_123, nw2_124, nw3_125, nw4_126)))))
theorem F_Ru_readWhen_s (h_features : Int32) (c_h_featureNames : Nat → Int64) (t_length : Int32) (t_kind : Int32) (t_start : Int32) (t_end : Int32) (t_number : Int32) (t_sign : Int32) (t_letters : Int64) (t_fault : Int32) (t_faultPlace : Int32) (c_tape : Nat → Int32) (rf_lines : Int32) (rf_steps : Int32) (rf_asksSure : Int32) (c_rf_kinds : Nat → Int32) (c_rf_features : Nat → Int32) (c_rf_compares : Nat → Int32) (c_rf_numbers : Nat → Int32) : F_Ru_readWhen h_features c_h_featureNames t_length t_kind t_start t_end t_number t_sign t_letters t_fault t_faultPlace c_tape rf_lines rf_steps rf_asksSure c_rf_kinds c_rf_features c_rf_compares c_rf_numbers = (
  let w_3 := F_Te_is t_length t_kind t_start t_end c_tape 39
  let r_1 : Int32 := w_3
  if r_1 = 0 then (
    let w_8 := F_Te_is t_length t_kind t_start t_end c_tape 40
    let r_6 : Int32 := w_8
    if r_6 = 0 then (
      let w_21 := F_Te_takeWord t_length t_kind t_start t_end t_number t_sign t_letters t_fault t_faultPlace c_tape 41
      let r_19 : Int32 := w_21.1
      let nw0_11 : Int32 := w_21.2.1
      let nw1_12 : Int32 := w_21.2.2.1
      let nw2_13 : Int32 := w_21.2.2.2.1
      let nw3_14 : Int32 := w_21.2.2.2.2.1
      let nw4_15 : Int32 := w_21.2.2.2.2.2.1
      let nw5_16 : Int64 := w_21.2.2.2.2.2.2.1
      let nw6_17 : Int32 := w_21.2.2.2.2.2.2.2.1
      let nw7_18 : Int32 := w_21.2.2.2.2.2.2.2.2
      if r_19 = 0 then (
        ((0 : Int32), nw0_11, nw1_12, nw2_13, nw3_14, nw4_15, nw5_16, nw6_17, nw7_18, rf_lines, rf_steps, rf_asksSure, c_rf_kinds, c_rf_features, c_rf_compares, c_rf_numbers)) else (
        let w_34 := F_Te_takeNumber t_length nw0_11 nw1_12 nw2_13 nw3_14 nw4_15 nw5_16 nw6_17 nw7_18 c_tape 0 16
        let r_32 : Int32 := w_34.1
        let nw0_24 : Int32 := w_34.2.1
        let nw1_25 : Int32 := w_34.2.2.1
        let nw2_26 : Int32 := w_34.2.2.2.1
        let nw3_27 : Int32 := w_34.2.2.2.2.1
        let nw4_28 : Int32 := w_34.2.2.2.2.2.1
        let nw5_29 : Int32 := w_34.2.2.2.2.2.2.1
        let nw6_30 : Int32 := w_34.2.2.2.2.2.2.2.1
        let nw7_31 : Int64 := w_34.2.2.2.2.2.2.2.2
        if r_32 = (-1) then (
          ((0 : Int32), nw2_26, nw3_27, nw4_28, nw5_29, nw6_30, nw7_31, nw0_24, nw1_25, rf_lines, rf_steps, rf_asksSure, c_rf_kinds, c_rf_features, c_rf_compares, c_rf_numbers)) else (
          let w_46 := F_Ru_add rf_lines rf_steps rf_asksSure c_rf_kinds c_rf_features c_rf_compares c_rf_numbers 7 (-1) 0 r_32
          let nw0_37 : Int32 := w_46.1
          let nw1_38 : Nat → Int32 := w_46.2.1
          let nw2_39 : Nat → Int32 := w_46.2.2.1
          let nw3_40 : Nat → Int32 := w_46.2.2.2.1
          let nw4_41 : Nat → Int32 := w_46.2.2.2.2.1
          let nw5_42 : Int32 := w_46.2.2.2.2.2.1
          let nw6_43 : Int32 := w_46.2.2.2.2.2.2
          ((1 : Int32), nw2_26, nw3_27, nw4_28, nw5_29, nw6_30, nw7_31, nw0_24, nw1_25, nw0_37, nw6_43, nw5_42, nw1_38, nw2_39, nw3_40, nw4_41)))) else (
      let w_61 := F_Te_advance t_length t_end t_number t_sign t_letters c_tape
      let nw0_53 : Int32 := w_61.1
      let nw1_54 : Int32 := w_61.2.1
      let nw2_55 : Int32 := w_61.2.2.1
      let nw3_56 : Int32 := w_61.2.2.2.1
      let nw4_57 : Int32 := w_61.2.2.2.2.1
      let nw5_58 : Int64 := w_61.2.2.2.2.2
      let w_71 := F_Ru_add rf_lines rf_steps rf_asksSure c_rf_kinds c_rf_features c_rf_compares c_rf_numbers 8 (-1) 0 0
      let nw0_62 : Int32 := w_71.1
      let nw1_63 : Nat → Int32 := w_71.2.1
      let nw2_64 : Nat → Int32 := w_71.2.2.1
      let nw3_65 : Nat → Int32 := w_71.2.2.2.1
      let nw4_66 : Nat → Int32 := w_71.2.2.2.2.1
      let nw5_67 : Int32 := w_71.2.2.2.2.2.1
      let nw6_68 : Int32 := w_71.2.2.2.2.2.2
      ((1 : Int32), nw0_53, nw1_54, nw2_55, nw4_57, nw3_56, nw5_58, t_fault, t_faultPlace, nw0_62, nw6_68, nw5_67, nw1_63, nw2_64, nw3_65, nw4_66))) else (
    let w_82 := F_Te_advance t_length t_end t_number t_sign t_letters c_tape
    let nw0_74 : Int32 := w_82.1
    let nw1_75 : Int32 := w_82.2.1
    let nw2_76 : Int32 := w_82.2.2.1
    let nw3_77 : Int32 := w_82.2.2.2.1
    let nw4_78 : Int32 := w_82.2.2.2.2.1
    let nw5_79 : Int64 := w_82.2.2.2.2.2
    let w_93 := F_Ru_takeFeature h_features c_h_featureNames t_length nw0_74 nw1_75 nw2_76 nw4_78 nw3_77 nw5_79 t_fault t_faultPlace c_tape
    let r_91 : Int32 := w_93.1
    let nw0_83 : Int32 := w_93.2.1
    let nw1_84 : Int32 := w_93.2.2.1
    let nw2_85 : Int32 := w_93.2.2.2.1
    let nw3_86 : Int32 := w_93.2.2.2.2.1
    let nw4_87 : Int32 := w_93.2.2.2.2.2.1
    let nw5_88 : Int64 := w_93.2.2.2.2.2.2.1
    let nw6_89 : Int32 := w_93.2.2.2.2.2.2.2.1
    let nw7_90 : Int32 := w_93.2.2.2.2.2.2.2.2
    if r_91 = (-1) then (
      ((0 : Int32), nw0_83, nw1_84, nw2_85, nw3_86, nw4_87, nw5_88, nw6_89, nw7_90, rf_lines, rf_steps, rf_asksSure, c_rf_kinds, c_rf_features, c_rf_compares, c_rf_numbers)) else (
      let w_106 := F_Te_takeCompare t_length nw0_83 nw1_84 nw2_85 nw3_86 nw4_87 nw5_88 nw6_89 nw7_90 c_tape
      let r_104 : Int32 := w_106.1
      let nw0_96 : Int32 := w_106.2.1
      let nw1_97 : Int32 := w_106.2.2.1
      let nw2_98 : Int32 := w_106.2.2.2.1
      let nw3_99 : Int32 := w_106.2.2.2.2.1
      let nw4_100 : Int32 := w_106.2.2.2.2.2.1
      let nw5_101 : Int64 := w_106.2.2.2.2.2.2.1
      let nw6_102 : Int32 := w_106.2.2.2.2.2.2.2.1
      let nw7_103 : Int32 := w_106.2.2.2.2.2.2.2.2
      if r_104 = (-1) then (
        ((0 : Int32), nw0_96, nw1_97, nw2_98, nw3_99, nw4_100, nw5_101, nw6_102, nw7_103, rf_lines, rf_steps, rf_asksSure, c_rf_kinds, c_rf_features, c_rf_compares, c_rf_numbers)) else (
        let w_119 := F_Te_takeNumber t_length nw0_96 nw1_97 nw2_98 nw3_99 nw4_100 nw5_101 nw6_102 nw7_103 c_tape 0 3
        let r_117 : Int32 := w_119.1
        let nw0_109 : Int32 := w_119.2.1
        let nw1_110 : Int32 := w_119.2.2.1
        let nw2_111 : Int32 := w_119.2.2.2.1
        let nw3_112 : Int32 := w_119.2.2.2.2.1
        let nw4_113 : Int32 := w_119.2.2.2.2.2.1
        let nw5_114 : Int32 := w_119.2.2.2.2.2.2.1
        let nw6_115 : Int32 := w_119.2.2.2.2.2.2.2.1
        let nw7_116 : Int64 := w_119.2.2.2.2.2.2.2.2
        if r_117 = (-1) then (
          ((0 : Int32), nw2_111, nw3_112, nw4_113, nw5_114, nw6_115, nw7_116, nw0_109, nw1_110, rf_lines, rf_steps, rf_asksSure, c_rf_kinds, c_rf_features, c_rf_compares, c_rf_numbers)) else (
          let w_131 := F_Ru_add rf_lines rf_steps rf_asksSure c_rf_kinds c_rf_features c_rf_compares c_rf_numbers 6 r_91 r_104 r_117
          let nw0_122 : Int32 := w_131.1
          let nw1_123 : Nat → Int32 := w_131.2.1
          let nw2_124 : Nat → Int32 := w_131.2.2.1
          let nw3_125 : Nat → Int32 := w_131.2.2.2.1
          let nw4_126 : Nat → Int32 := w_131.2.2.2.2.1
          let nw5_127 : Int32 := w_131.2.2.2.2.2.1
          let nw6_128 : Int32 := w_131.2.2.2.2.2.2
          ((1 : Int32), nw2_111, nw3_112, nw4_113, nw5_114, nw6_115, nw7_116, nw0_109, nw1_110, nw0_122, nw6_128, nw5_127, nw1_123, nw2_124, nw3_125, nw4_126)))))) := rfl
noncomputable def F_Ru_readEnd (rr_depth : Int32) (t_length : Int32) (t_kind : Int32) (t_start : Int32) (t_end : Int32) (t_number : Int32) (t_sign : Int32) (t_letters : Int64) (t_fault : Int32) (t_faultPlace : Int32) (c_tape : Nat → Int32) (c_rr_b : Nat → Int32) (rf_lines : Int32) (rf_steps : Int32) (rf_asksSure : Int32) (c_rf_kinds : Nat → Int32) (c_rf_features : Nat → Int32) (c_rf_compares : Nat → Int32) (c_rf_numbers : Nat → Int32) (c_rf_partners : Nat → Int32) : Int32 × Int32 × Int32 × Int32 × Int32 × Int32 × Int32 × Int64 × Int32 × Int32 × Int32 × Int32 × Int32 × (Nat → Int32) × (Nat → Int32) × (Nat → Int32) × (Nat → Int32) × (Nat → Int32) :=
  if 0 < rr_depth then (
    let w_11 := F_Te_advance t_length t_end t_number t_sign t_letters c_tape
    let nw0_3 : Int32 := w_11.1
    let nw1_4 : Int32 := w_11.2.1
    let nw2_5 : Int32 := w_11.2.2.1
    let nw3_6 : Int32 := w_11.2.2.2.1
    let nw4_7 : Int32 := w_11.2.2.2.2.1
    let nw5_8 : Int64 := w_11.2.2.2.2.2
    let w_21 := F_Ru_add rf_lines rf_steps rf_asksSure c_rf_kinds c_rf_features c_rf_compares c_rf_numbers 10 (-1) 0 0
    let nw0_12 : Int32 := w_21.1
    let nw1_13 : Nat → Int32 := w_21.2.1
    let nw2_14 : Nat → Int32 := w_21.2.2.1
    let nw3_15 : Nat → Int32 := w_21.2.2.2.1
    let nw4_16 : Nat → Int32 := w_21.2.2.2.2.1
    let nw5_17 : Int32 := w_21.2.2.2.2.2.1
    let nw6_18 : Int32 := w_21.2.2.2.2.2.2
    let w_24 := F_at_3 c_rr_b (rr_depth - 1)
    let r_22 : Int32 := w_24
    let w_28 := F_Ru_pair c_rf_partners r_22 (nw0_12 - 1)
    let nw0_25 : Nat → Int32 := w_28
    let w_39 := F_Te_takeSign t_length nw0_3 nw1_4 nw2_5 nw4_7 nw3_6 nw5_8 t_fault t_faultPlace c_tape 59
    let r_37 : Int32 := w_39.1
    let nw0_29 : Int32 := w_39.2.1
    let nw1_30 : Int32 := w_39.2.2.1
    let nw2_31 : Int32 := w_39.2.2.2.1
    let nw3_32 : Int32 := w_39.2.2.2.2.1
    let nw4_33 : Int32 := w_39.2.2.2.2.2.1
    let nw5_34 : Int64 := w_39.2.2.2.2.2.2.1
    let nw6_35 : Int32 := w_39.2.2.2.2.2.2.2.1
    let nw7_36 : Int32 := w_39.2.2.2.2.2.2.2.2
    (r_37, (rr_depth - 1), nw0_29, nw1_30, nw2_31, nw3_32, nw4_33, nw5_34, nw6_35, nw7_36, nw0_12, nw6_18, nw5_17, nw1_13, nw2_14, nw3_15, nw4_16, nw0_25)) else (
    let w_46 := F_Te_refuse t_kind t_start t_fault t_faultPlace 2
    let r_44 : Int32 := w_46.1
    let nw0_42 : Int32 := w_46.2.1
    let nw1_43 : Int32 := w_46.2.2
    (r_44, rr_depth, t_kind, t_start, t_end, t_number, t_sign, t_letters, nw0_42, nw1_43, rf_lines, rf_steps, rf_asksSure, c_rf_kinds, c_rf_features, c_rf_compares, c_rf_numbers, c_rf_partners))
theorem F_Ru_readEnd_s (rr_depth : Int32) (t_length : Int32) (t_kind : Int32) (t_start : Int32) (t_end : Int32) (t_number : Int32) (t_sign : Int32) (t_letters : Int64) (t_fault : Int32) (t_faultPlace : Int32) (c_tape : Nat → Int32) (c_rr_b : Nat → Int32) (rf_lines : Int32) (rf_steps : Int32) (rf_asksSure : Int32) (c_rf_kinds : Nat → Int32) (c_rf_features : Nat → Int32) (c_rf_compares : Nat → Int32) (c_rf_numbers : Nat → Int32) (c_rf_partners : Nat → Int32) : F_Ru_readEnd rr_depth t_length t_kind t_start t_end t_number t_sign t_letters t_fault t_faultPlace c_tape c_rr_b rf_lines rf_steps rf_asksSure c_rf_kinds c_rf_features c_rf_compares c_rf_numbers c_rf_partners = (
  if 0 < rr_depth then (
    let w_11 := F_Te_advance t_length t_end t_number t_sign t_letters c_tape
    let nw0_3 : Int32 := w_11.1
    let nw1_4 : Int32 := w_11.2.1
    let nw2_5 : Int32 := w_11.2.2.1
    let nw3_6 : Int32 := w_11.2.2.2.1
    let nw4_7 : Int32 := w_11.2.2.2.2.1
    let nw5_8 : Int64 := w_11.2.2.2.2.2
    let w_21 := F_Ru_add rf_lines rf_steps rf_asksSure c_rf_kinds c_rf_features c_rf_compares c_rf_numbers 10 (-1) 0 0
    let nw0_12 : Int32 := w_21.1
    let nw1_13 : Nat → Int32 := w_21.2.1
    let nw2_14 : Nat → Int32 := w_21.2.2.1
    let nw3_15 : Nat → Int32 := w_21.2.2.2.1
    let nw4_16 : Nat → Int32 := w_21.2.2.2.2.1
    let nw5_17 : Int32 := w_21.2.2.2.2.2.1
    let nw6_18 : Int32 := w_21.2.2.2.2.2.2
    let w_24 := F_at_3 c_rr_b (rr_depth - 1)
    let r_22 : Int32 := w_24
    let w_28 := F_Ru_pair c_rf_partners r_22 (nw0_12 - 1)
    let nw0_25 : Nat → Int32 := w_28
    let w_39 := F_Te_takeSign t_length nw0_3 nw1_4 nw2_5 nw4_7 nw3_6 nw5_8 t_fault t_faultPlace c_tape 59
    let r_37 : Int32 := w_39.1
    let nw0_29 : Int32 := w_39.2.1
    let nw1_30 : Int32 := w_39.2.2.1
    let nw2_31 : Int32 := w_39.2.2.2.1
    let nw3_32 : Int32 := w_39.2.2.2.2.1
    let nw4_33 : Int32 := w_39.2.2.2.2.2.1
    let nw5_34 : Int64 := w_39.2.2.2.2.2.2.1
    let nw6_35 : Int32 := w_39.2.2.2.2.2.2.2.1
    let nw7_36 : Int32 := w_39.2.2.2.2.2.2.2.2
    (r_37, (rr_depth - 1), nw0_29, nw1_30, nw2_31, nw3_32, nw4_33, nw5_34, nw6_35, nw7_36, nw0_12, nw6_18, nw5_17, nw1_13, nw2_14, nw3_15, nw4_16, nw0_25)) else (
    let w_46 := F_Te_refuse t_kind t_start t_fault t_faultPlace 2
    let r_44 : Int32 := w_46.1
    let nw0_42 : Int32 := w_46.2.1
    let nw1_43 : Int32 := w_46.2.2
    (r_44, rr_depth, t_kind, t_start, t_end, t_number, t_sign, t_letters, nw0_42, nw1_43, rf_lines, rf_steps, rf_asksSure, c_rf_kinds, c_rf_features, c_rf_compares, c_rf_numbers, c_rf_partners))) := rfl
noncomputable def F_Ru_readStep (rr_depth : Int32) (h_features : Int32) (c_h_featureNames : Nat → Int64) (t_length : Int32) (t_kind : Int32) (t_start : Int32) (t_end : Int32) (t_number : Int32) (t_sign : Int32) (t_letters : Int64) (t_fault : Int32) (t_faultPlace : Int32) (c_tape : Nat → Int32) (c_rr_b : Nat → Int32) (rf_lines : Int32) (rf_steps : Int32) (rf_asksSure : Int32) (c_rf_kinds : Nat → Int32) (c_rf_features : Nat → Int32) (c_rf_compares : Nat → Int32) (c_rf_numbers : Nat → Int32) (c_rf_partners : Nat → Int32) : Int32 × Int32 × Int32 × Int32 × Int32 × Int32 × Int64 × Int32 × Int32 × Int32 × Int32 × Int32 × (Nat → Int32) × (Nat → Int32) × (Nat → Int32) × (Nat → Int32) × Int32 × (Nat → Int32) × (Nat → Int32) :=
  let w_3 := F_Te_is t_length t_kind t_start t_end c_tape 30
  let r_1 : Int32 := w_3
  if r_1 = 0 then (
    let w_8 := F_Te_is t_length t_kind t_start t_end c_tape 31
    let r_6 : Int32 := w_8
    if r_6 = 0 then (
      let w_127 := F_Te_is t_length t_kind t_start t_end c_tape 32
      let r_125 : Int32 := w_127
      if r_125 = 0 then (
        let w_132 := F_Ru_plainKind t_length t_kind t_start t_end c_tape
        let r_130 : Int32 := w_132
        if r_130 = (-1) then (
          let w_220 := F_Te_refuse t_kind t_start t_fault t_faultPlace 2
          let r_218 : Int32 := w_220.1
          let nw0_216 : Int32 := w_220.2.1
          let nw1_217 : Int32 := w_220.2.2
          (r_218, t_kind, t_start, t_end, t_number, t_sign, t_letters, nw0_216, nw1_217, rf_lines, rf_steps, rf_asksSure, c_rf_kinds, c_rf_features, c_rf_compares, c_rf_numbers, rr_depth, c_rr_b, c_rf_partners)) else (
          if rf_steps < 30 then (
            let w_145 := F_Te_advance t_length t_end t_number t_sign t_letters c_tape
            let nw0_137 : Int32 := w_145.1
            let nw1_138 : Int32 := w_145.2.1
            let nw2_139 : Int32 := w_145.2.2.1
            let nw3_140 : Int32 := w_145.2.2.2.1
            let nw4_141 : Int32 := w_145.2.2.2.2.1
            let nw5_142 : Int64 := w_145.2.2.2.2.2
            if r_6 = 0 then (
              let w_165 := F_Ru_readPlain h_features c_h_featureNames t_length nw0_137 nw1_138 nw2_139 nw4_141 nw3_140 nw5_142 t_fault t_faultPlace c_tape rf_lines rf_steps rf_asksSure c_rf_kinds c_rf_features c_rf_compares c_rf_numbers r_130
              let r_163 : Int32 := w_165.1
              let nw0_148 : Int32 := w_165.2.1
              let nw1_149 : Int32 := w_165.2.2.1
              let nw2_150 : Int32 := w_165.2.2.2.1
              let nw3_151 : Int32 := w_165.2.2.2.2.1
              let nw4_152 : Int32 := w_165.2.2.2.2.2.1
              let nw5_153 : Int64 := w_165.2.2.2.2.2.2.1
              let nw6_154 : Int32 := w_165.2.2.2.2.2.2.2.1
              let nw7_155 : Int32 := w_165.2.2.2.2.2.2.2.2.1
              let nw8_156 : Int32 := w_165.2.2.2.2.2.2.2.2.2.1
              let nw9_157 : Int32 := w_165.2.2.2.2.2.2.2.2.2.2.1
              let nw10_158 : Int32 := w_165.2.2.2.2.2.2.2.2.2.2.2.1
              let nw11_159 : Nat → Int32 := w_165.2.2.2.2.2.2.2.2.2.2.2.2.1
              let nw12_160 : Nat → Int32 := w_165.2.2.2.2.2.2.2.2.2.2.2.2.2.1
              let nw13_161 : Nat → Int32 := w_165.2.2.2.2.2.2.2.2.2.2.2.2.2.2.1
              let nw14_162 : Nat → Int32 := w_165.2.2.2.2.2.2.2.2.2.2.2.2.2.2.2
              (r_163, nw0_148, nw1_149, nw2_150, nw3_151, nw4_152, nw5_153, nw6_154, nw7_155, nw8_156, nw9_157, nw10_158, nw11_159, nw12_160, nw13_161, nw14_162, rr_depth, c_rr_b, c_rf_partners)) else (
              let w_185 := F_Ru_readLoop t_length nw0_137 nw1_138 nw2_139 nw4_141 nw3_140 nw5_142 t_fault t_faultPlace c_tape rf_lines rf_steps rf_asksSure c_rf_kinds c_rf_features c_rf_compares c_rf_numbers
              let r_183 : Int32 := w_185.1
              let nw0_168 : Int32 := w_185.2.1
              let nw1_169 : Int32 := w_185.2.2.1
              let nw2_170 : Int32 := w_185.2.2.2.1
              let nw3_171 : Int32 := w_185.2.2.2.2.1
              let nw4_172 : Int32 := w_185.2.2.2.2.2.1
              let nw5_173 : Int64 := w_185.2.2.2.2.2.2.1
              let nw6_174 : Int32 := w_185.2.2.2.2.2.2.2.1
              let nw7_175 : Int32 := w_185.2.2.2.2.2.2.2.2.1
              let nw8_176 : Int32 := w_185.2.2.2.2.2.2.2.2.2.1
              let nw9_177 : Int32 := w_185.2.2.2.2.2.2.2.2.2.2.1
              let nw10_178 : Int32 := w_185.2.2.2.2.2.2.2.2.2.2.2.1
              let nw11_179 : Nat → Int32 := w_185.2.2.2.2.2.2.2.2.2.2.2.2.1
              let nw12_180 : Nat → Int32 := w_185.2.2.2.2.2.2.2.2.2.2.2.2.2.1
              let nw13_181 : Nat → Int32 := w_185.2.2.2.2.2.2.2.2.2.2.2.2.2.2.1
              let nw14_182 : Nat → Int32 := w_185.2.2.2.2.2.2.2.2.2.2.2.2.2.2.2
              if r_183 = 0 then (
                ((0 : Int32), nw0_168, nw1_169, nw2_170, nw3_171, nw4_172, nw5_173, nw6_174, nw7_175, nw8_176, nw9_177, nw10_178, nw11_179, nw12_180, nw13_181, nw14_182, rr_depth, c_rr_b, c_rf_partners)) else (
                let w_202 := F_Ru_beginBlock rr_depth t_length nw0_168 nw1_169 nw2_170 nw3_171 nw4_172 nw5_173 nw6_174 nw7_175 c_tape c_rr_b nw8_176
                let r_200 : Int32 := w_202.1
                let nw0_190 : Int32 := w_202.2.1
                let nw1_191 : Int32 := w_202.2.2.1
                let nw2_192 : Int32 := w_202.2.2.2.1
                let nw3_193 : Int32 := w_202.2.2.2.2.1
                let nw4_194 : Int32 := w_202.2.2.2.2.2.1
                let nw5_195 : Int32 := w_202.2.2.2.2.2.2.1
                let nw6_196 : Int64 := w_202.2.2.2.2.2.2.2.1
                let nw7_197 : Int32 := w_202.2.2.2.2.2.2.2.2.1
                let nw8_198 : Int32 := w_202.2.2.2.2.2.2.2.2.2.1
                let nw9_199 : Nat → Int32 := w_202.2.2.2.2.2.2.2.2.2.2
                if r_200 = 0 then (
                  ((0 : Int32), nw1_191, nw2_192, nw3_193, nw4_194, nw5_195, nw6_196, nw7_197, nw8_198, nw8_176, nw9_177, nw10_178, nw11_179, nw12_180, nw13_181, nw14_182, nw0_190, nw9_199, c_rf_partners)) else (
                  ((1 : Int32), nw1_191, nw2_192, nw3_193, nw4_194, nw5_195, nw6_196, nw7_197, nw8_198, nw8_176, nw9_177, nw10_178, nw11_179, nw12_180, nw13_181, nw14_182, nw0_190, nw9_199, c_rf_partners))))) else (
            let w_213 := F_Te_refuse t_kind t_start t_fault t_faultPlace 6
            let r_211 : Int32 := w_213.1
            let nw0_209 : Int32 := w_213.2.1
            let nw1_210 : Int32 := w_213.2.2
            (r_211, t_kind, t_start, t_end, t_number, t_sign, t_letters, nw0_209, nw1_210, rf_lines, rf_steps, rf_asksSure, c_rf_kinds, c_rf_features, c_rf_compares, c_rf_numbers, rr_depth, c_rr_b, c_rf_partners)))) else (
        let w_225 := F_Ru_plainKind t_length t_kind t_start t_end c_tape
        let r_223 : Int32 := w_225
        if rf_steps < 30 then (
          if rr_depth < 3 then (
            let w_238 := F_Te_advance t_length t_end t_number t_sign t_letters c_tape
            let nw0_230 : Int32 := w_238.1
            let nw1_231 : Int32 := w_238.2.1
            let nw2_232 : Int32 := w_238.2.2.1
            let nw3_233 : Int32 := w_238.2.2.2.1
            let nw4_234 : Int32 := w_238.2.2.2.2.1
            let nw5_235 : Int64 := w_238.2.2.2.2.2
            if r_6 = 0 then (
              let w_258 := F_Ru_readWhen h_features c_h_featureNames t_length nw0_230 nw1_231 nw2_232 nw4_234 nw3_233 nw5_235 t_fault t_faultPlace c_tape rf_lines rf_steps rf_asksSure c_rf_kinds c_rf_features c_rf_compares c_rf_numbers
              let r_256 : Int32 := w_258.1
              let nw0_241 : Int32 := w_258.2.1
              let nw1_242 : Int32 := w_258.2.2.1
              let nw2_243 : Int32 := w_258.2.2.2.1
              let nw3_244 : Int32 := w_258.2.2.2.2.1
              let nw4_245 : Int32 := w_258.2.2.2.2.2.1
              let nw5_246 : Int64 := w_258.2.2.2.2.2.2.1
              let nw6_247 : Int32 := w_258.2.2.2.2.2.2.2.1
              let nw7_248 : Int32 := w_258.2.2.2.2.2.2.2.2.1
              let nw8_249 : Int32 := w_258.2.2.2.2.2.2.2.2.2.1
              let nw9_250 : Int32 := w_258.2.2.2.2.2.2.2.2.2.2.1
              let nw10_251 : Int32 := w_258.2.2.2.2.2.2.2.2.2.2.2.1
              let nw11_252 : Nat → Int32 := w_258.2.2.2.2.2.2.2.2.2.2.2.2.1
              let nw12_253 : Nat → Int32 := w_258.2.2.2.2.2.2.2.2.2.2.2.2.2.1
              let nw13_254 : Nat → Int32 := w_258.2.2.2.2.2.2.2.2.2.2.2.2.2.2.1
              let nw14_255 : Nat → Int32 := w_258.2.2.2.2.2.2.2.2.2.2.2.2.2.2.2
              if r_256 = 0 then (
                ((0 : Int32), nw0_241, nw1_242, nw2_243, nw3_244, nw4_245, nw5_246, nw6_247, nw7_248, nw8_249, nw9_250, nw10_251, nw11_252, nw12_253, nw13_254, nw14_255, rr_depth, c_rr_b, c_rf_partners)) else (
                let w_275 := F_Ru_beginBlock rr_depth t_length nw0_241 nw1_242 nw2_243 nw3_244 nw4_245 nw5_246 nw6_247 nw7_248 c_tape c_rr_b nw8_249
                let r_273 : Int32 := w_275.1
                let nw0_263 : Int32 := w_275.2.1
                let nw1_264 : Int32 := w_275.2.2.1
                let nw2_265 : Int32 := w_275.2.2.2.1
                let nw3_266 : Int32 := w_275.2.2.2.2.1
                let nw4_267 : Int32 := w_275.2.2.2.2.2.1
                let nw5_268 : Int32 := w_275.2.2.2.2.2.2.1
                let nw6_269 : Int64 := w_275.2.2.2.2.2.2.2.1
                let nw7_270 : Int32 := w_275.2.2.2.2.2.2.2.2.1
                let nw8_271 : Int32 := w_275.2.2.2.2.2.2.2.2.2.1
                let nw9_272 : Nat → Int32 := w_275.2.2.2.2.2.2.2.2.2.2
                if r_273 = 0 then (
                  ((0 : Int32), nw1_264, nw2_265, nw3_266, nw4_267, nw5_268, nw6_269, nw7_270, nw8_271, nw8_249, nw9_250, nw10_251, nw11_252, nw12_253, nw13_254, nw14_255, nw0_263, nw9_272, c_rf_partners)) else (
                  ((1 : Int32), nw1_264, nw2_265, nw3_266, nw4_267, nw5_268, nw6_269, nw7_270, nw8_271, nw8_249, nw9_250, nw10_251, nw11_252, nw12_253, nw13_254, nw14_255, nw0_263, nw9_272, c_rf_partners)))) else (
              let w_299 := F_Ru_readLoop t_length nw0_230 nw1_231 nw2_232 nw4_234 nw3_233 nw5_235 t_fault t_faultPlace c_tape rf_lines rf_steps rf_asksSure c_rf_kinds c_rf_features c_rf_compares c_rf_numbers
              let r_297 : Int32 := w_299.1
              let nw0_282 : Int32 := w_299.2.1
              let nw1_283 : Int32 := w_299.2.2.1
              let nw2_284 : Int32 := w_299.2.2.2.1
              let nw3_285 : Int32 := w_299.2.2.2.2.1
              let nw4_286 : Int32 := w_299.2.2.2.2.2.1
              let nw5_287 : Int64 := w_299.2.2.2.2.2.2.1
              let nw6_288 : Int32 := w_299.2.2.2.2.2.2.2.1
              let nw7_289 : Int32 := w_299.2.2.2.2.2.2.2.2.1
              let nw8_290 : Int32 := w_299.2.2.2.2.2.2.2.2.2.1
              let nw9_291 : Int32 := w_299.2.2.2.2.2.2.2.2.2.2.1
              let nw10_292 : Int32 := w_299.2.2.2.2.2.2.2.2.2.2.2.1
              let nw11_293 : Nat → Int32 := w_299.2.2.2.2.2.2.2.2.2.2.2.2.1
              let nw12_294 : Nat → Int32 := w_299.2.2.2.2.2.2.2.2.2.2.2.2.2.1
              let nw13_295 : Nat → Int32 := w_299.2.2.2.2.2.2.2.2.2.2.2.2.2.2.1
              let nw14_296 : Nat → Int32 := w_299.2.2.2.2.2.2.2.2.2.2.2.2.2.2.2
              if r_297 = 0 then (
                ((0 : Int32), nw0_282, nw1_283, nw2_284, nw3_285, nw4_286, nw5_287, nw6_288, nw7_289, nw8_290, nw9_291, nw10_292, nw11_293, nw12_294, nw13_295, nw14_296, rr_depth, c_rr_b, c_rf_partners)) else (
                let w_316 := F_Ru_beginBlock rr_depth t_length nw0_282 nw1_283 nw2_284 nw3_285 nw4_286 nw5_287 nw6_288 nw7_289 c_tape c_rr_b nw8_290
                let r_314 : Int32 := w_316.1
                let nw0_304 : Int32 := w_316.2.1
                let nw1_305 : Int32 := w_316.2.2.1
                let nw2_306 : Int32 := w_316.2.2.2.1
                let nw3_307 : Int32 := w_316.2.2.2.2.1
                let nw4_308 : Int32 := w_316.2.2.2.2.2.1
                let nw5_309 : Int32 := w_316.2.2.2.2.2.2.1
                let nw6_310 : Int64 := w_316.2.2.2.2.2.2.2.1
                let nw7_311 : Int32 := w_316.2.2.2.2.2.2.2.2.1
                let nw8_312 : Int32 := w_316.2.2.2.2.2.2.2.2.2.1
                let nw9_313 : Nat → Int32 := w_316.2.2.2.2.2.2.2.2.2.2
                if r_314 = 0 then (
                  ((0 : Int32), nw1_305, nw2_306, nw3_307, nw4_308, nw5_309, nw6_310, nw7_311, nw8_312, nw8_290, nw9_291, nw10_292, nw11_293, nw12_294, nw13_295, nw14_296, nw0_304, nw9_313, c_rf_partners)) else (
                  ((1 : Int32), nw1_305, nw2_306, nw3_307, nw4_308, nw5_309, nw6_310, nw7_311, nw8_312, nw8_290, nw9_291, nw10_292, nw11_293, nw12_294, nw13_295, nw14_296, nw0_304, nw9_313, c_rf_partners))))) else (
            let w_327 := F_Te_refuse t_kind t_start t_fault t_faultPlace 7
            let r_325 : Int32 := w_327.1
            let nw0_323 : Int32 := w_327.2.1
            let nw1_324 : Int32 := w_327.2.2
            (r_325, t_kind, t_start, t_end, t_number, t_sign, t_letters, nw0_323, nw1_324, rf_lines, rf_steps, rf_asksSure, c_rf_kinds, c_rf_features, c_rf_compares, c_rf_numbers, rr_depth, c_rr_b, c_rf_partners))) else (
          let w_334 := F_Te_refuse t_kind t_start t_fault t_faultPlace 6
          let r_332 : Int32 := w_334.1
          let nw0_330 : Int32 := w_334.2.1
          let nw1_331 : Int32 := w_334.2.2
          (r_332, t_kind, t_start, t_end, t_number, t_sign, t_letters, nw0_330, nw1_331, rf_lines, rf_steps, rf_asksSure, c_rf_kinds, c_rf_features, c_rf_compares, c_rf_numbers, rr_depth, c_rr_b, c_rf_partners)))) else (
      let w_13 := F_Ru_plainKind t_length t_kind t_start t_end c_tape
      let r_11 : Int32 := w_13
      if rf_steps < 30 then (
        if rr_depth < 3 then (
          let w_26 := F_Te_advance t_length t_end t_number t_sign t_letters c_tape
          let nw0_18 : Int32 := w_26.1
          let nw1_19 : Int32 := w_26.2.1
          let nw2_20 : Int32 := w_26.2.2.1
          let nw3_21 : Int32 := w_26.2.2.2.1
          let nw4_22 : Int32 := w_26.2.2.2.2.1
          let nw5_23 : Int64 := w_26.2.2.2.2.2
          if r_6 = 0 then (
            let w_46 := F_Ru_readWhen h_features c_h_featureNames t_length nw0_18 nw1_19 nw2_20 nw4_22 nw3_21 nw5_23 t_fault t_faultPlace c_tape rf_lines rf_steps rf_asksSure c_rf_kinds c_rf_features c_rf_compares c_rf_numbers
            let r_44 : Int32 := w_46.1
            let nw0_29 : Int32 := w_46.2.1
            let nw1_30 : Int32 := w_46.2.2.1
            let nw2_31 : Int32 := w_46.2.2.2.1
            let nw3_32 : Int32 := w_46.2.2.2.2.1
            let nw4_33 : Int32 := w_46.2.2.2.2.2.1
            let nw5_34 : Int64 := w_46.2.2.2.2.2.2.1
            let nw6_35 : Int32 := w_46.2.2.2.2.2.2.2.1
            let nw7_36 : Int32 := w_46.2.2.2.2.2.2.2.2.1
            let nw8_37 : Int32 := w_46.2.2.2.2.2.2.2.2.2.1
            let nw9_38 : Int32 := w_46.2.2.2.2.2.2.2.2.2.2.1
            let nw10_39 : Int32 := w_46.2.2.2.2.2.2.2.2.2.2.2.1
            let nw11_40 : Nat → Int32 := w_46.2.2.2.2.2.2.2.2.2.2.2.2.1
            let nw12_41 : Nat → Int32 := w_46.2.2.2.2.2.2.2.2.2.2.2.2.2.1
            let nw13_42 : Nat → Int32 := w_46.2.2.2.2.2.2.2.2.2.2.2.2.2.2.1
            let nw14_43 : Nat → Int32 := w_46.2.2.2.2.2.2.2.2.2.2.2.2.2.2.2
            if r_44 = 0 then (
              ((0 : Int32), nw0_29, nw1_30, nw2_31, nw3_32, nw4_33, nw5_34, nw6_35, nw7_36, nw8_37, nw9_38, nw10_39, nw11_40, nw12_41, nw13_42, nw14_43, rr_depth, c_rr_b, c_rf_partners)) else (
              let w_63 := F_Ru_beginBlock rr_depth t_length nw0_29 nw1_30 nw2_31 nw3_32 nw4_33 nw5_34 nw6_35 nw7_36 c_tape c_rr_b nw8_37
              let r_61 : Int32 := w_63.1
              let nw0_51 : Int32 := w_63.2.1
              let nw1_52 : Int32 := w_63.2.2.1
              let nw2_53 : Int32 := w_63.2.2.2.1
              let nw3_54 : Int32 := w_63.2.2.2.2.1
              let nw4_55 : Int32 := w_63.2.2.2.2.2.1
              let nw5_56 : Int32 := w_63.2.2.2.2.2.2.1
              let nw6_57 : Int64 := w_63.2.2.2.2.2.2.2.1
              let nw7_58 : Int32 := w_63.2.2.2.2.2.2.2.2.1
              let nw8_59 : Int32 := w_63.2.2.2.2.2.2.2.2.2.1
              let nw9_60 : Nat → Int32 := w_63.2.2.2.2.2.2.2.2.2.2
              if r_61 = 0 then (
                ((0 : Int32), nw1_52, nw2_53, nw3_54, nw4_55, nw5_56, nw6_57, nw7_58, nw8_59, nw8_37, nw9_38, nw10_39, nw11_40, nw12_41, nw13_42, nw14_43, nw0_51, nw9_60, c_rf_partners)) else (
                ((1 : Int32), nw1_52, nw2_53, nw3_54, nw4_55, nw5_56, nw6_57, nw7_58, nw8_59, nw8_37, nw9_38, nw10_39, nw11_40, nw12_41, nw13_42, nw14_43, nw0_51, nw9_60, c_rf_partners)))) else (
            let w_87 := F_Ru_readLoop t_length nw0_18 nw1_19 nw2_20 nw4_22 nw3_21 nw5_23 t_fault t_faultPlace c_tape rf_lines rf_steps rf_asksSure c_rf_kinds c_rf_features c_rf_compares c_rf_numbers
            let r_85 : Int32 := w_87.1
            let nw0_70 : Int32 := w_87.2.1
            let nw1_71 : Int32 := w_87.2.2.1
            let nw2_72 : Int32 := w_87.2.2.2.1
            let nw3_73 : Int32 := w_87.2.2.2.2.1
            let nw4_74 : Int32 := w_87.2.2.2.2.2.1
            let nw5_75 : Int64 := w_87.2.2.2.2.2.2.1
            let nw6_76 : Int32 := w_87.2.2.2.2.2.2.2.1
            let nw7_77 : Int32 := w_87.2.2.2.2.2.2.2.2.1
            let nw8_78 : Int32 := w_87.2.2.2.2.2.2.2.2.2.1
            let nw9_79 : Int32 := w_87.2.2.2.2.2.2.2.2.2.2.1
            let nw10_80 : Int32 := w_87.2.2.2.2.2.2.2.2.2.2.2.1
            let nw11_81 : Nat → Int32 := w_87.2.2.2.2.2.2.2.2.2.2.2.2.1
            let nw12_82 : Nat → Int32 := w_87.2.2.2.2.2.2.2.2.2.2.2.2.2.1
            let nw13_83 : Nat → Int32 := w_87.2.2.2.2.2.2.2.2.2.2.2.2.2.2.1
            let nw14_84 : Nat → Int32 := w_87.2.2.2.2.2.2.2.2.2.2.2.2.2.2.2
            if r_85 = 0 then (
              ((0 : Int32), nw0_70, nw1_71, nw2_72, nw3_73, nw4_74, nw5_75, nw6_76, nw7_77, nw8_78, nw9_79, nw10_80, nw11_81, nw12_82, nw13_83, nw14_84, rr_depth, c_rr_b, c_rf_partners)) else (
              let w_104 := F_Ru_beginBlock rr_depth t_length nw0_70 nw1_71 nw2_72 nw3_73 nw4_74 nw5_75 nw6_76 nw7_77 c_tape c_rr_b nw8_78
              let r_102 : Int32 := w_104.1
              let nw0_92 : Int32 := w_104.2.1
              let nw1_93 : Int32 := w_104.2.2.1
              let nw2_94 : Int32 := w_104.2.2.2.1
              let nw3_95 : Int32 := w_104.2.2.2.2.1
              let nw4_96 : Int32 := w_104.2.2.2.2.2.1
              let nw5_97 : Int32 := w_104.2.2.2.2.2.2.1
              let nw6_98 : Int64 := w_104.2.2.2.2.2.2.2.1
              let nw7_99 : Int32 := w_104.2.2.2.2.2.2.2.2.1
              let nw8_100 : Int32 := w_104.2.2.2.2.2.2.2.2.2.1
              let nw9_101 : Nat → Int32 := w_104.2.2.2.2.2.2.2.2.2.2
              if r_102 = 0 then (
                ((0 : Int32), nw1_93, nw2_94, nw3_95, nw4_96, nw5_97, nw6_98, nw7_99, nw8_100, nw8_78, nw9_79, nw10_80, nw11_81, nw12_82, nw13_83, nw14_84, nw0_92, nw9_101, c_rf_partners)) else (
                ((1 : Int32), nw1_93, nw2_94, nw3_95, nw4_96, nw5_97, nw6_98, nw7_99, nw8_100, nw8_78, nw9_79, nw10_80, nw11_81, nw12_82, nw13_83, nw14_84, nw0_92, nw9_101, c_rf_partners))))) else (
          let w_115 := F_Te_refuse t_kind t_start t_fault t_faultPlace 7
          let r_113 : Int32 := w_115.1
          let nw0_111 : Int32 := w_115.2.1
          let nw1_112 : Int32 := w_115.2.2
          (r_113, t_kind, t_start, t_end, t_number, t_sign, t_letters, nw0_111, nw1_112, rf_lines, rf_steps, rf_asksSure, c_rf_kinds, c_rf_features, c_rf_compares, c_rf_numbers, rr_depth, c_rr_b, c_rf_partners))) else (
        let w_122 := F_Te_refuse t_kind t_start t_fault t_faultPlace 6
        let r_120 : Int32 := w_122.1
        let nw0_118 : Int32 := w_122.2.1
        let nw1_119 : Int32 := w_122.2.2
        (r_120, t_kind, t_start, t_end, t_number, t_sign, t_letters, nw0_118, nw1_119, rf_lines, rf_steps, rf_asksSure, c_rf_kinds, c_rf_features, c_rf_compares, c_rf_numbers, rr_depth, c_rr_b, c_rf_partners)))) else (
    let w_356 := F_Ru_readEnd rr_depth t_length t_kind t_start t_end t_number t_sign t_letters t_fault t_faultPlace c_tape c_rr_b rf_lines rf_steps rf_asksSure c_rf_kinds c_rf_features c_rf_compares c_rf_numbers c_rf_partners
    let r_354 : Int32 := w_356.1
    let nw0_337 : Int32 := w_356.2.1
    let nw1_338 : Int32 := w_356.2.2.1
    let nw2_339 : Int32 := w_356.2.2.2.1
    let nw3_340 : Int32 := w_356.2.2.2.2.1
    let nw4_341 : Int32 := w_356.2.2.2.2.2.1
    let nw5_342 : Int32 := w_356.2.2.2.2.2.2.1
    let nw6_343 : Int64 := w_356.2.2.2.2.2.2.2.1
    let nw7_344 : Int32 := w_356.2.2.2.2.2.2.2.2.1
    let nw8_345 : Int32 := w_356.2.2.2.2.2.2.2.2.2.1
    let nw9_346 : Int32 := w_356.2.2.2.2.2.2.2.2.2.2.1
    let nw10_347 : Int32 := w_356.2.2.2.2.2.2.2.2.2.2.2.1
    let nw11_348 : Int32 := w_356.2.2.2.2.2.2.2.2.2.2.2.2.1
    let nw12_349 : Nat → Int32 := w_356.2.2.2.2.2.2.2.2.2.2.2.2.2.1
    let nw13_350 : Nat → Int32 := w_356.2.2.2.2.2.2.2.2.2.2.2.2.2.2.1
    let nw14_351 : Nat → Int32 := w_356.2.2.2.2.2.2.2.2.2.2.2.2.2.2.2.1
    let nw15_352 : Nat → Int32 := w_356.2.2.2.2.2.2.2.2.2.2.2.2.2.2.2.2.1
    let nw16_353 : Nat → Int32 := w_356.2.2.2.2.2.2.2.2.2.2.2.2.2.2.2.2.2
    (r_354, nw1_338, nw2_339, nw3_340, nw4_341, nw5_342, nw6_343, nw7_344, nw8_345, nw9_346, nw10_347, nw11_348, nw12_349, nw13_350, nw14_351, nw15_352, nw0_337, c_rr_b, nw16_353))
theorem F_Ru_readStep_s (rr_depth : Int32) (h_features : Int32) (c_h_featureNames : Nat → Int64) (t_length : Int32) (t_kind : Int32) (t_start : Int32) (t_end : Int32) (t_number : Int32) (t_sign : Int32) (t_letters : Int64) (t_fault : Int32) (t_faultPlace : Int32) (c_tape : Nat → Int32) (c_rr_b : Nat → Int32) (rf_lines : Int32) (rf_steps : Int32) (rf_asksSure : Int32) (c_rf_kinds : Nat → Int32) (c_rf_features : Nat → Int32) (c_rf_compares : Nat → Int32) (c_rf_numbers : Nat → Int32) (c_rf_partners : Nat → Int32) : F_Ru_readStep rr_depth h_features c_h_featureNames t_length t_kind t_start t_end t_number t_sign t_letters t_fault t_faultPlace c_tape c_rr_b rf_lines rf_steps rf_asksSure c_rf_kinds c_rf_features c_rf_compares c_rf_numbers c_rf_partners = (
  let w_3 := F_Te_is t_length t_kind t_start t_end c_tape 30
  let r_1 : Int32 := w_3
  if r_1 = 0 then (
    let w_8 := F_Te_is t_length t_kind t_start t_end c_tape 31
    let r_6 : Int32 := w_8
    if r_6 = 0 then (
      let w_127 := F_Te_is t_length t_kind t_start t_end c_tape 32
      let r_125 : Int32 := w_127
      if r_125 = 0 then (
        let w_132 := F_Ru_plainKind t_length t_kind t_start t_end c_tape
        let r_130 : Int32 := w_132
        if r_130 = (-1) then (
          let w_220 := F_Te_refuse t_kind t_start t_fault t_faultPlace 2
          let r_218 : Int32 := w_220.1
          let nw0_216 : Int32 := w_220.2.1
          let nw1_217 : Int32 := w_220.2.2
          (r_218, t_kind, t_start, t_end, t_number, t_sign, t_letters, nw0_216, nw1_217, rf_lines, rf_steps, rf_asksSure, c_rf_kinds, c_rf_features, c_rf_compares, c_rf_numbers, rr_depth, c_rr_b, c_rf_partners)) else (
          if rf_steps < 30 then (
            let w_145 := F_Te_advance t_length t_end t_number t_sign t_letters c_tape
            let nw0_137 : Int32 := w_145.1
            let nw1_138 : Int32 := w_145.2.1
            let nw2_139 : Int32 := w_145.2.2.1
            let nw3_140 : Int32 := w_145.2.2.2.1
            let nw4_141 : Int32 := w_145.2.2.2.2.1
            let nw5_142 : Int64 := w_145.2.2.2.2.2
            if r_6 = 0 then (
              let w_165 := F_Ru_readPlain h_features c_h_featureNames t_length nw0_137 nw1_138 nw2_139 nw4_141 nw3_140 nw5_142 t_fault t_faultPlace c_tape rf_lines rf_steps rf_asksSure c_rf_kinds c_rf_features c_rf_compares c_rf_numbers r_130
              let r_163 : Int32 := w_165.1
              let nw0_148 : Int32 := w_165.2.1
              let nw1_149 : Int32 := w_165.2.2.1
              let nw2_150 : Int32 := w_165.2.2.2.1
              let nw3_151 : Int32 := w_165.2.2.2.2.1
              let nw4_152 : Int32 := w_165.2.2.2.2.2.1
              let nw5_153 : Int64 := w_165.2.2.2.2.2.2.1
              let nw6_154 : Int32 := w_165.2.2.2.2.2.2.2.1
              let nw7_155 : Int32 := w_165.2.2.2.2.2.2.2.2.1
              let nw8_156 : Int32 := w_165.2.2.2.2.2.2.2.2.2.1
              let nw9_157 : Int32 := w_165.2.2.2.2.2.2.2.2.2.2.1
              let nw10_158 : Int32 := w_165.2.2.2.2.2.2.2.2.2.2.2.1
              let nw11_159 : Nat → Int32 := w_165.2.2.2.2.2.2.2.2.2.2.2.2.1
              let nw12_160 : Nat → Int32 := w_165.2.2.2.2.2.2.2.2.2.2.2.2.2.1
              let nw13_161 : Nat → Int32 := w_165.2.2.2.2.2.2.2.2.2.2.2.2.2.2.1
              let nw14_162 : Nat → Int32 := w_165.2.2.2.2.2.2.2.2.2.2.2.2.2.2.2
              (r_163, nw0_148, nw1_149, nw2_150, nw3_151, nw4_152, nw5_153, nw6_154, nw7_155, nw8_156, nw9_157, nw10_158, nw11_159, nw12_160, nw13_161, nw14_162, rr_depth, c_rr_b, c_rf_partners)) else (
              let w_185 := F_Ru_readLoop t_length nw0_137 nw1_138 nw2_139 nw4_141 nw3_140 nw5_142 t_fault t_faultPlace c_tape rf_lines rf_steps rf_asksSure c_rf_kinds c_rf_features c_rf_compares c_rf_numbers
              let r_183 : Int32 := w_185.1
              let nw0_168 : Int32 := w_185.2.1
              let nw1_169 : Int32 := w_185.2.2.1
              let nw2_170 : Int32 := w_185.2.2.2.1
              let nw3_171 : Int32 := w_185.2.2.2.2.1
              let nw4_172 : Int32 := w_185.2.2.2.2.2.1
              let nw5_173 : Int64 := w_185.2.2.2.2.2.2.1
              let nw6_174 : Int32 := w_185.2.2.2.2.2.2.2.1
              let nw7_175 : Int32 := w_185.2.2.2.2.2.2.2.2.1
              let nw8_176 : Int32 := w_185.2.2.2.2.2.2.2.2.2.1
              let nw9_177 : Int32 := w_185.2.2.2.2.2.2.2.2.2.2.1
              let nw10_178 : Int32 := w_185.2.2.2.2.2.2.2.2.2.2.2.1
              let nw11_179 : Nat → Int32 := w_185.2.2.2.2.2.2.2.2.2.2.2.2.1
              let nw12_180 : Nat → Int32 := w_185.2.2.2.2.2.2.2.2.2.2.2.2.2.1
              let nw13_181 : Nat → Int32 := w_185.2.2.2.2.2.2.2.2.2.2.2.2.2.2.1
              let nw14_182 : Nat → Int32 := w_185.2.2.2.2.2.2.2.2.2.2.2.2.2.2.2
              if r_183 = 0 then (
                ((0 : Int32), nw0_168, nw1_169, nw2_170, nw3_171, nw4_172, nw5_173, nw6_174, nw7_175, nw8_176, nw9_177, nw10_178, nw11_179, nw12_180, nw13_181, nw14_182, rr_depth, c_rr_b, c_rf_partners)) else (
                let w_202 := F_Ru_beginBlock rr_depth t_length nw0_168 nw1_169 nw2_170 nw3_171 nw4_172 nw5_173 nw6_174 nw7_175 c_tape c_rr_b nw8_176
                let r_200 : Int32 := w_202.1
                let nw0_190 : Int32 := w_202.2.1
                let nw1_191 : Int32 := w_202.2.2.1
                let nw2_192 : Int32 := w_202.2.2.2.1
                let nw3_193 : Int32 := w_202.2.2.2.2.1
                let nw4_194 : Int32 := w_202.2.2.2.2.2.1
                let nw5_195 : Int32 := w_202.2.2.2.2.2.2.1
                let nw6_196 : Int64 := w_202.2.2.2.2.2.2.2.1
                let nw7_197 : Int32 := w_202.2.2.2.2.2.2.2.2.1
                let nw8_198 : Int32 := w_202.2.2.2.2.2.2.2.2.2.1
                let nw9_199 : Nat → Int32 := w_202.2.2.2.2.2.2.2.2.2.2
                if r_200 = 0 then (
                  ((0 : Int32), nw1_191, nw2_192, nw3_193, nw4_194, nw5_195, nw6_196, nw7_197, nw8_198, nw8_176, nw9_177, nw10_178, nw11_179, nw12_180, nw13_181, nw14_182, nw0_190, nw9_199, c_rf_partners)) else (
                  ((1 : Int32), nw1_191, nw2_192, nw3_193, nw4_194, nw5_195, nw6_196, nw7_197, nw8_198, nw8_176, nw9_177, nw10_178, nw11_179, nw12_180, nw13_181, nw14_182, nw0_190, nw9_199, c_rf_partners))))) else (
            let w_213 := F_Te_refuse t_kind t_start t_fault t_faultPlace 6
            let r_211 : Int32 := w_213.1
            let nw0_209 : Int32 := w_213.2.1
            let nw1_210 : Int32 := w_213.2.2
            (r_211, t_kind, t_start, t_end, t_number, t_sign, t_letters, nw0_209, nw1_210, rf_lines, rf_steps, rf_asksSure, c_rf_kinds, c_rf_features, c_rf_compares, c_rf_numbers, rr_depth, c_rr_b, c_rf_partners)))) else (
        let w_225 := F_Ru_plainKind t_length t_kind t_start t_end c_tape
        let r_223 : Int32 := w_225
        if rf_steps < 30 then (
          if rr_depth < 3 then (
            let w_238 := F_Te_advance t_length t_end t_number t_sign t_letters c_tape
            let nw0_230 : Int32 := w_238.1
            let nw1_231 : Int32 := w_238.2.1
            let nw2_232 : Int32 := w_238.2.2.1
            let nw3_233 : Int32 := w_238.2.2.2.1
            let nw4_234 : Int32 := w_238.2.2.2.2.1
            let nw5_235 : Int64 := w_238.2.2.2.2.2
            if r_6 = 0 then (
              let w_258 := F_Ru_readWhen h_features c_h_featureNames t_length nw0_230 nw1_231 nw2_232 nw4_234 nw3_233 nw5_235 t_fault t_faultPlace c_tape rf_lines rf_steps rf_asksSure c_rf_kinds c_rf_features c_rf_compares c_rf_numbers
              let r_256 : Int32 := w_258.1
              let nw0_241 : Int32 := w_258.2.1
              let nw1_242 : Int32 := w_258.2.2.1
              let nw2_243 : Int32 := w_258.2.2.2.1
              let nw3_244 : Int32 := w_258.2.2.2.2.1
              let nw4_245 : Int32 := w_258.2.2.2.2.2.1
              let nw5_246 : Int64 := w_258.2.2.2.2.2.2.1
              let nw6_247 : Int32 := w_258.2.2.2.2.2.2.2.1
              let nw7_248 : Int32 := w_258.2.2.2.2.2.2.2.2.1
              let nw8_249 : Int32 := w_258.2.2.2.2.2.2.2.2.2.1
              let nw9_250 : Int32 := w_258.2.2.2.2.2.2.2.2.2.2.1
              let nw10_251 : Int32 := w_258.2.2.2.2.2.2.2.2.2.2.2.1
              let nw11_252 : Nat → Int32 := w_258.2.2.2.2.2.2.2.2.2.2.2.2.1
              let nw12_253 : Nat → Int32 := w_258.2.2.2.2.2.2.2.2.2.2.2.2.2.1
              let nw13_254 : Nat → Int32 := w_258.2.2.2.2.2.2.2.2.2.2.2.2.2.2.1
              let nw14_255 : Nat → Int32 := w_258.2.2.2.2.2.2.2.2.2.2.2.2.2.2.2
              if r_256 = 0 then (
                ((0 : Int32), nw0_241, nw1_242, nw2_243, nw3_244, nw4_245, nw5_246, nw6_247, nw7_248, nw8_249, nw9_250, nw10_251, nw11_252, nw12_253, nw13_254, nw14_255, rr_depth, c_rr_b, c_rf_partners)) else (
                let w_275 := F_Ru_beginBlock rr_depth t_length nw0_241 nw1_242 nw2_243 nw3_244 nw4_245 nw5_246 nw6_247 nw7_248 c_tape c_rr_b nw8_249
                let r_273 : Int32 := w_275.1
                let nw0_263 : Int32 := w_275.2.1
                let nw1_264 : Int32 := w_275.2.2.1
                let nw2_265 : Int32 := w_275.2.2.2.1
                let nw3_266 : Int32 := w_275.2.2.2.2.1
                let nw4_267 : Int32 := w_275.2.2.2.2.2.1
                let nw5_268 : Int32 := w_275.2.2.2.2.2.2.1
                let nw6_269 : Int64 := w_275.2.2.2.2.2.2.2.1
                let nw7_270 : Int32 := w_275.2.2.2.2.2.2.2.2.1
                let nw8_271 : Int32 := w_275.2.2.2.2.2.2.2.2.2.1
                let nw9_272 : Nat → Int32 := w_275.2.2.2.2.2.2.2.2.2.2
                if r_273 = 0 then (
                  ((0 : Int32), nw1_264, nw2_265, nw3_266, nw4_267, nw5_268, nw6_269, nw7_270, nw8_271, nw8_249, nw9_250, nw10_251, nw11_252, nw12_253, nw13_254, nw14_255, nw0_263, nw9_272, c_rf_partners)) else (
                  ((1 : Int32), nw1_264, nw2_265, nw3_266, nw4_267, nw5_268, nw6_269, nw7_270, nw8_271, nw8_249, nw9_250, nw10_251, nw11_252, nw12_253, nw13_254, nw14_255, nw0_263, nw9_272, c_rf_partners)))) else (
              let w_299 := F_Ru_readLoop t_length nw0_230 nw1_231 nw2_232 nw4_234 nw3_233 nw5_235 t_fault t_faultPlace c_tape rf_lines rf_steps rf_asksSure c_rf_kinds c_rf_features c_rf_compares c_rf_numbers
              let r_297 : Int32 := w_299.1
              let nw0_282 : Int32 := w_299.2.1
              let nw1_283 : Int32 := w_299.2.2.1
              let nw2_284 : Int32 := w_299.2.2.2.1
              let nw3_285 : Int32 := w_299.2.2.2.2.1
              let nw4_286 : Int32 := w_299.2.2.2.2.2.1
              let nw5_287 : Int64 := w_299.2.2.2.2.2.2.1
              let nw6_288 : Int32 := w_299.2.2.2.2.2.2.2.1
              let nw7_289 : Int32 := w_299.2.2.2.2.2.2.2.2.1
              let nw8_290 : Int32 := w_299.2.2.2.2.2.2.2.2.2.1
              let nw9_291 : Int32 := w_299.2.2.2.2.2.2.2.2.2.2.1
              let nw10_292 : Int32 := w_299.2.2.2.2.2.2.2.2.2.2.2.1
              let nw11_293 : Nat → Int32 := w_299.2.2.2.2.2.2.2.2.2.2.2.2.1
              let nw12_294 : Nat → Int32 := w_299.2.2.2.2.2.2.2.2.2.2.2.2.2.1
              let nw13_295 : Nat → Int32 := w_299.2.2.2.2.2.2.2.2.2.2.2.2.2.2.1
              let nw14_296 : Nat → Int32 := w_299.2.2.2.2.2.2.2.2.2.2.2.2.2.2.2
              if r_297 = 0 then (
                ((0 : Int32), nw0_282, nw1_283, nw2_284, nw3_285, nw4_286, nw5_287, nw6_288, nw7_289, nw8_290, nw9_291, nw10_292, nw11_293, nw12_294, nw13_295, nw14_296, rr_depth, c_rr_b, c_rf_partners)) else (
                let w_316 := F_Ru_beginBlock rr_depth t_length nw0_282 nw1_283 nw2_284 nw3_285 nw4_286 nw5_287 nw6_288 nw7_289 c_tape c_rr_b nw8_290
                let r_314 : Int32 := w_316.1
                let nw0_304 : Int32 := w_316.2.1
                let nw1_305 : Int32 := w_316.2.2.1
                let nw2_306 : Int32 := w_316.2.2.2.1
                let nw3_307 : Int32 := w_316.2.2.2.2.1
                let nw4_308 : Int32 := w_316.2.2.2.2.2.1
                let nw5_309 : Int32 := w_316.2.2.2.2.2.2.1
                let nw6_310 : Int64 := w_316.2.2.2.2.2.2.2.1
                let nw7_311 : Int32 := w_316.2.2.2.2.2.2.2.2.1
                let nw8_312 : Int32 := w_316.2.2.2.2.2.2.2.2.2.1
                let nw9_313 : Nat → Int32 := w_316.2.2.2.2.2.2.2.2.2.2
                if r_314 = 0 then (
                  ((0 : Int32), nw1_305, nw2_306, nw3_307, nw4_308, nw5_309, nw6_310, nw7_311, nw8_312, nw8_290, nw9_291, nw10_292, nw11_293, nw12_294, nw13_295, nw14_296, nw0_304, nw9_313, c_rf_partners)) else (
                  ((1 : Int32), nw1_305, nw2_306, nw3_307, nw4_308, nw5_309, nw6_310, nw7_311, nw8_312, nw8_290, nw9_291, nw10_292, nw11_293, nw12_294, nw13_295, nw14_296, nw0_304, nw9_313, c_rf_partners))))) else (
            let w_327 := F_Te_refuse t_kind t_start t_fault t_faultPlace 7
            let r_325 : Int32 := w_327.1
            let nw0_323 : Int32 := w_327.2.1
            let nw1_324 : Int32 := w_327.2.2
            (r_325, t_kind, t_start, t_end, t_number, t_sign, t_letters, nw0_323, nw1_324, rf_lines, rf_steps, rf_asksSure, c_rf_kinds, c_rf_features, c_rf_compares, c_rf_numbers, rr_depth, c_rr_b, c_rf_partners))) else (
          let w_334 := F_Te_refuse t_kind t_start t_fault t_faultPlace 6
          let r_332 : Int32 := w_334.1
          let nw0_330 : Int32 := w_334.2.1
          let nw1_331 : Int32 := w_334.2.2
          (r_332, t_kind, t_start, t_end, t_number, t_sign, t_letters, nw0_330, nw1_331, rf_lines, rf_steps, rf_asksSure, c_rf_kinds, c_rf_features, c_rf_compares, c_rf_numbers, rr_depth, c_rr_b, c_rf_partners)))) else (
      let w_13 := F_Ru_plainKind t_length t_kind t_start t_end c_tape
      let r_11 : Int32 := w_13
      if rf_steps < 30 then (
        if rr_depth < 3 then (
          let w_26 := F_Te_advance t_length t_end t_number t_sign t_letters c_tape
          let nw0_18 : Int32 := w_26.1
          let nw1_19 : Int32 := w_26.2.1
          let nw2_20 : Int32 := w_26.2.2.1
          let nw3_21 : Int32 := w_26.2.2.2.1
          let nw4_22 : Int32 := w_26.2.2.2.2.1
          let nw5_23 : Int64 := w_26.2.2.2.2.2
          if r_6 = 0 then (
            let w_46 := F_Ru_readWhen h_features c_h_featureNames t_length nw0_18 nw1_19 nw2_20 nw4_22 nw3_21 nw5_23 t_fault t_faultPlace c_tape rf_lines rf_steps rf_asksSure c_rf_kinds c_rf_features c_rf_compares c_rf_numbers
            let r_44 : Int32 := w_46.1
            let nw0_29 : Int32 := w_46.2.1
            let nw1_30 : Int32 := w_46.2.2.1
            let nw2_31 : Int32 := w_46.2.2.2.1
            let nw3_32 : Int32 := w_46.2.2.2.2.1
            let nw4_33 : Int32 := w_46.2.2.2.2.2.1
            let nw5_34 : Int64 := w_46.2.2.2.2.2.2.1
            let nw6_35 : Int32 := w_46.2.2.2.2.2.2.2.1
            let nw7_36 : Int32 := w_46.2.2.2.2.2.2.2.2.1
            let nw8_37 : Int32 := w_46.2.2.2.2.2.2.2.2.2.1
            let nw9_38 : Int32 := w_46.2.2.2.2.2.2.2.2.2.2.1
            let nw10_39 : Int32 := w_46.2.2.2.2.2.2.2.2.2.2.2.1
            let nw11_40 : Nat → Int32 := w_46.2.2.2.2.2.2.2.2.2.2.2.2.1
            let nw12_41 : Nat → Int32 := w_46.2.2.2.2.2.2.2.2.2.2.2.2.2.1
            let nw13_42 : Nat → Int32 := w_46.2.2.2.2.2.2.2.2.2.2.2.2.2.2.1
            let nw14_43 : Nat → Int32 := w_46.2.2.2.2.2.2.2.2.2.2.2.2.2.2.2
            if r_44 = 0 then (
              ((0 : Int32), nw0_29, nw1_30, nw2_31, nw3_32, nw4_33, nw5_34, nw6_35, nw7_36, nw8_37, nw9_38, nw10_39, nw11_40, nw12_41, nw13_42, nw14_43, rr_depth, c_rr_b, c_rf_partners)) else (
              let w_63 := F_Ru_beginBlock rr_depth t_length nw0_29 nw1_30 nw2_31 nw3_32 nw4_33 nw5_34 nw6_35 nw7_36 c_tape c_rr_b nw8_37
              let r_61 : Int32 := w_63.1
              let nw0_51 : Int32 := w_63.2.1
              let nw1_52 : Int32 := w_63.2.2.1
              let nw2_53 : Int32 := w_63.2.2.2.1
              let nw3_54 : Int32 := w_63.2.2.2.2.1
              let nw4_55 : Int32 := w_63.2.2.2.2.2.1
              let nw5_56 : Int32 := w_63.2.2.2.2.2.2.1
              let nw6_57 : Int64 := w_63.2.2.2.2.2.2.2.1
              let nw7_58 : Int32 := w_63.2.2.2.2.2.2.2.2.1
              let nw8_59 : Int32 := w_63.2.2.2.2.2.2.2.2.2.1
              let nw9_60 : Nat → Int32 := w_63.2.2.2.2.2.2.2.2.2.2
              if r_61 = 0 then (
                ((0 : Int32), nw1_52, nw2_53, nw3_54, nw4_55, nw5_56, nw6_57, nw7_58, nw8_59, nw8_37, nw9_38, nw10_39, nw11_40, nw12_41, nw13_42, nw14_43, nw0_51, nw9_60, c_rf_partners)) else (
                ((1 : Int32), nw1_52, nw2_53, nw3_54, nw4_55, nw5_56, nw6_57, nw7_58, nw8_59, nw8_37, nw9_38, nw10_39, nw11_40, nw12_41, nw13_42, nw14_43, nw0_51, nw9_60, c_rf_partners)))) else (
            let w_87 := F_Ru_readLoop t_length nw0_18 nw1_19 nw2_20 nw4_22 nw3_21 nw5_23 t_fault t_faultPlace c_tape rf_lines rf_steps rf_asksSure c_rf_kinds c_rf_features c_rf_compares c_rf_numbers
            let r_85 : Int32 := w_87.1
            let nw0_70 : Int32 := w_87.2.1
            let nw1_71 : Int32 := w_87.2.2.1
            let nw2_72 : Int32 := w_87.2.2.2.1
            let nw3_73 : Int32 := w_87.2.2.2.2.1
            let nw4_74 : Int32 := w_87.2.2.2.2.2.1
            let nw5_75 : Int64 := w_87.2.2.2.2.2.2.1
            let nw6_76 : Int32 := w_87.2.2.2.2.2.2.2.1
            let nw7_77 : Int32 := w_87.2.2.2.2.2.2.2.2.1
            let nw8_78 : Int32 := w_87.2.2.2.2.2.2.2.2.2.1
            let nw9_79 : Int32 := w_87.2.2.2.2.2.2.2.2.2.2.1
            let nw10_80 : Int32 := w_87.2.2.2.2.2.2.2.2.2.2.2.1
            let nw11_81 : Nat → Int32 := w_87.2.2.2.2.2.2.2.2.2.2.2.2.1
            let nw12_82 : Nat → Int32 := w_87.2.2.2.2.2.2.2.2.2.2.2.2.2.1
            let nw13_83 : Nat → Int32 := w_87.2.2.2.2.2.2.2.2.2.2.2.2.2.2.1
            let nw14_84 : Nat → Int32 := w_87.2.2.2.2.2.2.2.2.2.2.2.2.2.2.2
            if r_85 = 0 then (
              ((0 : Int32), nw0_70, nw1_71, nw2_72, nw3_73, nw4_74, nw5_75, nw6_76, nw7_77, nw8_78, nw9_79, nw10_80, nw11_81, nw12_82, nw13_83, nw14_84, rr_depth, c_rr_b, c_rf_partners)) else (
              let w_104 := F_Ru_beginBlock rr_depth t_length nw0_70 nw1_71 nw2_72 nw3_73 nw4_74 nw5_75 nw6_76 nw7_77 c_tape c_rr_b nw8_78
              let r_102 : Int32 := w_104.1
              let nw0_92 : Int32 := w_104.2.1
              let nw1_93 : Int32 := w_104.2.2.1
              let nw2_94 : Int32 := w_104.2.2.2.1
              let nw3_95 : Int32 := w_104.2.2.2.2.1
              let nw4_96 : Int32 := w_104.2.2.2.2.2.1
              let nw5_97 : Int32 := w_104.2.2.2.2.2.2.1
              let nw6_98 : Int64 := w_104.2.2.2.2.2.2.2.1
              let nw7_99 : Int32 := w_104.2.2.2.2.2.2.2.2.1
              let nw8_100 : Int32 := w_104.2.2.2.2.2.2.2.2.2.1
              let nw9_101 : Nat → Int32 := w_104.2.2.2.2.2.2.2.2.2.2
              if r_102 = 0 then (
                ((0 : Int32), nw1_93, nw2_94, nw3_95, nw4_96, nw5_97, nw6_98, nw7_99, nw8_100, nw8_78, nw9_79, nw10_80, nw11_81, nw12_82, nw13_83, nw14_84, nw0_92, nw9_101, c_rf_partners)) else (
                ((1 : Int32), nw1_93, nw2_94, nw3_95, nw4_96, nw5_97, nw6_98, nw7_99, nw8_100, nw8_78, nw9_79, nw10_80, nw11_81, nw12_82, nw13_83, nw14_84, nw0_92, nw9_101, c_rf_partners))))) else (
          let w_115 := F_Te_refuse t_kind t_start t_fault t_faultPlace 7
          let r_113 : Int32 := w_115.1
          let nw0_111 : Int32 := w_115.2.1
          let nw1_112 : Int32 := w_115.2.2
          (r_113, t_kind, t_start, t_end, t_number, t_sign, t_letters, nw0_111, nw1_112, rf_lines, rf_steps, rf_asksSure, c_rf_kinds, c_rf_features, c_rf_compares, c_rf_numbers, rr_depth, c_rr_b, c_rf_partners))) else (
        let w_122 := F_Te_refuse t_kind t_start t_fault t_faultPlace 6
        let r_120 : Int32 := w_122.1
        let nw0_118 : Int32 := w_122.2.1
        let nw1_119 : Int32 := w_122.2.2
        (r_120, t_kind, t_start, t_end, t_number, t_sign, t_letters, nw0_118, nw1_119, rf_lines, rf_steps, rf_asksSure, c_rf_kinds, c_rf_features, c_rf_compares, c_rf_numbers, rr_depth, c_rr_b, c_rf_partners)))) else (
    let w_356 := F_Ru_readEnd rr_depth t_length t_kind t_start t_end t_number t_sign t_letters t_fault t_faultPlace c_tape c_rr_b rf_lines rf_steps rf_asksSure c_rf_kinds c_rf_features c_rf_compares c_rf_numbers c_rf_partners
    let r_354 : Int32 := w_356.1
    let nw0_337 : Int32 := w_356.2.1
    let nw1_338 : Int32 := w_356.2.2.1
    let nw2_339 : Int32 := w_356.2.2.2.1
    let nw3_340 : Int32 := w_356.2.2.2.2.1
    let nw4_341 : Int32 := w_356.2.2.2.2.2.1
    let nw5_342 : Int32 := w_356.2.2.2.2.2.2.1
    let nw6_343 : Int64 := w_356.2.2.2.2.2.2.2.1
    let nw7_344 : Int32 := w_356.2.2.2.2.2.2.2.2.1
    let nw8_345 : Int32 := w_356.2.2.2.2.2.2.2.2.2.1
    let nw9_346 : Int32 := w_356.2.2.2.2.2.2.2.2.2.2.1
    let nw10_347 : Int32 := w_356.2.2.2.2.2.2.2.2.2.2.2.1
    let nw11_348 : Int32 := w_356.2.2.2.2.2.2.2.2.2.2.2.2.1
    let nw12_349 : Nat → Int32 := w_356.2.2.2.2.2.2.2.2.2.2.2.2.2.1
    let nw13_350 : Nat → Int32 := w_356.2.2.2.2.2.2.2.2.2.2.2.2.2.2.1
    let nw14_351 : Nat → Int32 := w_356.2.2.2.2.2.2.2.2.2.2.2.2.2.2.2.1
    let nw15_352 : Nat → Int32 := w_356.2.2.2.2.2.2.2.2.2.2.2.2.2.2.2.2.1
    let nw16_353 : Nat → Int32 := w_356.2.2.2.2.2.2.2.2.2.2.2.2.2.2.2.2.2
    (r_354, nw1_338, nw2_339, nw3_340, nw4_341, nw5_342, nw6_343, nw7_344, nw8_345, nw9_346, nw10_347, nw11_348, nw12_349, nw13_350, nw14_351, nw15_352, nw0_337, c_rr_b, nw16_353))) := rfl
noncomputable def F_Ru_readAll_L14a (h_features : Int32) (c_h_featureNames : Nat → Int64) (t_length : Int32) (c_tape : Nat → Int32) : Nat → Int32 → Int32 → Int32 → Int32 → Int32 → Int32 → Int32 → Int64 → Int32 → Int32 → (Nat → Int32) → (Nat → Int32) → (Nat → Int32) → (Nat → Int32) → (Nat → Int32) → (Nat → Int32) → Int32 → Int32 → Int32 → (Int32 × Int32 × Int32 × Int32 × Int32 × Int32 × Int32 × Int64 × Int32 × Int32 × (Nat → Int32) × Int32 × Int32 × Int32 × (Nat → Int32) × (Nat → Int32) × (Nat → Int32) × (Nat → Int32) × (Nat → Int32)) := fun k9 => Nat.rec (motive := fun _ => Int32 → Int32 → Int32 → Int32 → Int32 → Int32 → Int32 → Int64 → Int32 → Int32 → (Nat → Int32) → (Nat → Int32) → (Nat → Int32) → (Nat → Int32) → (Nat → Int32) → (Nat → Int32) → Int32 → Int32 → Int32 → (Int32 × Int32 × Int32 × Int32 × Int32 × Int32 × Int32 × Int64 × Int32 × Int32 × (Nat → Int32) × Int32 × Int32 × Int32 × (Nat → Int32) × (Nat → Int32) × (Nat → Int32) × (Nat → Int32) × (Nat → Int32))) (fun _ _ _ _ _ _ _ _ _ _ _ _ _ _ _ _ _ _ _ => default) (fun _ (G_L14a : Int32 → Int32 → Int32 → Int32 → Int32 → Int32 → Int32 → Int64 → Int32 → Int32 → (Nat → Int32) → (Nat → Int32) → (Nat → Int32) → (Nat → Int32) → (Nat → Int32) → (Nat → Int32) → Int32 → Int32 → Int32 → (Int32 × Int32 × Int32 × Int32 × Int32 × Int32 × Int32 × Int64 × Int32 × Int32 × (Nat → Int32) × Int32 × Int32 × Int32 × (Nat → Int32) × (Nat → Int32) × (Nat → Int32) × (Nat → Int32) × (Nat → Int32))) => fun (v_83 : Int32) (v_84 : Int32) (v_85 : Int32) (v_86 : Int32) (v_87 : Int32) (v_88 : Int32) (v_89 : Int32) (v_90 : Int64) (v_91 : Int32) (v_92 : Int32) (g_93 : Nat → Int32) (g_94 : Nat → Int32) (g_95 : Nat → Int32) (g_96 : Nat → Int32) (g_97 : Nat → Int32) (g_98 : Nat → Int32) (v_99 : Int32) (v_100 : Int32) (v_101 : Int32) =>
    if 300 ≤ v_83 then (
      if v_91 = 0 then (
        if v_84 ≤ 0 then (
          if v_91 = 0 then (
            ((1 : Int32), v_84, v_85, v_86, v_87, v_88, v_89, v_90, v_91, v_92, g_93, v_99, v_100, v_101, g_94, g_95, g_96, g_97, g_98)) else (
            ((0 : Int32), v_84, v_85, v_86, v_87, v_88, v_89, v_90, v_91, v_92, g_93, v_99, v_100, v_101, g_94, g_95, g_96, g_97, g_98))) else (
          let w_191 := F_Te_refuse v_85 v_86 v_91 v_92 2
          let r_189 : Int32 := w_191.1
          let nw0_187 : Int32 := w_191.2.1
          let nw1_188 : Int32 := w_191.2.2
          (r_189, v_84, v_85, v_86, v_87, v_88, v_89, v_90, nw0_187, nw1_188, g_93, v_99, v_100, v_101, g_94, g_95, g_96, g_97, g_98))) else (
        if v_91 = 0 then (
          ((1 : Int32), v_84, v_85, v_86, v_87, v_88, v_89, v_90, v_91, v_92, g_93, v_99, v_100, v_101, g_94, g_95, g_96, g_97, g_98)) else (
          ((0 : Int32), v_84, v_85, v_86, v_87, v_88, v_89, v_90, v_91, v_92, g_93, v_99, v_100, v_101, g_94, g_95, g_96, g_97, g_98)))) else (
      let w_196 := F_Te_goesOn v_85 v_91
      let r_194 : Int32 := w_196
      if r_194 = 0 then (
        if v_91 = 0 then (
          if v_84 ≤ 0 then (
            if v_91 = 0 then (
              ((1 : Int32), v_84, v_85, v_86, v_87, v_88, v_89, v_90, v_91, v_92, g_93, v_99, v_100, v_101, g_94, g_95, g_96, g_97, g_98)) else (
              ((0 : Int32), v_84, v_85, v_86, v_87, v_88, v_89, v_90, v_91, v_92, g_93, v_99, v_100, v_101, g_94, g_95, g_96, g_97, g_98))) else (
            let w_219 := F_Te_refuse v_85 v_86 v_91 v_92 2
            let r_217 : Int32 := w_219.1
            let nw0_215 : Int32 := w_219.2.1
            let nw1_216 : Int32 := w_219.2.2
            (r_217, v_84, v_85, v_86, v_87, v_88, v_89, v_90, nw0_215, nw1_216, g_93, v_99, v_100, v_101, g_94, g_95, g_96, g_97, g_98))) else (
          if v_91 = 0 then (
            ((1 : Int32), v_84, v_85, v_86, v_87, v_88, v_89, v_90, v_91, v_92, g_93, v_99, v_100, v_101, g_94, g_95, g_96, g_97, g_98)) else (
            ((0 : Int32), v_84, v_85, v_86, v_87, v_88, v_89, v_90, v_91, v_92, g_93, v_99, v_100, v_101, g_94, g_95, g_96, g_97, g_98)))) else (
        let w_242 := F_Ru_readStep v_84 h_features c_h_featureNames t_length v_85 v_86 v_87 v_88 v_89 v_90 v_91 v_92 c_tape g_93 v_99 v_100 v_101 g_94 g_95 g_96 g_97 g_98
        let r_240 : Int32 := w_242.1
        let nw0_222 : Int32 := w_242.2.1
        let nw1_223 : Int32 := w_242.2.2.1
        let nw2_224 : Int32 := w_242.2.2.2.1
        let nw3_225 : Int32 := w_242.2.2.2.2.1
        let nw4_226 : Int32 := w_242.2.2.2.2.2.1
        let nw5_227 : Int64 := w_242.2.2.2.2.2.2.1
        let nw6_228 : Int32 := w_242.2.2.2.2.2.2.2.1
        let nw7_229 : Int32 := w_242.2.2.2.2.2.2.2.2.1
        let nw8_230 : Int32 := w_242.2.2.2.2.2.2.2.2.2.1
        let nw9_231 : Int32 := w_242.2.2.2.2.2.2.2.2.2.2.1
        let nw10_232 : Int32 := w_242.2.2.2.2.2.2.2.2.2.2.2.1
        let nw11_233 : Nat → Int32 := w_242.2.2.2.2.2.2.2.2.2.2.2.2.1
        let nw12_234 : Nat → Int32 := w_242.2.2.2.2.2.2.2.2.2.2.2.2.2.1
        let nw13_235 : Nat → Int32 := w_242.2.2.2.2.2.2.2.2.2.2.2.2.2.2.1
        let nw14_236 : Nat → Int32 := w_242.2.2.2.2.2.2.2.2.2.2.2.2.2.2.2.1
        let nw15_237 : Int32 := w_242.2.2.2.2.2.2.2.2.2.2.2.2.2.2.2.2.1
        let nw16_238 : Nat → Int32 := w_242.2.2.2.2.2.2.2.2.2.2.2.2.2.2.2.2.2.1
        let nw17_239 : Nat → Int32 := w_242.2.2.2.2.2.2.2.2.2.2.2.2.2.2.2.2.2.2
        G_L14a (v_83 + 1) nw15_237 nw0_222 nw1_223 nw2_224 nw3_225 nw4_226 nw5_227 nw6_228 nw7_229 nw16_238 nw11_233 nw12_234 nw13_235 nw14_236 nw17_239 nw8_230 nw9_231 nw10_232))) k9
theorem F_Ru_readAll_L14a_s (h_features : Int32) (c_h_featureNames : Nat → Int64) (t_length : Int32) (c_tape : Nat → Int32) (n9 : Nat) (v_83 : Int32) (v_84 : Int32) (v_85 : Int32) (v_86 : Int32) (v_87 : Int32) (v_88 : Int32) (v_89 : Int32) (v_90 : Int64) (v_91 : Int32) (v_92 : Int32) (g_93 : Nat → Int32) (g_94 : Nat → Int32) (g_95 : Nat → Int32) (g_96 : Nat → Int32) (g_97 : Nat → Int32) (g_98 : Nat → Int32) (v_99 : Int32) (v_100 : Int32) (v_101 : Int32) : F_Ru_readAll_L14a h_features c_h_featureNames t_length c_tape (n9 + 1) v_83 v_84 v_85 v_86 v_87 v_88 v_89 v_90 v_91 v_92 g_93 g_94 g_95 g_96 g_97 g_98 v_99 v_100 v_101 = (
    if 300 ≤ v_83 then (
      if v_91 = 0 then (
        if v_84 ≤ 0 then (
          if v_91 = 0 then (
            ((1 : Int32), v_84, v_85, v_86, v_87, v_88, v_89, v_90, v_91, v_92, g_93, v_99, v_100, v_101, g_94, g_95, g_96, g_97, g_98)) else (
            ((0 : Int32), v_84, v_85, v_86, v_87, v_88, v_89, v_90, v_91, v_92, g_93, v_99, v_100, v_101, g_94, g_95, g_96, g_97, g_98))) else (
          let w_191 := F_Te_refuse v_85 v_86 v_91 v_92 2
          let r_189 : Int32 := w_191.1
          let nw0_187 : Int32 := w_191.2.1
          let nw1_188 : Int32 := w_191.2.2
          (r_189, v_84, v_85, v_86, v_87, v_88, v_89, v_90, nw0_187, nw1_188, g_93, v_99, v_100, v_101, g_94, g_95, g_96, g_97, g_98))) else (
        if v_91 = 0 then (
          ((1 : Int32), v_84, v_85, v_86, v_87, v_88, v_89, v_90, v_91, v_92, g_93, v_99, v_100, v_101, g_94, g_95, g_96, g_97, g_98)) else (
          ((0 : Int32), v_84, v_85, v_86, v_87, v_88, v_89, v_90, v_91, v_92, g_93, v_99, v_100, v_101, g_94, g_95, g_96, g_97, g_98)))) else (
      let w_196 := F_Te_goesOn v_85 v_91
      let r_194 : Int32 := w_196
      if r_194 = 0 then (
        if v_91 = 0 then (
          if v_84 ≤ 0 then (
            if v_91 = 0 then (
              ((1 : Int32), v_84, v_85, v_86, v_87, v_88, v_89, v_90, v_91, v_92, g_93, v_99, v_100, v_101, g_94, g_95, g_96, g_97, g_98)) else (
              ((0 : Int32), v_84, v_85, v_86, v_87, v_88, v_89, v_90, v_91, v_92, g_93, v_99, v_100, v_101, g_94, g_95, g_96, g_97, g_98))) else (
            let w_219 := F_Te_refuse v_85 v_86 v_91 v_92 2
            let r_217 : Int32 := w_219.1
            let nw0_215 : Int32 := w_219.2.1
            let nw1_216 : Int32 := w_219.2.2
            (r_217, v_84, v_85, v_86, v_87, v_88, v_89, v_90, nw0_215, nw1_216, g_93, v_99, v_100, v_101, g_94, g_95, g_96, g_97, g_98))) else (
          if v_91 = 0 then (
            ((1 : Int32), v_84, v_85, v_86, v_87, v_88, v_89, v_90, v_91, v_92, g_93, v_99, v_100, v_101, g_94, g_95, g_96, g_97, g_98)) else (
            ((0 : Int32), v_84, v_85, v_86, v_87, v_88, v_89, v_90, v_91, v_92, g_93, v_99, v_100, v_101, g_94, g_95, g_96, g_97, g_98)))) else (
        let w_242 := F_Ru_readStep v_84 h_features c_h_featureNames t_length v_85 v_86 v_87 v_88 v_89 v_90 v_91 v_92 c_tape g_93 v_99 v_100 v_101 g_94 g_95 g_96 g_97 g_98
        let r_240 : Int32 := w_242.1
        let nw0_222 : Int32 := w_242.2.1
        let nw1_223 : Int32 := w_242.2.2.1
        let nw2_224 : Int32 := w_242.2.2.2.1
        let nw3_225 : Int32 := w_242.2.2.2.2.1
        let nw4_226 : Int32 := w_242.2.2.2.2.2.1
        let nw5_227 : Int64 := w_242.2.2.2.2.2.2.1
        let nw6_228 : Int32 := w_242.2.2.2.2.2.2.2.1
        let nw7_229 : Int32 := w_242.2.2.2.2.2.2.2.2.1
        let nw8_230 : Int32 := w_242.2.2.2.2.2.2.2.2.2.1
        let nw9_231 : Int32 := w_242.2.2.2.2.2.2.2.2.2.2.1
        let nw10_232 : Int32 := w_242.2.2.2.2.2.2.2.2.2.2.2.1
        let nw11_233 : Nat → Int32 := w_242.2.2.2.2.2.2.2.2.2.2.2.2.1
        let nw12_234 : Nat → Int32 := w_242.2.2.2.2.2.2.2.2.2.2.2.2.2.1
        let nw13_235 : Nat → Int32 := w_242.2.2.2.2.2.2.2.2.2.2.2.2.2.2.1
        let nw14_236 : Nat → Int32 := w_242.2.2.2.2.2.2.2.2.2.2.2.2.2.2.2.1
        let nw15_237 : Int32 := w_242.2.2.2.2.2.2.2.2.2.2.2.2.2.2.2.2.1
        let nw16_238 : Nat → Int32 := w_242.2.2.2.2.2.2.2.2.2.2.2.2.2.2.2.2.2.1
        let nw17_239 : Nat → Int32 := w_242.2.2.2.2.2.2.2.2.2.2.2.2.2.2.2.2.2.2
        (F_Ru_readAll_L14a h_features c_h_featureNames t_length c_tape n9) (v_83 + 1) nw15_237 nw0_222 nw1_223 nw2_224 nw3_225 nw4_226 nw5_227 nw6_228 nw7_229 nw16_238 nw11_233 nw12_234 nw13_235 nw14_236 nw17_239 nw8_230 nw9_231 nw10_232))) := rfl
noncomputable def F_Ru_readAll (h_features : Int32) (c_h_featureNames : Nat → Int64) (t_length : Int32) (t_kind : Int32) (t_start : Int32) (t_end : Int32) (t_number : Int32) (t_sign : Int32) (t_letters : Int64) (t_fault : Int32) (t_faultPlace : Int32) (c_tape : Nat → Int32) (c_rr_b : Nat → Int32) (c_rf_kinds : Nat → Int32) (c_rf_features : Nat → Int32) (c_rf_compares : Nat → Int32) (c_rf_numbers : Nat → Int32) (c_rf_partners : Nat → Int32) : Int32 × Int32 × Int32 × Int32 × Int32 × Int32 × Int32 × Int64 × Int32 × Int32 × (Nat → Int32) × Int32 × Int32 × Int32 × (Nat → Int32) × (Nat → Int32) × (Nat → Int32) × (Nat → Int32) × (Nat → Int32) :=
  let w_6 := F_Ru_clear
  let nw0_1 : Int32 := w_6.1
  let nw1_2 : Int32 := w_6.2.1
  let nw2_3 : Int32 := w_6.2.2
  F_Ru_readAll_L14a h_features c_h_featureNames t_length c_tape ((2147483647 - (0 : Int32).toInt).toNat + 1) (0 : Int32) (0 : Int32) t_kind t_start t_end t_number t_sign t_letters t_fault t_faultPlace c_rr_b c_rf_kinds c_rf_features c_rf_compares c_rf_numbers c_rf_partners nw0_1 nw1_2 nw2_3
theorem F_Ru_readAll_s (h_features : Int32) (c_h_featureNames : Nat → Int64) (t_length : Int32) (t_kind : Int32) (t_start : Int32) (t_end : Int32) (t_number : Int32) (t_sign : Int32) (t_letters : Int64) (t_fault : Int32) (t_faultPlace : Int32) (c_tape : Nat → Int32) (c_rr_b : Nat → Int32) (c_rf_kinds : Nat → Int32) (c_rf_features : Nat → Int32) (c_rf_compares : Nat → Int32) (c_rf_numbers : Nat → Int32) (c_rf_partners : Nat → Int32) : F_Ru_readAll h_features c_h_featureNames t_length t_kind t_start t_end t_number t_sign t_letters t_fault t_faultPlace c_tape c_rr_b c_rf_kinds c_rf_features c_rf_compares c_rf_numbers c_rf_partners = (
  let w_6 := F_Ru_clear
  let nw0_1 : Int32 := w_6.1
  let nw1_2 : Int32 := w_6.2.1
  let nw2_3 : Int32 := w_6.2.2
  F_Ru_readAll_L14a h_features c_h_featureNames t_length c_tape ((2147483647 - (0 : Int32).toInt).toNat + 1) (0 : Int32) (0 : Int32) t_kind t_start t_end t_number t_sign t_letters t_fault t_faultPlace c_rr_b c_rf_kinds c_rf_features c_rf_compares c_rf_numbers c_rf_partners nw0_1 nw1_2 nw2_3) := rfl
