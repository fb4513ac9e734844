noncomputable def F_Ho_readRound_L28a (t_length : Int32) (c_tape : Nat → Int32) (c_n_d : Nat → Int64) (hf_doors : Int32) : Nat → Int32 → Int32 → (Nat → Int32) → Int32 → Int32 → Int32 → Int32 → Int32 → Int64 → Int32 → Int32 → (Int32 × Int32 × Int32 × Int32 × Int32 × Int32 × Int64 × Int32 × Int32 × Int32 × (Nat → Int32)) := fun k9 => Nat.rec (motive := fun _ => Int32 → Int32 → (Nat → Int32) → Int32 → Int32 → Int32 → Int32 → Int32 → Int64 → Int32 → Int32 → (Int32 × Int32 × Int32 × Int32 × Int32 × Int32 × Int64 × Int32 × Int32 × Int32 × (Nat → Int32))) (fun _ _ _ _ _ _ _ _ _ _ _ => default) (fun _ (G_L28a : Int32 → Int32 → (Nat → Int32) → Int32 → Int32 → Int32 → Int32 → Int32 → Int64 → Int32 → Int32 → (Int32 × Int32 × Int32 × Int32 × Int32 × Int32 × Int64 × Int32 × Int32 × Int32 × (Nat → Int32))) => fun (v_117 : Int32) (v_118 : Int32) (g_119 : Nat → Int32) (v_120 : Int32) (v_121 : Int32) (v_122 : Int32) (v_123 : Int32) (v_124 : Int32) (v_125 : Int64) (v_126 : Int32) (v_127 : Int32) =>
    if 12 < v_117 then (
      let w_237 := F_Te_takeSign t_length v_120 v_121 v_122 v_123 v_124 v_125 v_126 v_127 c_tape 59
      let r_235 : Int32 := w_237.1
      let nw0_227 : Int32 := w_237.2.1
      let nw1_228 : Int32 := w_237.2.2.1
      let nw2_229 : Int32 := w_237.2.2.2.1
      let nw3_230 : Int32 := w_237.2.2.2.2.1
      let nw4_231 : Int32 := w_237.2.2.2.2.2.1
      let nw5_232 : Int64 := w_237.2.2.2.2.2.2.1
      let nw6_233 : Int32 := w_237.2.2.2.2.2.2.2.1
      let nw7_234 : Int32 := w_237.2.2.2.2.2.2.2.2
      (r_235, nw0_227, nw1_228, nw2_229, nw3_230, nw4_231, nw5_232, nw6_233, nw7_234, v_118, g_119)) else (
      if v_117 = 0 then (
        let w_246 := F_HR_thing_d t_length v_120 v_121 v_122 v_125 v_126 v_127 c_tape c_n_d hf_doors
        let r_244 : Int32 := w_246.1
        let nw0_242 : Int32 := w_246.2.1
        let nw1_243 : Int32 := w_246.2.2
        if r_244 = (-1) then (
          ((0 : Int32), v_120, v_121, v_122, v_123, v_124, v_125, nw0_242, nw1_243, v_118, g_119)) else (
          if v_117 < 12 then (
            let w_255 := F_H_addToRound v_118 g_119 r_244
            let nw0_251 : Int32 := w_255.1
            let nw1_252 : Nat → Int32 := w_255.2
            let w_264 := F_Te_advance t_length v_122 v_123 v_124 v_125 c_tape
            let nw0_256 : Int32 := w_264.1
            let nw1_257 : Int32 := w_264.2.1
            let nw2_258 : Int32 := w_264.2.2.1
            let nw3_259 : Int32 := w_264.2.2.2.1
            let nw4_260 : Int32 := w_264.2.2.2.2.1
            let nw5_261 : Int64 := w_264.2.2.2.2.2
            G_L28a (v_117 + 1) nw0_251 nw1_252 nw0_256 nw1_257 nw2_258 nw4_260 nw3_259 nw5_261 nw0_242 nw1_243) else (
            let w_271 := F_Te_refuse v_120 v_121 nw0_242 nw1_243 6
            let r_269 : Int32 := w_271.1
            let nw0_267 : Int32 := w_271.2.1
            let nw1_268 : Int32 := w_271.2.2
            (r_269, v_120, v_121, v_122, v_123, v_124, v_125, nw0_267, nw1_268, v_118, g_119)))) else (
        let w_278 := F_Te_isSign v_120 v_124 59
        let r_276 : Int32 := w_278
        if r_276 = 0 then (
          let w_298 := F_HR_thing_d t_length v_120 v_121 v_122 v_125 v_126 v_127 c_tape c_n_d hf_doors
          let r_296 : Int32 := w_298.1
          let nw0_294 : Int32 := w_298.2.1
          let nw1_295 : Int32 := w_298.2.2
          if r_296 = (-1) then (
            ((0 : Int32), v_120, v_121, v_122, v_123, v_124, v_125, nw0_294, nw1_295, v_118, g_119)) else (
            if v_117 < 12 then (
              let w_307 := F_H_addToRound v_118 g_119 r_296
              let nw0_303 : Int32 := w_307.1
              let nw1_304 : Nat → Int32 := w_307.2
              let w_316 := F_Te_advance t_length v_122 v_123 v_124 v_125 c_tape
              let nw0_308 : Int32 := w_316.1
              let nw1_309 : Int32 := w_316.2.1
              let nw2_310 : Int32 := w_316.2.2.1
              let nw3_311 : Int32 := w_316.2.2.2.1
              let nw4_312 : Int32 := w_316.2.2.2.2.1
              let nw5_313 : Int64 := w_316.2.2.2.2.2
              G_L28a (v_117 + 1) nw0_303 nw1_304 nw0_308 nw1_309 nw2_310 nw4_312 nw3_311 nw5_313 nw0_294 nw1_295) else (
              let w_323 := F_Te_refuse v_120 v_121 nw0_294 nw1_295 6
              let r_321 : Int32 := w_323.1
              let nw0_319 : Int32 := w_323.2.1
              let nw1_320 : Int32 := w_323.2.2
              (r_321, v_120, v_121, v_122, v_123, v_124, v_125, nw0_319, nw1_320, v_118, g_119)))) else (
          let w_291 := F_Te_takeSign t_length v_120 v_121 v_122 v_123 v_124 v_125 v_126 v_127 c_tape 59
          let r_289 : Int32 := w_291.1
          let nw0_281 : Int32 := w_291.2.1
          let nw1_282 : Int32 := w_291.2.2.1
          let nw2_283 : Int32 := w_291.2.2.2.1
          let nw3_284 : Int32 := w_291.2.2.2.2.1
          let nw4_285 : Int32 := w_291.2.2.2.2.2.1
          let nw5_286 : Int64 := w_291.2.2.2.2.2.2.1
          let nw6_287 : Int32 := w_291.2.2.2.2.2.2.2.1
          let nw7_288 : Int32 := w_291.2.2.2.2.2.2.2.2
          (r_289, nw0_281, nw1_282, nw2_283, nw3_284, nw4_285, nw5_286, nw6_287, nw7_288, v_118, g_119))))) k9
theorem F_Ho_readRound_L28a_s (t_length : Int32) (c_tape : Nat → Int32) (c_n_d : Nat → Int64) (hf_doors : Int32) (n9 : Nat) (v_117 : Int32) (v_118 : Int32) (g_119 : Nat → Int32) (v_120 : Int32) (v_121 : Int32) (v_122 : Int32) (v_123 : Int32) (v_124 : Int32) (v_125 : Int64) (v_126 : Int32) (v_127 : Int32) : F_Ho_readRound_L28a t_length c_tape c_n_d hf_doors (n9 + 1) v_117 v_118 g_119 v_120 v_121 v_122 v_123 v_124 v_125 v_126 v_127 = (
    if 12 < v_117 then (
      let w_237 := F_Te_takeSign t_length v_120 v_121 v_122 v_123 v_124 v_125 v_126 v_127 c_tape 59
      let r_235 : Int32 := w_237.1
      let nw0_227 : Int32 := w_237.2.1
      let nw1_228 : Int32 := w_237.2.2.1
      let nw2_229 : Int32 := w_237.2.2.2.1
      let nw3_230 : Int32 := w_237.2.2.2.2.1
      let nw4_231 : Int32 := w_237.2.2.2.2.2.1
      let nw5_232 : Int64 := w_237.2.2.2.2.2.2.1
      let nw6_233 : Int32 := w_237.2.2.2.2.2.2.2.1
      let nw7_234 : Int32 := w_237.2.2.2.2.2.2.2.2
      (r_235, nw0_227, nw1_228, nw2_229, nw3_230, nw4_231, nw5_232, nw6_233, nw7_234, v_118, g_119)) else (
      if v_117 = 0 then (
        let w_246 := F_HR_thing_d t_length v_120 v_121 v_122 v_125 v_126 v_127 c_tape c_n_d hf_doors
        let r_244 : Int32 := w_246.1
        let nw0_242 : Int32 := w_246.2.1
        let nw1_243 : Int32 := w_246.2.2
        if r_244 = (-1) then (
          ((0 : Int32), v_120, v_121, v_122, v_123, v_124, v_125, nw0_242, nw1_243, v_118, g_119)) else (
          if v_117 < 12 then (
            let w_255 := F_H_addToRound v_118 g_119 r_244
            let nw0_251 : Int32 := w_255.1
            let nw1_252 : Nat → Int32 := w_255.2
            let w_264 := F_Te_advance t_length v_122 v_123 v_124 v_125 c_tape
            let nw0_256 : Int32 := w_264.1
            let nw1_257 : Int32 := w_264.2.1
            let nw2_258 : Int32 := w_264.2.2.1
            let nw3_259 : Int32 := w_264.2.2.2.1
            let nw4_260 : Int32 := w_264.2.2.2.2.1
            let nw5_261 : Int64 := w_264.2.2.2.2.2
            (F_Ho_readRound_L28a t_length c_tape c_n_d hf_doors n9) (v_117 + 1) nw0_251 nw1_252 nw0_256 nw1_257 nw2_258 nw4_260 nw3_259 nw5_261 nw0_242 nw1_243) else (
            let w_271 := F_Te_refuse v_120 v_121 nw0_242 nw1_243 6
            let r_269 : Int32 := w_271.1
            let nw0_267 : Int32 := w_271.2.1
            let nw1_268 : Int32 := w_271.2.2
            (r_269, v_120, v_121, v_122, v_123, v_124, v_125, nw0_267, nw1_268, v_118, g_119)))) else (
        let w_278 := F_Te_isSign v_120 v_124 59
        let r_276 : Int32 := w_278
        if r_276 = 0 then (
          let w_298 := F_HR_thing_d t_length v_120 v_121 v_122 v_125 v_126 v_127 c_tape c_n_d hf_doors
          let r_296 : Int32 := w_298.1
          let nw0_294 : Int32 := w_298.2.1
          let nw1_295 : Int32 := w_298.2.2
          if r_296 = (-1) then (
            ((0 : Int32), v_120, v_121, v_122, v_123, v_124, v_125, nw0_294, nw1_295, v_118, g_119)) else (
            if v_117 < 12 then (
              let w_307 := F_H_addToRound v_118 g_119 r_296
              let nw0_303 : Int32 := w_307.1
              let nw1_304 : Nat → Int32 := w_307.2
              let w_316 := F_Te_advance t_length v_122 v_123 v_124 v_125 c_tape
              let nw0_308 : Int32 := w_316.1
              let nw1_309 : Int32 := w_316.2.1
              let nw2_310 : Int32 := w_316.2.2.1
              let nw3_311 : Int32 := w_316.2.2.2.1
              let nw4_312 : Int32 := w_316.2.2.2.2.1
              let nw5_313 : Int64 := w_316.2.2.2.2.2
              (F_Ho_readRound_L28a t_length c_tape c_n_d hf_doors n9) (v_117 + 1) nw0_303 nw1_304 nw0_308 nw1_309 nw2_310 nw4_312 nw3_311 nw5_313 nw0_294 nw1_295) else (
              let w_323 := F_Te_refuse v_120 v_121 nw0_294 nw1_295 6
              let r_321 : Int32 := w_323.1
              let nw0_319 : Int32 := w_323.2.1
              let nw1_320 : Int32 := w_323.2.2
              (r_321, v_120, v_121, v_122, v_123, v_124, v_125, nw0_319, nw1_320, v_118, g_119)))) else (
          let w_291 := F_Te_takeSign t_length v_120 v_121 v_122 v_123 v_124 v_125 v_126 v_127 c_tape 59
          let r_289 : Int32 := w_291.1
          let nw0_281 : Int32 := w_291.2.1
          let nw1_282 : Int32 := w_291.2.2.1
          let nw2_283 : Int32 := w_291.2.2.2.1
          let nw3_284 : Int32 := w_291.2.2.2.2.1
          let nw4_285 : Int32 := w_291.2.2.2.2.2.1
          let nw5_286 : Int64 := w_291.2.2.2.2.2.2.1
          let nw6_287 : Int32 := w_291.2.2.2.2.2.2.2.1
          let nw7_288 : Int32 := w_291.2.2.2.2.2.2.2.2
          (r_289, nw0_281, nw1_282, nw2_283, nw3_284, nw4_285, nw5_286, nw6_287, nw7_288, v_118, g_119))))) := rfl
noncomputable def F_Ho_readRound (t_length : Int32) (t_kind : Int32) (t_start : Int32) (t_end : Int32) (t_number : Int32) (t_sign : Int32) (t_letters : Int64) (t_fault : Int32) (t_faultPlace : Int32) (c_tape : Nat → Int32) (c_n_d : Nat → Int64) (hf_doors : Int32) (hf_roundMany : Int32) (c_hf_roundDoors : Nat → Int32) : Int32 × Int32 × Int32 × Int32 × Int32 × Int32 × Int64 × Int32 × Int32 × Int32 × (Nat → Int32) :=
  if hf_roundMany ≤ 0 then (
    let w_11 := F_Te_advance t_length t_end t_number t_sign t_letters c_tape
    let nw0_3 : Int32 := w_11.1
    let nw1_4 : Int32 := w_11.2.1
    let nw2_5 : Int32 := w_11.2.2.1
    let nw3_6 : Int32 := w_11.2.2.2.1
    let nw4_7 : Int32 := w_11.2.2.2.2.1
    let nw5_8 : Int64 := w_11.2.2.2.2.2
    F_Ho_readRound_L28a t_length c_tape c_n_d hf_doors ((2147483647 - (0 : Int32).toInt).toNat + 1) (0 : Int32) hf_roundMany c_hf_roundDoors nw0_3 nw1_4 nw2_5 nw4_7 nw3_6 nw5_8 t_fault t_faultPlace) else (
    let w_333 := F_Te_refuse t_kind t_start t_fault t_faultPlace 5
    let r_331 : Int32 := w_333.1
    let nw0_329 : Int32 := w_333.2.1
    let nw1_330 : Int32 := w_333.2.2
    (r_331, t_kind, t_start, t_end, t_number, t_sign, t_letters, nw0_329, nw1_330, hf_roundMany, c_hf_roundDoors))
theorem F_Ho_readRound_s (t_length : Int32) (t_kind : Int32) (t_start : Int32) (t_end : Int32) (t_number : Int32) (t_sign : Int32) (t_letters : Int64) (t_fault : Int32) (t_faultPlace : Int32) (c_tape : Nat → Int32) (c_n_d : Nat → Int64) (hf_doors : Int32) (hf_roundMany : Int32) (c_hf_roundDoors : Nat → Int32) : F_Ho_readRound t_length t_kind t_start t_end t_number t_sign t_letters t_fault t_faultPlace c_tape c_n_d hf_doors hf_roundMany c_hf_roundDoors = (
  if hf_roundMany ≤ 0 then (
    let w_11 := F_Te_advance t_length t_end t_number t_sign t_letters c_tape
    let nw0_3 : Int32 := w_11.1
    let nw1_4 : Int32 := w_11.2.1
    let nw2_5 : Int32 := w_11.2.2.1
    let nw3_6 : Int32 := w_11.2.2.2.1
    let nw4_7 : Int32 := w_11.2.2.2.2.1
    let nw5_8 : Int64 := w_11.2.2.2.2.2
    F_Ho_readRound_L28a t_length c_tape c_n_d hf_doors ((2147483647 - (0 : Int32).toInt).toNat + 1) (0 : Int32) hf_roundMany c_hf_roundDoors nw0_3 nw1_4 nw2_5 nw4_7 nw3_6 nw5_8 t_fault t_faultPlace) else (
    let w_333 := F_Te_refuse t_kind t_start t_fault t_faultPlace 5
    let r_331 : Int32 := w_333.1
    let nw0_329 : Int32 := w_333.2.1
    let nw1_330 : Int32 := w_333.2.2
    (r_331, t_kind, t_start, t_end, t_number, t_sign, t_letters, nw0_329, nw1_330, hf_roundMany, c_hf_roundDoors))) := rfl
noncomputable def F_Ru_takeFeature (h_features : Int32) (c_h_featureNames : Nat → Int64) (t_length : Int32) (t_kind : Int32) (t_start : Int32) (t_end : Int32) (t_number : Int32) (t_sign : Int32) (t_letters : Int64) (t_fault : Int32) (t_faultPlace : Int32) (c_tape : Nat → Int32) : Int32 × Int32 × Int32 × Int32 × Int32 × Int32 × Int64 × Int32 × Int32 :=
  let w_3 := F_Te_isName t_length t_kind t_start t_end t_letters c_tape
  let r_1 : Int32 := w_3
  if r_1 = 0 then (
    let w_33 := F_Te_refuse t_kind t_start t_fault t_faultPlace 2
    let r_31 : Int32 := w_33.1
    let nw0_29 : Int32 := w_33.2.1
    let nw1_30 : Int32 := w_33.2.2
    ((-1 : Int32), t_kind, t_start, t_end, t_number, t_sign, t_letters, nw0_29, nw1_30)) else (
    let w_8 := F_H_featureNamed h_features c_h_featureNames t_letters
    let r_6 : Int32 := w_8
    if r_6 = (-1) then (
      let w_26 := F_Te_refuse t_kind t_start t_fault t_faultPlace 3
      let r_24 : Int32 := w_26.1
      let nw0_22 : Int32 := w_26.2.1
      let nw1_23 : Int32 := w_26.2.2
      (r_6, t_kind, t_start, t_end, t_number, t_sign, t_letters, nw0_22, nw1_23)) else (
      let w_19 := F_Te_advance t_length t_end t_number t_sign t_letters c_tape
      let nw0_11 : Int32 := w_19.1
      let nw1_12 : Int32 := w_19.2.1
      let nw2_13 : Int32 := w_19.2.2.1
      let nw3_14 : Int32 := w_19.2.2.2.1
      let nw4_15 : Int32 := w_19.2.2.2.2.1
      let nw5_16 : Int64 := w_19.2.2.2.2.2
      (r_6, nw0_11, nw1_12, nw2_13, nw4_15, nw3_14, nw5_16, t_fault, t_faultPlace)))
theorem F_Ru_takeFeature_s (h_features : Int32) (c_h_featureNames : Nat → Int64) (t_length : Int32) (t_kind : Int32) (t_start : Int32) (t_end : Int32) (t_number : Int32) (t_sign : Int32) (t_letters : Int64) (t_fault : Int32) (t_faultPlace : Int32) (c_tape : Nat → Int32) : F_Ru_takeFeature h_features c_h_featureNames t_length t_kind t_start t_end t_number t_sign t_letters t_fault t_faultPlace c_tape = (
  let w_3 := F_Te_isName t_length t_kind t_start t_end t_letters c_tape
  let r_1 : Int32 := w_3
  if r_1 = 0 then (
    let w_33 := F_Te_refuse t_kind t_start t_fault t_faultPlace 2
    let r_31 : Int32 := w_33.1
    let nw0_29 : Int32 := w_33.2.1
    let nw1_30 : Int32 := w_33.2.2
    ((-1 : Int32), t_kind, t_start, t_end, t_number, t_sign, t_letters, nw0_29, nw1_30)) else (
    let w_8 := F_H_featureNamed h_features c_h_featureNames t_letters
    let r_6 : Int32 := w_8
    if r_6 = (-1) then (
      let w_26 := F_Te_refuse t_kind t_start t_fault t_faultPlace 3
      let r_24 : Int32 := w_26.1
      let nw0_22 : Int32 := w_26.2.1
      let nw1_23 : Int32 := w_26.2.2
      (r_6, t_kind, t_start, t_end, t_number, t_sign, t_letters, nw0_22, nw1_23)) else (
      let w_19 := F_Te_advance t_length t_end t_number t_sign t_letters c_tape
      let nw0_11 : Int32 := w_19.1
      let nw1_12 : Int32 := w_19.2.1
      let nw2_13 : Int32 := w_19.2.2.1
      let nw3_14 : Int32 := w_19.2.2.2.1
      let nw4_15 : Int32 := w_19.2.2.2.2.1
      let nw5_16 : Int64 := w_19.2.2.2.2.2
      (r_6, nw0_11, nw1_12, nw2_13, nw4_15, nw3_14, nw5_16, t_fault, t_faultPlace)))) := rfl
noncomputable def F_Ru_readPlain (h_features : Int32) (c_h_featureNames : Nat → Int64) (t_length : Int32) (t_kind : Int32) (t_start : Int32) (t_end : Int32) (t_number : Int32) (t_sign : Int32) (t_letters : Int64) (t_fault : Int32) (t_faultPlace : Int32) (c_tape : Nat → Int32) (rf_lines : Int32) (rf_steps : Int32) (rf_asksSure : Int32) (c_rf_kinds : Nat → Int32) (c_rf_features : Nat → Int32) (c_rf_compares : Nat → Int32) (c_rf_numbers : Nat → Int32) (k : Int32) : Int32 × Int32 × Int32 × Int32 × Int32 × Int32 × Int64 × Int32 × Int32 × Int32 × Int32 × Int32 × (Nat → Int32) × (Nat → Int32) × (Nat → Int32) × (Nat → Int32) :=
  if k = 0 then (
    let w_36 := F_Ru_takeFeature h_features c_h_featureNames t_length t_kind t_start t_end t_number t_sign t_letters t_fault t_faultPlace c_tape
    let r_34 : Int32 := w_36.1
    let nw0_26 : Int32 := w_36.2.1
    let nw1_27 : Int32 := w_36.2.2.1
    let nw2_28 : Int32 := w_36.2.2.2.1
    let nw3_29 : Int32 := w_36.2.2.2.2.1
    let nw4_30 : Int32 := w_36.2.2.2.2.2.1
    let nw5_31 : Int64 := w_36.2.2.2.2.2.2.1
    let nw6_32 : Int32 := w_36.2.2.2.2.2.2.2.1
    let nw7_33 : Int32 := w_36.2.2.2.2.2.2.2.2
    if r_34 = (-1) then (
      ((0 : Int32), nw0_26, nw1_27, nw2_28, nw3_29, nw4_30, nw5_31, nw6_32, nw7_33, rf_lines, rf_steps, rf_asksSure, c_rf_kinds, c_rf_features, c_rf_compares, c_rf_numbers)) else (
      let w_48 := F_Ru_add rf_lines rf_steps rf_asksSure c_rf_kinds c_rf_features c_rf_compares c_rf_numbers k r_34 0 0
      let nw0_39 : Int32 := w_48.1
      let nw1_40 : Nat → Int32 := w_48.2.1
      let nw2_41 : Nat → Int32 := w_48.2.2.1
      let nw3_42 : Nat → Int32 := w_48.2.2.2.1
      let nw4_43 : Nat → Int32 := w_48.2.2.2.2.1
      let nw5_44 : Int32 := w_48.2.2.2.2.2.1
      let nw6_45 : Int32 := w_48.2.2.2.2.2.2
      let w_59 := F_Te_takeSign t_length nw0_26 nw1_27 nw2_28 nw3_29 nw4_30 nw5_31 nw6_32 nw7_33 c_tape 59
      let r_57 : Int32 := w_59.1
      let nw0_49 : Int32 := w_59.2.1
      let nw1_50 : Int32 := w_59.2.2.1
      let nw2_51 : Int32 := w_59.2.2.2.1
      let nw3_52 : Int32 := w_59.2.2.2.2.1
      let nw4_53 : Int32 := w_59.2.2.2.2.2.1
      let nw5_54 : Int64 := w_59.2.2.2.2.2.2.1
      let nw6_55 : Int32 := w_59.2.2.2.2.2.2.2.1
      let nw7_56 : Int32 := w_59.2.2.2.2.2.2.2.2
      (r_57, nw0_49, nw1_50, nw2_51, nw3_52, nw4_53, nw5_54, nw6_55, nw7_56, nw0_39, nw6_45, nw5_44, nw1_40, nw2_41, nw3_42, nw4_43))) else (
    let w_12 := F_Ru_add rf_lines rf_steps rf_asksSure c_rf_kinds c_rf_features c_rf_compares c_rf_numbers k (-1) 0 0
    let nw0_3 : Int32 := w_12.1
    let nw1_4 : Nat → Int32 := w_12.2.1
    let nw2_5 : Nat → Int32 := w_12.2.2.1
    let nw3_6 : Nat → Int32 := w_12.2.2.2.1
    let nw4_7 : Nat → Int32 := w_12.2.2.2.2.1
    let nw5_8 : Int32 := w_12.2.2.2.2.2.1
    let nw6_9 : Int32 := w_12.2.2.2.2.2.2
    let w_23 := F_Te_takeSign t_length t_kind t_start t_end t_number t_sign t_letters t_fault t_faultPlace c_tape 59
    let r_21 : Int32 := w_23.1
    let nw0_13 : Int32 := w_23.2.1
    let nw1_14 : Int32 := w_23.2.2.1
    let nw2_15 : Int32 := w_23.2.2.2.1
    let nw3_16 : Int32 := w_23.2.2.2.2.1
    let nw4_17 : Int32 := w_23.2.2.2.2.2.1
    let nw5_18 : Int64 := w_23.2.2.2.2.2.2.1
    let nw6_19 : Int32 := w_23.2.2.2.2.2.2.2.1
    let nw7_20 : Int32 := w_23.2.2.2.2.2.2.2.2
    (r_21, nw0_13, nw1_14, nw2_15, nw3_16, nw4_17, nw5_18, nw6_19, nw7_20, nw0_3, nw6_9, nw5_8, nw1_4, nw2_5, nw3_6, nw4_7))
theorem F_Ru_readPlain_s (h_features : Int32) (c_h_featureNames : Nat → Int64) (t_length : Int32) (t_kind : Int32) (t_start : Int32) (t_end : Int32) (t_number : Int32) (t_sign : Int32) (t_letters : Int64) (t_fault : Int32) (t_faultPlace : Int32) (c_tape : Nat → Int32) (rf_lines : Int32) (rf_steps : Int32) (rf_asksSure : Int32) (c_rf_kinds : Nat → Int32) (c_rf_features : Nat → Int32) (c_rf_compares : Nat → Int32) (c_rf_numbers : Nat → Int32) (k : Int32) : F_Ru_readPlain h_features c_h_featureNames t_length t_kind t_start t_end t_number t_sign t_letters t_fault t_faultPlace c_tape rf_lines rf_steps rf_asksSure c_rf_kinds c_rf_features c_rf_compares c_rf_numbers k = (
  if k = 0 then (
    let w_36 := F_Ru_takeFeature h_features c_h_featureNames t_length t_kind t_start t_end t_number t_sign t_letters t_fault t_faultPlace c_tape
    let r_34 : Int32 := w_36.1
    let nw0_26 : Int32 := w_36.2.1
    let nw1_27 : Int32 := w_36.2.2.1
    let nw2_28 : Int32 := w_36.2.2.2.1
    let nw3_29 : Int32 := w_36.2.2.2.2.1
    let nw4_30 : Int32 := w_36.2.2.2.2.2.1
    let nw5_31 : Int64 := w_36.2.2.2.2.2.2.1
    let nw6_32 : Int32 := w_36.2.2.2.2.2.2.2.1
    let nw7_33 : Int32 := w_36.2.2.2.2.2.2.2.2
    if r_34 = (-1) then (
      ((0 : Int32), nw0_26, nw1_27, nw2_28, nw3_29, nw4_30, nw5_31, nw6_32, nw7_33, rf_lines, rf_steps, rf_asksSure, c_rf_kinds, c_rf_features, c_rf_compares, c_rf_numbers)) else (
      let w_48 := F_Ru_add rf_lines rf_steps rf_asksSure c_rf_kinds c_rf_features c_rf_compares c_rf_numbers k r_34 0 0
      let nw0_39 : Int32 := w_48.1
      let nw1_40 : Nat → Int32 := w_48.2.1
      let nw2_41 : Nat → Int32 := w_48.2.2.1
      let nw3_42 : Nat → Int32 := w_48.2.2.2.1
      let nw4_43 : Nat → Int32 := w_48.2.2.2.2.1
      let nw5_44 : Int32 := w_48.2.2.2.2.2.1
      let nw6_45 : Int32 := w_48.2.2.2.2.2.2
      let w_59 := F_Te_takeSign t_length nw0_26 nw1_27 nw2_28 nw3_29 nw4_30 nw5_31 nw6_32 nw7_33 c_tape 59
      let r_57 : Int32 := w_59.1
      let nw0_49 : Int32 := w_59.2.1
      let nw1_50 : Int32 := w_59.2.2.1
      let nw2_51 : Int32 := w_59.2.2.2.1
      let nw3_52 : Int32 := w_59.2.2.2.2.1
      let nw4_53 : Int32 := w_59.2.2.2.2.2.1
      let nw5_54 : Int64 := w_59.2.2.2.2.2.2.1
      let nw6_55 : Int32 := w_59.2.2.2.2.2.2.2.1
      let nw7_56 : Int32 := w_59.2.2.2.2.2.2.2.2
      (r_57, nw0_49, nw1_50, nw2_51, nw3_52, nw4_53, nw5_54, nw6_55, nw7_56, nw0_39, nw6_45, nw5_44, nw1_40, nw2_41, nw3_42, nw4_43))) else (
    let w_12 := F_Ru_add rf_lines rf_steps rf_asksSure c_rf_kinds c_rf_features c_rf_compares c_rf_numbers k (-1) 0 0
    let nw0_3 : Int32 := w_12.1
    let nw1_4 : Nat → Int32 := w_12.2.1
    let nw2_5 : Nat → Int32 := w_12.2.2.1
    let nw3_6 : Nat → Int32 := w_12.2.2.2.1
    let nw4_7 : Nat → Int32 := w_12.2.2.2.2.1
    let nw5_8 : Int32 := w_12.2.2.2.2.2.1
    let nw6_9 : Int32 := w_12.2.2.2.2.2.2
    let w_23 := F_Te_takeSign t_length t_kind t_start t_end t_number t_sign t_letters t_fault t_faultPlace c_tape 59
    let r_21 : Int32 := w_23.1
    let nw0_13 : Int32 := w_23.2.1
    let nw1_14 : Int32 := w_23.2.2.1
    let nw2_15 : Int32 := w_23.2.2.2.1
    let nw3_16 : Int32 := w_23.2.2.2.2.1
    let nw4_17 : Int32 := w_23.2.2.2.2.2.1
    let nw5_18 : Int64 := w_23.2.2.2.2.2.2.1
    let nw6_19 : Int32 := w_23.2.2.2.2.2.2.2.1
    let nw7_20 : Int32 := w_23.2.2.2.2.2.2.2.2
    (r_21, nw0_13, nw1_14, nw2_15, nw3_16, nw4_17, nw5_18, nw6_19, nw7_20, nw0_3, nw6_9, nw5_8, nw1_4, nw2_5, nw3_6, nw4_7))) := rfl
noncomputable def F_Ru_beginBlock (rr_depth : Int32) (t_length : Int32) (t_kind : Int32) (t_start : Int32) (t_end : Int32) (t_number : Int32) (t_sign : Int32) (t_letters : Int64) (t_fault : Int32) (t_faultPlace : Int32) (c_tape : Nat → Int32) (c_rr_b : Nat → Int32) (rf_lines : Int32) : Int32 × Int32 × Int32 × Int32 × Int32 × Int32 × Int32 × Int64 × Int32 × Int32 × (Nat → Int32) :=
  let w_4 := F_keepAt_3 c_rr_b rr_depth (rf_lines - 1)
  let nw0_1 : Nat → Int32 := w_4
  let w_15 := F_Te_takeSign t_length t_kind t_start t_end t_number t_sign t_letters t_fault t_faultPlace c_tape 59
  let r_13 : Int32 := w_15.1
  let nw0_5 : Int32 := w_15.2.1
  let nw1_6 : Int32 := w_15.2.2.1
  let nw2_7 : Int32 := w_15.2.2.2.1
  let nw3_8 : Int32 := w_15.2.2.2.2.1
  let nw4_9 : Int32 := w_15.2.2.2.2.2.1
  let nw5_10 : Int64 := w_15.2.2.2.2.2.2.1
  let nw6_11 : Int32 := w_15.2.2.2.2.2.2.2.1
  let nw7_12 : Int32 := w_15.2.2.2.2.2.2.2.2
  (r_13, (rr_depth + 1), nw0_5, nw1_6, nw2_7, nw3_8, nw4_9, nw5_10, nw6_11, nw7_12, nw0_1)
theorem F_Ru_beginBlock_s (rr_depth : Int32) (t_length : Int32) (t_kind : Int32) (t_start : Int32) (t_end : Int32) (t_number : Int32) (t_sign : Int32) (t_letters : Int64) (t_fault : Int32) (t_faultPlace : Int32) (c_tape : Nat → Int32) (c_rr_b : Nat → Int32) (rf_lines : Int32) : F_Ru_beginBlock rr_depth t_length t_kind t_start t_end t_number t_sign t_letters t_fault t_faultPlace c_tape c_rr_b rf_lines = (
  let w_4 := F_keepAt_3 c_rr_b rr_depth (rf_lines - 1)
  let nw0_1 : Nat → Int32 := w_4
  let w_15 := F_Te_takeSign t_length t_kind t_start t_end t_number t_sign t_letters t_fault t_faultPlace c_tape 59
  let r_13 : Int32 := w_15.1
  let nw0_5 : Int32 := w_15.2.1
  let nw1_6 : Int32 := w_15.2.2.1
  let nw2_7 : Int32 := w_15.2.2.2.1
  let nw3_8 : Int32 := w_15.2.2.2.2.1
  let nw4_9 : Int32 := w_15.2.2.2.2.2.1
  let nw5_10 : Int64 := w_15.2.2.2.2.2.2.1
  let nw6_11 : Int32 := w_15.2.2.2.2.2.2.2.1
  let nw7_12 : Int32 := w_15.2.2.2.2.2.2.2.2
  (r_13, (rr_depth + 1), nw0_5, nw1_6, nw2_7, nw3_8, nw4_9, nw5_10, nw6_11, nw7_12, nw0_1)) := rfl
noncomputable def F_Ru_plainKind (t_length : Int32) (t_kind : Int32) (t_start : Int32) (t_end : Int32) (c_tape : Nat → Int32) : Int32 :=
  let w_3 := F_Te_is t_length t_kind t_start t_end c_tape 33
  let r_1 : Int32 := w_3
  if r_1 = 0 then (
    let w_8 := F_Te_is t_length t_kind t_start t_end c_tape 34
    let r_6 : Int32 := w_8
    if r_6 = 0 then (
      let w_13 := F_Te_is t_length t_kind t_start t_end c_tape 35
      let r_11 : Int32 := w_13
      if r_11 = 0 then (
        let w_18 := F_Te_is t_length t_kind t_start t_end c_tape 36
        let r_16 : Int32 := w_18
        if r_16 = 0 then (
          let w_23 := F_Te_is t_length t_kind t_start t_end c_tape 37
          let r_21 : Int32 := w_23
          if r_21 = 0 then (
            let w_28 := F_Te_is t_length t_kind t_start t_end c_tape 38
            let r_26 : Int32 := w_28
            if r_26 = 0 then (
              (-1 : Int32)) else (
              (5 : Int32))) else (
            (4 : Int32))) else (
          (3 : Int32))) else (
        (2 : Int32))) else (
      (1 : Int32))) else (
    (0 : Int32))
theorem F_Ru_plainKind_s (t_length : Int32) (t_kind : Int32) (t_start : Int32) (t_end : Int32) (c_tape : Nat → Int32) : F_Ru_plainKind t_length t_kind t_start t_end c_tape = (
  let w_3 := F_Te_is t_length t_kind t_start t_end c_tape 33
  let r_1 : Int32 := w_3
  if r_1 = 0 then (
    let w_8 := F_Te_is t_length t_kind t_start t_end c_tape 34
    let r_6 : Int32 := w_8
    if r_6 = 0 then (
      let w_13 := F_Te_is t_length t_kind t_start t_end c_tape 35
      let r_11 : Int32 := w_13
      if r_11 = 0 then (
        let w_18 := F_Te_is t_length t_kind t_start t_end c_tape 36
        let r_16 : Int32 := w_18
        if r_16 = 0 then (
          let w_23 := F_Te_is t_length t_kind t_start t_end c_tape 37
          let r_21 : Int32 := w_23
          if r_21 = 0 then (
            let w_28 := F_Te_is t_length t_kind t_start t_end c_tape 38
            let r_26 : Int32 := w_28
            if r_26 = 0 then (
              (-1 : Int32)) else (
              (5 : Int32))) else (
            (4 : Int32))) else (
          (3 : Int32))) else (
        (2 : Int32))) else (
      (1 : Int32))) else (
    (0 : Int32))) := rfl
noncomputable def F_Ru_readLoop (t_length : Int32) (t_kind : Int32) (t_start : Int32) (t_end : Int32) (t_number : Int32) (t_sign : Int32) (t_letters : Int64) (t_fault : Int32) (t_faultPlace : Int32) (c_tape : Nat → Int32) (rf_lines : Int32) (rf_steps : Int32) (rf_asksSure : Int32) (c_rf_kinds : Nat → Int32) (c_rf_features : Nat → Int32) (c_rf_compares : Nat → Int32) (c_rf_numbers : Nat → Int32) : Int32 × Int32 × Int32 × Int32 × Int32 × Int32 × Int64 × Int32 × Int32 × Int32 × Int32 × Int32 × (Nat → Int32) × (Nat → Int32) × (Nat → Int32) × (Nat → Int32) :=
  let w_11 := F_Te_takeNumber t_length t_kind t_start t_end t_number t_sign t_letters t_fault t_faultPlace c_tape 1 9
  let r_9 : Int32 := w_11.1
  let nw0_1 : Int32 := w_11.2.1
  let nw1_2 : Int32 := w_11.2.2.1
  let nw2_3 : Int32 := w_11.2.2.2.1
  let nw3_4 : Int32 := w_11.2.2.2.2.1
  let nw4_5 : Int32 := w_11.2.2.2.2.2.1
  let nw5_6 : Int32 := w_11.2.2.2.2.2.2.1
  let nw6_7 : Int32 := w_11.2.2.2.2.2.2.2.1
  let nw7_8 : Int64 := w_11.2.2.2.2.2.2.2.2
  if r_9 = (-1) then (
    ((0 : Int32), nw2_3, nw3_4, nw4_5, nw5_6, nw6_7, nw7_8, nw0_1, nw1_2, rf_lines, rf_steps, rf_asksSure, c_rf_kinds, c_rf_features, c_rf_compares, c_rf_numbers)) else (
    let w_23 := F_Ru_add rf_lines rf_steps rf_asksSure c_rf_kinds c_rf_features c_rf_compares c_rf_numbers 9 (-1) 0 r_9
    let nw0_14 : Int32 := w_23.1
    let nw1_15 : Nat → Int32 := w_23.2.1
    let nw2_16 : Nat → Int32 := w_23.2.2.1
    let nw3_17 : Nat → Int32 := w_23.2.2.2.1
    let nw4_18 : Nat → Int32 := w_23.2.2.2.2.1
    let nw5_19 : Int32 := w_23.2.2.2.2.2.1
    let nw6_20 : Int32 := w_23.2.2.2.2.2.2
    ((1 : Int32), nw2_3, nw3_4, nw4_5, nw5_6, nw6_7, nw7_8, nw0_1, nw1_2, nw0_14, nw6_20, nw5_19, nw1_15, nw2_16, nw3_17, nw4_18))
theorem F_Ru_readLoop_s (t_length : Int32) (t_kind : Int32) (t_start : Int32) (t_end : Int32) (t_number : Int32) (t_sign : Int32) (t_letters : Int64) (t_fault : Int32) (t_faultPlace : Int32) (c_tape : Nat → Int32) (rf_lines : Int32) (rf_steps : Int32) (rf_asksSure : Int32) (c_rf_kinds : Nat → Int32) (c_rf_features : Nat → Int32) (c_rf_compares : Nat → Int32) (c_rf_numbers : Nat → Int32) : F_Ru_readLoop t_length t_kind t_start t_end t_number t_sign t_letters t_fault t_faultPlace c_tape rf_lines rf_steps rf_asksSure c_rf_kinds c_rf_features c_rf_compares c_rf_numbers = (
  let w_11 := F_Te_takeNumber t_length t_kind t_start t_end t_number t_sign t_letters t_fault t_faultPlace c_tape 1 9
  let r_9 : Int32 := w_11.1
  let nw0_1 : Int32 := w_11.2.1
  let nw1_2 : Int32 := w_11.2.2.1
  let nw2_3 : Int32 := w_11.2.2.2.1
  let nw3_4 : Int32 := w_11.2.2.2.2.1
  let nw4_5 : Int32 := w_11.2.2.2.2.2.1
  let nw5_6 : Int32 := w_11.2.2.2.2.2.2.1
  let nw6_7 : Int32 := w_11.2.2.2.2.2.2.2.1
  let nw7_8 : Int64 := w_11.2.2.2.2.2.2.2.2
  if r_9 = (-1) then (
    ((0 : Int32), nw2_3, nw3_4, nw4_5, nw5_6, nw6_7, nw7_8, nw0_1, nw1_2, rf_lines, rf_steps, rf_asksSure, c_rf_kinds, c_rf_features, c_rf_compares, c_rf_numbers)) else (
    let w_23 := F_Ru_add rf_lines rf_steps rf_asksSure c_rf_kinds c_rf_features c_rf_compares c_rf_numbers 9 (-1) 0 r_9
    let nw0_14 : Int32 := w_23.1
    let nw1_15 : Nat → Int32 := w_23.2.1
    let nw2_16 : Nat → Int32 := w_23.2.2.1
    let nw3_17 : Nat → Int32 := w_23.2.2.2.1
    let nw4_18 : Nat → Int32 := w_23.2.2.2.2.1
    let nw5_19 : Int32 := w_23.2.2.2.2.2.1
    let nw6_20 : Int32 := w_23.2.2.2.2.2.2
    ((1 : Int32), nw2_3, nw3_4, nw4_5, nw5_6, nw6_7, nw7_8, nw0_1, nw1_2, nw0_14, nw6_20, nw5_19, nw1_15, nw2_16, nw3_17, nw4_18))) := rfl
noncomputable def F_Ru_readWhen (h_features : Int32) (c_h_featureNames : Nat → Int64) (t_length : Int32) (t_kind : Int32) (t_start : Int32) (t_end : Int32) (t_number : Int32) (t_sign : Int32) (t_letters : Int64) (t_fault : Int32) (t_faultPlace : Int32) (c_tape : Nat → Int32) (rf_lines : Int32) (rf_steps : Int32) (rf_asksSure : Int32) (c_rf_kinds : Nat → Int32) (c_rf_features : Nat → Int32) (c_rf_compares : Nat → Int32) (c_rf_numbers : Nat → Int32) : Int32 × Int32 × Int32 × Int32 × Int32 × Int32 × Int64 × Int32 × Int32 × Int32 × Int32 × Int32 × (Nat → Int32) × (Nat → Int32) × (Nat → Int32) × (Nat → Int32) :=
  let w_3 := F_Te_is t_length t_kind t_start t_end c_tape 39
  let r_1 : Int32 := w_3
  if r_1 = 0 then (
    let w_8 := F_Te_is t_length t_kind t_start t_end c_tape 40
    let r_6 : Int32 := w_8
    if r_6 = 0 then (
      let w_21 := F_Te_takeWord t_length t_kind t_start t_end t_number t_sign t_letters t_fault t_faultPlace c_tape 41
      let r_19 : Int32 := w_21.1
      let nw0_11 : Int32 := w_21.2.1
      let nw1_12 : Int32 := w_21.2.2.1
      let nw2_13 : Int32 := w_21.2.2.2.1
      let nw3_14 : Int32 := w_21.2.2.2.2.1
      let nw4_15 : Int32 := w_21.2.2.2.2.2.1
      let nw5_16 : Int64 := w_21.2.2.2.2.2.2.1
      let nw6_17 : Int32 := w_21.2.2.2.2.2.2.2.1
      let nw7_18 : Int32 := w_21.2.2.2.2.2.2.2.2
      if r_19 = 0 then (
        ((0 : Int32), nw0_11, nw1_12, nw2_13, nw3_14, nw4_15, nw5_16, nw6_17, nw7_18, rf_lines, rf_steps, rf_asksSure, c_rf_kinds, c_rf_features, c_rf_compares, c_rf_numbers)) else (
        let w_34 := F_Te_takeNumber t_length nw0_11 nw1_12 nw2_13 nw3_14 nw4_15 nw5_16 nw6_17 nw7_18 c_tape 0 16
        let r_32 : Int32 := w_34.1
        let nw0_24 : Int32 := w_34.2.1
        let nw1_25 : Int32 := w_34.2.2.1
        let nw2_26 : Int32 := w_34.2.2.2.1
        let nw3_27 : Int32 := w_34.2.2.2.2.1
        let nw4_28 : Int32 := w_34.2.2.2.2.2.1
        let nw5_29 : Int32 := w_34.2.2.2.2.2.2.1
        let nw6_30 : Int32 := w_34.2.2.2.2.2.2.2.1
        let nw7_31 : Int64 := w_34.2.2.2.2.2.2.2.2
        if r_32 = (-1) then (
          ((0 : Int32), nw2_26, nw3_27, nw4_28, nw5_29, nw6_30, nw7_31, nw0_24, nw1_25, rf_lines, rf_steps, rf_asksSure, c_rf_kinds, c_rf_features, c_rf_compares, c_rf_numbers)) else (
          let w_46 := F_Ru_add rf_lines rf_steps rf_asksSure c_rf_kinds c_rf_features c_rf_compares c_rf_numbers 7 (-1) 0 r_32
          let nw0_37 : Int32 := w_46.1
          let nw1_38 : Nat → Int32 := w_46.2.1
          let nw2_39 : Nat → Int32 := w_46.2.2.1
          let nw3_40 : Nat → Int32 := w_46.2.2.2.1
          let nw4_41 : Nat → Int32 := w_46.2.2.2.2.1
          let nw5_42 : Int32 := w_46.2.2.2.2.2.1
          let nw6_43 : Int32 := w_46.2.2.2.2.2.2
          ((1 : Int32), nw2_26, nw3_27, nw4_28, nw5_29, nw6_30, nw7_31, nw0_24, nw1_25, nw0_37, nw6_43, nw5_42, nw1_38, nw2_39, nw3_40, nw4_41)))) else (
      let w_61 := F_Te_advance t_length t_end t_number t_sign t_letters c_tape
      let nw0_53 : Int32 := w_61.1
      let nw1_54 : Int32 := w_61.2.1
      let nw2_55 : Int32 := w_61.2.2.1
      let nw3_56 : Int32 := w_61.2.2.2.1
      let nw4_57 : Int32 := w_61.2.2.2.2.1
      let nw5_58 : Int64 := w_61.2.2.2.2.2
      let w_71 := F_Ru_add rf_lines rf_steps rf_asksSure c_rf_kinds c_rf_features c_rf_compares c_rf_numbers 8 (-1) 0 0
      let nw0_62 : Int32 := w_71.1
      let nw1_63 : Nat → Int32 := w_71.2.1
      let nw2_64 : Nat → Int32 := w_71.2.2.1
      let nw3_65 : Nat → Int32 := w_71.2.2.2.1
      let nw4_66 : Nat → Int32 := w_71.2.2.2.2.1
      let nw5_67 : Int32 := w_71.2.2.2.2.2.1
      let nw6_68 : Int32 := w_71.2.2.2.2.2.2
      ((1 : Int32), nw0_53, nw1_54, nw2_55, nw4_57, nw3_56, nw5_58, t_fault, t_faultPlace, nw0_62, nw6_68, nw5_67, nw1_63, nw2_64, nw3_65, nw4_66))) else (
    let w_82 := F_Te_advance t_length t_end t_number t_sign t_letters c_tape
    let nw0_74 : Int32 := w_82.1
    let nw1_75 : Int32 := w_82.2.1
    let nw2_76 : Int32 := w_82.2.2.1
    let nw3_77 : Int32 := w_82.2.2.2.1
    let nw4_78 : Int32 := w_82.2.2.2.2.1
    let nw5_79 : Int64 := w_82.2.2.2.2.2
    let w_93 := F_Ru_takeFeature h_features c_h_featureNames t_length nw0_74 nw1_75 nw2_76 nw4_78 nw3_77 nw5_79 t_fault t_faultPlace c_tape
    let r_91 : Int32 := w_93.1
    let nw0_83 : Int32 := w_93.2.1
    let nw1_84 : Int32 := w_93.2.2.1
    let nw2_85 : Int32 := w_93.2.2.2.1
    let nw3_86 : Int32 := w_93.2.2.2.2.1
    let nw4_87 : Int32 := w_93.2.2.2.2.2.1
    let nw5_88 : Int64 := w_93.2.2.2.2.2.2.1
    let nw6_89 : Int32 := w_93.2.2.2.2.2.2.2.1
    let nw7_90 : Int32 := w_93.2.2.2.2.2.2.2.2
    if r_91 = (-1) then (
      ((0 : Int32), nw0_83, nw1_84, nw2_85, nw3_86, nw4_87, nw5_88, nw6_89, nw7_90, rf_lines, rf_steps, rf_asksSure, c_rf_kinds, c_rf_features, c_rf_compares, c_rf_numbers)) else (
      let w_106 := F_Te_takeCompare t_length nw0_83 nw1_84 nw2_85 nw3_86 nw4_87 nw5_88 nw6_89 nw7_90 c_tape
      let r_104 : Int32 := w_106.1
      let nw0_96 : Int32 := w_106.2.1
      let nw1_97 : Int32 := w_106.2.2.1
      let nw2_98 : Int32 := w_106.2.2.2.1
      let nw3_99 : Int32 := w_106.2.2.2.2.1
      let nw4_100 : Int32 := w_106.2.2.2.2.2.1
      let nw5_101 : Int64 := w_106.2.2.2.2.2.2.1
      let nw6_102 : Int32 := w_106.2.2.2.2.2.2.2.1
      let nw7_103 : Int32 := w_106.2.2.2.2.2.2.2.2
      if r_104 = (-1) then (
        ((0 : Int32), nw0_96, nw1_97, nw2_98, nw3_99, nw4_100, nw5_101, nw6_102, nw7_103, rf_lines, rf_steps, rf_asksSure, c_rf_kinds, c_rf_features, c_rf_compares, c_rf_numbers)) else (
        let w_119 := F_Te_takeNumber t_length nw0_96 nw1_97 nw2_98 nw3_99 nw4_100 nw5_101 nw6_102 nw7_103 c_tape 0 3
        let r_117 : Int32 := w_119.1
        let nw0_109 : Int32 := w_119.2.1
        let nw1_110 : Int32 := w_119.2.2.1
        let nw2_111 : Int32 := w_119.2.2.2.1
        let nw3_112 : Int32 := w_119.2.2.2.2.1
        let nw4_113 : Int32 := w_119.2.2.2.2.2.1
        let nw5_114 : Int32 := w_119.2.2.2.2.2.2.1
        let nw6_115 : Int32 := w_119.2.2.2.2.2.2.2.1
        let nw7_116 : Int64 := w_119.2.2.2.2.2.2.2.2
        if r_117 = (-1) then (
          ((0 : Int32), nw2_111, nw3_112, nw4_113, nw5_114, nw6_115, nw7_116, nw0_109, nw1_110, rf_lines, rf_steps, rf_asksSure, c_rf_kinds, c_rf_features, c_rf_compares, c_rf_numbers)) else (
          let w_131 := F_Ru_add rf_lines rf_steps rf_asksSure c_rf_kinds c_rf_features c_rf_compares c_rf_numbers 6 r_91 r_104 r_117
          let nw0_122 : Int32 := w_131.1
          let nw1_123 : Nat → Int32 := w_131.2.1
          let nw2_124 : Nat → Int32 := w_131.2.2.1
          let nw3_125 : Nat → Int32 := w_131.2.2.2.1
          let nw4_126 : Nat → Int32 := w_131.2.2.2.2.1
          let nw5_127 : Int32 := w_131.2.2.2.2.2.1
          let nw6_128 : Int32 := w_131.2.2.2.2.2.2
          ((1 : Int32), nw2_111, nw3_112, nw4_113, nw5_114, nw6_115, nw7_116, nw0_109, nw1_110, nw0_122, nw6_128, nw5_127, nw1_123, nw2_124, nw3_125, nw4_126)))))
theorem F_Ru_readWhen_s (h_features : Int32) (c_h_featureNames : Nat → Int64) (t_length : Int32) (t_kind : Int32) (t_start : Int32) (t_end : Int32) (t_number : Int32) (t_sign : Int32) (t_letters : Int64) (t_fault : Int32) (t_faultPlace : Int32) (c_tape : Nat → Int32) (rf_lines : Int32) (rf_steps : Int32) (rf_asksSure : Int32) (c_rf_kinds : Nat → Int32) (c_rf_features : Nat → Int32) (c_rf_compares : Nat → Int32) (c_rf_numbers : Nat → Int32) : F_Ru_readWhen h_features c_h_featureNames t_length t_kind t_start t_end t_number t_sign t_letters t_fault t_faultPlace c_tape rf_lines rf_steps rf_asksSure c_rf_kinds c_rf_features c_rf_compares c_rf_numbers = (
  let w_3 := F_Te_is t_length t_kind t_start t_end c_tape 39
  let r_1 : Int32 := w_3
  if r_1 = 0 then (
    let w_8 := F_Te_is t_length t_kind t_start t_end c_tape 40
    let r_6 : Int32 := w_8
    if r_6 = 0 then (
      let w_21 := F_Te_takeWord t_length t_kind t_start t_end t_number t_sign t_letters t_fault t_faultPlace c_tape 41
      let r_19 : Int32 := w_21.1
      let nw0_11 : Int32 := w_21.2.1
      let nw1_12 : Int32 := w_21.2.2.1
      let nw2_13 : Int32 := w_21.2.2.2.1
      let nw3_14 : Int32 := w_21.2.2.2.2.1
      let nw4_15 : Int32 := w_21.2.2.2.2.2.1
      let nw5_16 : Int64 := w_21.2.2.2.2.2.2.1
      let nw6_17 : Int32 := w_21.2.2.2.2.2.2.2.1
      let nw7_18 : Int32 := w_21.2.2.2.2.2.2.2.2
      if r_19 = 0 then (
        ((0 : Int32), nw0_11, nw1_12, nw2_13, nw3_14, nw4_15, nw5_16, nw6_17, nw7_18, rf_lines, rf_steps, rf_asksSure, c_rf_kinds, c_rf_features, c_rf_compares, c_rf_numbers)) else (
        let w_34 := F_Te_takeNumber t_length nw0_11 nw1_12 nw2_13 nw3_14 nw4_15 nw5_16 nw6_17 nw7_18 c_tape 0 16
        let r_32 : Int32 := w_34.1
        let nw0_24 : Int32 := w_34.2.1
        let nw1_25 : Int32 := w_34.2.2.1
        let nw2_26 : Int32 := w_34.2.2.2.1
        let nw3_27 : Int32 := w_34.2.2.2.2.1
        let nw4_28 : Int32 := w_34.2.2.2.2.2.1
        let nw5_29 : Int32 := w_34.2.2.2.2.2.2.1
        let nw6_30 : Int32 := w_34.2.2.2.2.2.2.2.1
        let nw7_31 : Int64 := w_34.2.2.2.2.2.2.2.2
        if r_32 = (-1) then (
          ((0 : Int32), nw2_26, nw3_27, nw4_28, nw5_29, nw6_30, nw7_31, nw0_24, nw1_25, rf_lines, rf_steps, rf_asksSure, c_rf_kinds, c_rf_features, c_rf_compares, c_rf_numbers)) else (
          let w_46 := F_Ru_add rf_lines rf_steps rf_asksSure c_rf_kinds c_rf_features c_rf_compares c_rf_numbers 7 (-1) 0 r_32
          let nw0_37 : Int32 := w_46.1
          let nw1_38 : Nat → Int32 := w_46.2.1
          let nw2_39 : Nat → Int32 := w_46.2.2.1
          let nw3_40 : Nat → Int32 := w_46.2.2.2.1
          let nw4_41 : Nat → Int32 := w_46.2.2.2.2.1
          let nw5_42 : Int32 := w_46.2.2.2.2.2.1
          let nw6_43 : Int32 := w_46.2.2.2.2.2.2
          ((1 : Int32), nw2_26, nw3_27, nw4_28, nw5_29, nw6_30, nw7_31, nw0_24, nw1_25, nw0_37, nw6_43, nw5_42, nw1_38, nw2_39, nw3_40, nw4_41)))) else (
      let w_61 := F_Te_advance t_length t_end t_number t_sign t_letters c_tape
      let nw0_53 : Int32 := w_61.1
      let nw1_54 : Int32 := w_61.2.1
      let nw2_55 : Int32 := w_61.2.2.1
      let nw3_56 : Int32 := w_61.2.2.2.1
      let nw4_57 : Int32 := w_61.2.2.2.2.1
      let nw5_58 : Int64 := w_61.2.2.2.2.2
      let w_71 := F_Ru_add rf_lines rf_steps rf_asksSure c_rf_kinds c_rf_features c_rf_compares c_rf_numbers 8 (-1) 0 0
      let nw0_62 : Int32 := w_71.1
      let nw1_63 : Nat → Int32 := w_71.2.1
      let nw2_64 : Nat → Int32 := w_71.2.2.1
      let nw3_65 : Nat → Int32 := w_71.2.2.2.1
      let nw4_66 : Nat → Int32 := w_71.2.2.2.2.1
      let nw5_67 : Int32 := w_71.2.2.2.2.2.1
      let nw6_68 : Int32 := w_71.2.2.2.2.2.2
      ((1 : Int32), nw0_53, nw1_54, nw2_55, nw4_57, nw3_56, nw5_58, t_fault, t_faultPlace, nw0_62, nw6_68, nw5_67, nw1_63, nw2_64, nw3_65, nw4_66))) else (
    let w_82 := F_Te_advance t_length t_end t_number t_sign t_letters c_tape
    let nw0_74 : Int32 := w_82.1
    let nw1_75 : Int32 := w_82.2.1
    let nw2_76 : Int32 := w_82.2.2.1
    let nw3_77 : Int32 := w_82.2.2.2.1
    let nw4_78 : Int32 := w_82.2.2.2.2.1
    let nw5_79 : Int64 := w_82.2.2.2.2.2
    let w_93 := F_Ru_takeFeature h_features c_h_featureNames t_length nw0_74 nw1_75 nw2_76 nw4_78 nw3_77 nw5_79 t_fault t_faultPlace c_tape
    let r_91 : Int32 := w_93.1
    let nw0_83 : Int32 := w_93.2.1
    let nw1_84 : Int32 := w_93.2.2.1
    let nw2_85 : Int32 := w_93.2.2.2.1
    let nw3_86 : Int32 := w_93.2.2.2.2.1
    let nw4_87 : Int32 := w_93.2.2.2.2.2.1
    let nw5_88 : Int64 := w_93.2.2.2.2.2.2.1
    let nw6_89 : Int32 := w_93.2.2.2.2.2.2.2.1
    let nw7_90 : Int32 := w_93.2.2.2.2.2.2.2.2
    if r_91 = (-1) then (
      ((0 : Int32), nw0_83, nw1_84, nw2_85, nw3_86, nw4_87, nw5_88, nw6_89, nw7_90, rf_lines, rf_steps, rf_asksSure, c_rf_kinds, c_rf_features, c_rf_compares, c_rf_numbers)) else (
      let w_106 := F_Te_takeCompare t_length nw0_83 nw1_84 nw2_85 nw3_86 nw4_87 nw5_88 nw6_89 nw7_90 c_tape
      let r_104 : Int32 := w_106.1
      let nw0_96 : Int32 := w_106.2.1
      let nw1_97 : Int32 := w_106.2.2.1
      let nw2_98 : Int32 := w_106.2.2.2.1
      let nw3_99 : Int32 := w_106.2.2.2.2.1
      let nw4_100 : Int32 := w_106.2.2.2.2.2.1
      let nw5_101 : Int64 := w_106.2.2.2.2.2.2.1
      let nw6_102 : Int32 := w_106.2.2.2.2.2.2.2.1
      let nw7_103 : Int32 := w_106.2.2.2.2.2.2.2.2
      if r_104 = (-1) then (
        ((0 : Int32), nw0_96, nw1_97, nw2_98, nw3_99, nw4_100, nw5_101, nw6_102, nw7_103, rf_lines, rf_steps, rf_asksSure, c_rf_kinds, c_rf_features, c_rf_compares, c_rf_numbers)) else (
        let w_119 := F_Te_takeNumber t_length nw0_96 nw1_97 nw2_98 nw3_99 nw4_100 nw5_101 nw6_102 nw7_103 c_tape 0 3
        let r_117 : Int32 := w_119.1
        let nw0_109 : Int32 := w_119.2.1
        let nw1_110 : Int32 := w_119.2.2.1
        let nw2_111 : Int32 := w_119.2.2.2.1
        let nw3_112 : Int32 := w_119.2.2.2.2.1
        let nw4_113 : Int32 := w_119.2.2.2.2.2.1
        let nw5_114 : Int32 := w_119.2.2.2.2.2.2.1
        let nw6_115 : Int32 := w_119.2.2.2.2.2.2.2.1
        let nw7_116 : Int64 := w_119.2.2.2.2.2.2.2.2
        if r_117 = (-1) then (
          ((0 : Int32), nw2_111, nw3_112, nw4_113, nw5_114, nw6_115, nw7_116, nw0_109, nw1_110, rf_lines, rf_steps, rf_asksSure, c_rf_kinds, c_rf_features, c_rf_compares, c_rf_numbers)) else (
          let w_131 := F_Ru_add rf_lines rf_steps rf_asksSure c_rf_kinds c_rf_features c_rf_compares c_rf_numbers 6 r_91 r_104 r_117
          let nw0_122 : Int32 := w_131.1
          let nw1_123 : Nat → Int32 := w_131.2.1
          let nw2_124 : Nat → Int32 := w_131.2.2.1
          let nw3_125 : Nat → Int32 := w_131.2.2.2.1
          let nw4_126 : Nat → Int32 := w_131.2.2.2.2.1
          let nw5_127 : Int32 := w_131.2.2.2.2.2.1
          let nw6_128 : Int32 := w_131.2.2.2.2.2.2
          ((1 : Int32), nw2_111, nw3_112, nw4_113, nw5_114, nw6_115, nw7_116, nw0_109, nw1_110, nw0_122, nw6_128, nw5_127, nw1_123, nw2_124, nw3_125, nw4_126)))))) := rfl
noncomputable def F_Ru_readEnd (rr_depth : Int32) (t_length : Int32) (t_kind : Int32) (t_start : Int32) (t_end : Int32) (t_number : Int32) (t_sign : Int32) (t_letters : Int64) (t_fault : Int32) (t_faultPlace : Int32) (c_tape : Nat → Int32) (c_rr_b : Nat → Int32) (rf_lines : Int32) (rf_steps : Int32) (rf_asksSure : Int32) (c_rf_kinds : Nat → Int32) (c_rf_features : Nat → Int32) (c_rf_compares : Nat → Int32) (c_rf_numbers : Nat → Int32) (c_rf_partners : Nat → Int32) : Int32 × Int32 × Int32 × Int32 × Int32 × Int32 × Int32 × Int64 × Int32 × Int32 × Int32 × Int32 × Int32 × (Nat → Int32) × (Nat → Int32) × (Nat → Int32) × (Nat → Int32) × (Nat → Int32) :=
  if 0 < rr_depth then (
    let w_11 := F_Te_advance t_length t_end t_number t_sign t_letters c_tape
    let nw0_3 : Int32 := w_11.1
    let nw1_4 : Int32 := w_11.2.1
    let nw2_5 : Int32 := w_11.2.2.1
    let nw3_6 : Int32 := w_11.2.2.2.1
    let nw4_7 : Int32 := w_11.2.2.2.2.1
    let nw5_8 : Int64 := w_11.2.2.2.2.2
    let w_21 := F_Ru_add rf_lines rf_steps rf_asksSure c_rf_kinds c_rf_features c_rf_compares c_rf_numbers 10 (-1) 0 0
    let nw0_12 : Int32 := w_21.1
    let nw1_13 : Nat → Int32 := w_21.2.1
    let nw2_14 : Nat → Int32 := w_21.2.2.1
    let nw3_15 : Nat → Int32 := w_21.2.2.2.1
    let nw4_16 : Nat → Int32 := w_21.2.2.2.2.1
    let nw5_17 : Int32 := w_21.2.2.2.2.2.1
    let nw6_18 : Int32 := w_21.2.2.2.2.2.2
    let w_24 := F_at_3 c_rr_b (rr_depth - 1)
    let r_22 : Int32 := w_24
    let w_28 := F_Ru_pair c_rf_partners r_22 (nw0_12 - 1)
    let nw0_25 : Nat → Int32 := w_28
    let w_39 := F_Te_takeSign t_length nw0_3 nw1_4 nw2_5 nw4_7 nw3_6 nw5_8 t_fault t_faultPlace c_tape 59
    let r_37 : Int32 := w_39.1
    let nw0_29 : Int32 := w_39.2.1
    let nw1_30 : Int32 := w_39.2.2.1
    let nw2_31 : Int32 := w_39.2.2.2.1
    let nw3_32 : Int32 := w_39.2.2.2.2.1
    let nw4_33 : Int32 := w_39.2.2.2.2.2.1
    let nw5_34 : Int64 := w_39.2.2.2.2.2.2.1
    let nw6_35 : Int32 := w_39.2.2.2.2.2.2.2.1
    let nw7_36 : Int32 := w_39.2.2.2.2.2.2.2.2
    (r_37, (rr_depth - 1), nw0_29, nw1_30, nw2_31, nw3_32, nw4_33, nw5_34, nw6_35, nw7_36, nw0_12, nw6_18, nw5_17, nw1_13, nw2_14, nw3_15, nw4_16, nw0_25)) else (
    let w_46 := F_Te_refuse t_kind t_start t_fault t_faultPlace 2
    let r_44 : Int32 := w_46.1
    let nw0_42 : Int32 := w_46.2.1
    let nw1_43 : Int32 := w_46.2.2
    (r_44, rr_depth, t_kind, t_start, t_end, t_number, t_sign, t_letters, nw0_42, nw1_43, rf_lines, rf_steps, rf_asksSure, c_rf_kinds, c_rf_features, c_rf_compares, c_rf_numbers, c_rf_partners))
theorem F_Ru_readEnd_s (rr_depth : Int32) (t_length : Int32) (t_kind : Int32) (t_start : Int32) (t_end : Int32) (t_number : Int32) (t_sign : Int32) (t_letters : Int64) (t_fault : Int32) (t_faultPlace : Int32) (c_tape : Nat → Int32) (c_rr_b : Nat → Int32) (rf_lines : Int32) (rf_steps : Int32) (rf_asksSure : Int32) (c_rf_kinds : Nat → Int32) (c_rf_features : Nat → Int32) (c_rf_compares : Nat → Int32) (c_rf_numbers : Nat → Int32) (c_rf_partners : Nat → Int32) : F_Ru_readEnd rr_depth t_length t_kind t_start t_end t_number t_sign t_letters t_fault t_faultPlace c_tape c_rr_b rf_lines rf_steps rf_asksSure c_rf_kinds c_rf_features c_rf_compares c_rf_numbers c_rf_partners = (
  if 0 < rr_depth then (
    let w_11 := F_Te_advance t_length t_end t_number t_sign t_letters c_tape
    let nw0_3 : Int32 := w_11.1
    let nw1_4 : Int32 := w_11.2.1
    let nw2_5 : Int32 := w_11.2.2.1
    let nw3_6 : Int32 := w_11.2.2.2.1
    let nw4_7 : Int32 := w_11.2.2.2.2.1
    let nw5_8 : Int64 := w_11.2.2.2.2.2
    let w_21 := F_Ru_add rf_lines rf_steps rf_asksSure c_rf_kinds c_rf_features c_rf_compares c_rf_numbers 10 (-1) 0 0
    let nw0_12 : Int32 := w_21.1
    let nw1_13 : Nat → Int32 := w_21.2.1
    let nw2_14 : Nat → Int32 := w_21.2.2.1
    let nw3_15 : Nat → Int32 := w_21.2.2.2.1
    let nw4_16 : Nat → Int32 := w_21.2.2.2.2.1
    let nw5_17 : Int32 := w_21.2.2.2.2.2.1
    let nw6_18 : Int32 := w_21.2.2.2.2.2.2
    let w_24 := F_at_3 c_rr_b (rr_depth - 1)
    let r_22 : Int32 := w_24
    let w_28 := F_Ru_pair c_rf_partners r_22 (nw0_12 - 1)
    let nw0_25 : Nat → Int32 := w_28
    let w_39 := F_Te_takeSign t_length nw0_3 nw1_4 nw2_5 nw4_7 nw3_6 nw5_8 t_fault t_faultPlace c_tape 59
    let r_37 : Int32 := w_39.1
    let nw0_29 : Int32 := w_39.2.1
    let nw1_30 : Int32 := w_39.2.2.1
    let nw2_31 : Int32 := w_39.2.2.2.1
    let nw3_32 : Int32 := w_39.2.2.2.2.1
    let nw4_33 : Int32 := w_39.2.2.2.2.2.1
    let nw5_34 : Int64 := w_39.2.2.2.2.2.2.1
    let nw6_35 : Int32 := w_39.2.2.2.2.2.2.2.1
    let nw7_36 : Int32 := w_39.2.2.2.2.2.2.2.2
    (r_37, (rr_depth - 1), nw0_29, nw1_30, nw2_31, nw3_32, nw4_33, nw5_34, nw6_35, nw7_36, nw0_12, nw6_18, nw5_17, nw1_13, nw2_14, nw3_15, nw4_16, nw0_25)) else (
    let w_46 := F_Te_refuse t_kind t_start t_fault t_faultPlace 2
    let r_44 : Int32 := w_46.1
    let nw0_42 : Int32 := w_46.2.1
    let nw1_43 : Int32 := w_46.2.2
    (r_44, rr_depth, t_kind, t_start, t_end, t_number, t_sign, t_letters, nw0_42, nw1_43, rf_lines, rf_steps, rf_asksSure, c_rf_kinds, c_rf_features, c_rf_compares, c_rf_numbers, c_rf_partners))) := rfl
noncomputable def F_Ru_readStep (rr_depth : Int32) (h_features : Int32) (c_h_featureNames : Nat → Int64) (t_length : Int32) (t_kind : Int32) (t_start : Int32) (t_end : Int32) (t_number : Int32) (t_sign : Int32) (t_letters : Int64) (t_fault : Int32) (t_faultPlace : Int32) (c_tape : Nat → Int32) (c_rr_b : Nat → Int32) (rf_lines : Int32) (rf_steps : Int32) (rf_asksSure : Int32) (c_rf_kinds : Nat → Int32) (c_rf_features : Nat → Int32) (c_rf_compares : Nat → Int32) (c_rf_numbers : Nat → Int32) (c_rf_partners : Nat → Int32) : Int32 × Int32 × Int32 × Int32 × Int32 × Int32 × Int64 × Int32 × Int32 × Int32 × Int32 × Int32 × (Nat → Int32) × (Nat → Int32) × (Nat → Int32) × (Nat → Int32) × Int32 × (Nat → Int32) × (Nat → Int32) :=
  let w_3 := F_Te_is t_length t_kind t_start t_end c_tape 30
  let r_1 : Int32 := w_3
  if r_1 = 0 then (
    let w_8 := F_Te_is t_length t_kind t_start t_end c_tape 31
    let r_6 : Int32 := w_8
    if r_6 = 0 then (
      let w_127 := F_Te_is t_length t_kind t_start t_end c_tape 32
      let r_125 : Int32 := w_127
      if r_125 = 0 then (
        let w_132 := F_Ru_plainKind t_length t_kind t_start t_end c_tape
        let r_130 : Int32 := w_132
        if r_130 = (-1) then (
          let w_220 := F_Te_refuse t_kind t_start t_fault t_faultPlace 2
          let r_218 : Int32 := w_220.1
          let nw0_216 : Int32 := w_220.2.1
          let nw1_217 : Int32 := w_220.2.2
          (r_218, t_kind, t_start, t_end, t_number, t_sign, t_letters, nw0_216, nw1_217, rf_lines, rf_steps, rf_asksSure, c_rf_kinds, c_rf_features, c_rf_compares, c_rf_numbers, rr_depth, c_rr_b, c_rf_partners)) else (
          if rf_steps < 30 then (
            let w_145 := F_Te_advance t_length t_end t_number t_sign t_letters c_tape
            let nw0_137 : Int32 := w_145.1
            let nw1_138 : Int32 := w_145.2.1
            let nw2_139 : Int32 := w_145.2.2.1
            let nw3_140 : Int32 := w_145.2.2.2.1
            let nw4_141 : Int32 := w_145.2.2.2.2.1
            let nw5_142 : Int64 := w_145.2.2.2.2.2
            if r_6 = 0 then (
              let w_165 := F_Ru_readPlain h_features c_h_featureNames t_length nw0_137 nw1_138 nw2_139 nw4_141 nw3_140 nw5_142 t_fault t_faultPlace c_tape rf_lines rf_steps rf_asksSure c_rf_kinds c_rf_features c_rf_compares c_rf_numbers r_130
              let r_163 : Int32 := w_165.1
              let nw0_148 : Int32 := w_165.2.1
              let nw1_149 : Int32 := w_165.2.2.1
              let nw2_150 : Int32 := w_165.2.2.2.1
              let nw3_151 : Int32 := w_165.2.2.2.2.1
              let nw4_152 : Int32 := w_165.2.2.2.2.2.1
              let nw5_153 : Int64 := w_165.2.2.2.2.2.2.1
              let nw6_154 : Int32 := w_165.2.2.2.2.2.2.2.1
              let nw7_155 : Int32 := w_165.2.2.2.2.2.2.2.2.1
              let nw8_156 : Int32 := w_165.2.2.2.2.2.2.2.2.2.1
              let nw9_157 : Int32 := w_165.2.2.2.2.2.2.2.2.2.2.1
              let nw10_158 : Int32 := w_165.2.2.2.2.2.2.2.2.2.2.2.1
              let nw11_159 : Nat → Int32 := w_165.2.2.2.2.2.2.2.2.2.2.2.2.1
              let nw12_160 : Nat → Int32 := w_165.2.2.2.2.2.2.2.2.2.2.2.2.2.1
              let nw13_161 : Nat → Int32 := w_165.2.2.2.2.2.2.2.2.2.2.2.2.2.2.1
              let nw14_162 : Nat → Int32 := w_165.2.2.2.2.2.2.2.2.2.2.2.2.2.2.2
              (r_163, nw0_148, nw1_149, nw2_150, nw3_151, nw4_152, nw5_153, nw6_154, nw7_155, nw8_156, nw9_157, nw10_158, nw11_159, nw12_160, nw13_161, nw14_162, rr_depth, c_rr_b, c_rf_partners)) else (
              let w_185 := F_Ru_readLoop t_length nw0_137 nw1_138 nw2_139 nw4_141 nw3_140 nw5_142 t_fault t_faultPlace c_tape rf_lines rf_steps rf_asksSure c_rf_kinds c_rf_features c_rf_compares c_rf_numbers
              let r_183 : Int32 := w_185.1
              let nw0_168 : Int32 := w_185.2.1
              let nw1_169 : Int32 := w_185.2.2.1
              let nw2_170 : Int32 := w_185.2.2.2.1
              let nw3_171 : Int32 := w_185.2.2.2.2.1
              let nw4_172 : Int32 := w_185.2.2.2.2.2.1
              let nw5_173 : Int64 := w_185.2.2.2.2.2.2.1
              let nw6_174 : Int32 := w_185.2.2.2.2.2.2.2.1
              let nw7_175 : Int32 := w_185.2.2.2.2.2.2.2.2.1
              let nw8_176 : Int32 := w_185.2.2.2.2.2.2.2.2.2.1
              let nw9_177 : Int32 := w_185.2.2.2.2.2.2.2.2.2.2.1
              let nw10_178 : Int32 := w_185.2.2.2.2.2.2.2.2.2.2.2.1
              let nw11_179 : Nat → Int32 := w_185.2.2.2.2.2.2.2.2.2.2.2.2.1
              let nw12_180 : Nat → Int32 := w_185.2.2.2.2.2.2.2.2.2.2.2.2.2.1
              let nw13_181 : Nat → Int32 := w_185.2.2.2.2.2.2.2.2.2.2.2.2.2.2.1
              let nw14_182 : Nat → Int32 := w_185.2.2.2.2.2.2.2.2.2.2.2.2.2.2.2
              if r_183 = 0 then (
                ((0 : Int32), nw0_168, nw1_169, nw2_170, nw3_171, nw4_172, nw5_173, nw6_174, nw7_175, nw8_176, nw9_177, nw10_178, nw11_179, nw12_180, nw13_181, nw14_182, rr_depth, c_rr_b, c_rf_partners)) else (
                let w_202 := F_Ru_beginBlock rr_depth t_length nw0_168 nw1_169 nw2_170 nw3_171 nw4_172 nw5_173 nw6_174 nw7_175 c_tape c_rr_b nw8_176
                let r_200 : Int32 := w_202.1
                let nw0_190 : Int32 := w_202.2.1
                let nw1_191 : Int32 := w_202.2.2.1
                let nw2_192 : Int32 := w_202.2.2.2.1
                let nw3_193 : Int32 := w_202.2.2.2.2.1
                let nw4_194 : Int32 := w_202.2.2.2.2.2.1
                let nw5_195 : Int32 := w_202.2.2.2.2.2.2.1
                let nw6_196 : Int64 := w_202.2.2.2.2.2.2.2.1
                let nw7_197 : Int32 := w_202.2.2.2.2.2.2.2.2.1
                let nw8_198 : Int32 := w_202.2.2.2.2.2.2.2.2.2.1
                let nw9_199 : Nat → Int32 := w_202.2.2.2.2.2.2.2.2.2.2
                if r_200 = 0 then (
                  ((0 : Int32), nw1_191, nw2_192, nw3_193, nw4_194, nw5_195, nw6_196, nw7_197, nw8_198, nw8_176, nw9_177, nw10_178, nw11_179, nw12_180, nw13_181, nw14_182, nw0_190, nw9_199, c_rf_partners)) else (
                  ((1 : Int32), nw1_191, nw2_192, nw3_193, nw4_194, nw5_195, nw6_196, nw7_197, nw8_198, nw8_176, nw9_177, nw10_178, nw11_179, nw12_180, nw13_181, nw14_182, nw0_190, nw9_199, c_rf_partners))))) else (
            let w_213 := F_Te_refuse t_kind t_start t_fault t_faultPlace 6
            let r_211 : Int32 := w_213.1
            let nw0_209 : Int32 := w_213.2.1
            let nw1_210 : Int32 := w_213.2.2
            (r_211, t_kind, t_start, t_end, t_number, t_sign, t_letters, nw0_209, nw1_210, rf_lines, rf_steps, rf_asksSure, c_rf_kinds, c_rf_features, c_rf_compares, c_rf_numbers, rr_depth, c_rr_b, c_rf_partners)))) else (
        let w_225 := F_Ru_plainKind t_length t_kind t_start t_end c_tape
        let r_223 : Int32 := w_225
        if rf_steps < 30 then (
          if rr_depth < 3 then (
            let w_238 := F_Te_advance t_length t_end t_number t_sign t_letters c_tape
            let nw0_230 : Int32 := w_238.1
            let nw1_231 : Int32 := w_238.2.1
            let nw2_232 : Int32 := w_238.2.2.1
            let nw3_233 : Int32 := w_238.2.2.2.1
            let nw4_234 : Int32 := w_238.2.2.2.2.1
            let nw5_235 : Int64 := w_238.2.2.2.2.2
            if r_6 = 0 then (
              let w_258 := F_Ru_readWhen h_features c_h_featureNames t_length nw0_230 nw1_231 nw2_232 nw4_234 nw3_233 nw5_235 t_fault t_faultPlace c_tape rf_lines rf_steps rf_asksSure c_rf_kinds c_rf_features c_rf_compares c_rf_numbers
              let r_256 : Int32 := w_258.1
              let nw0_241 : Int32 := w_258.2.1
              let nw1_242 : Int32 := w_258.2.2.1
              let nw2_243 : Int32 := w_258.2.2.2.1
              let nw3_244 : Int32 := w_258.2.2.2.2.1
              let nw4_245 : Int32 := w_258.2.2.2.2.2.1
              let nw5_246 : Int64 := w_258.2.2.2.2.2.2.1
              let nw6_247 : Int32 := w_258.2.2.2.2.2.2.2.1
              let nw7_248 : Int32 := w_258.2.2.2.2.2.2.2.2.1
              let nw8_249 : Int32 := w_258.2.2.2.2.2.2.2.2.2.1
              let nw9_250 : Int32 := w_258.2.2.2.2.2.2.2.2.2.2.1
              let nw10_251 : Int32 := w_258.2.2.2.2.2.2.2.2.2.2.2.1
              let nw11_252 : Nat → Int32 := w_258.2.2.2.2.2.2.2.2.2.2.2.2.1
              let nw12_253 : Nat → Int32 := w_258.2.2.2.2.2.2.2.2.2.2.2.2.2.1
              let nw13_254 : Nat → Int32 := w_258.2.2.2.2.2.2.2.2.2.2.2.2.2.2.1
              let nw14_255 : Nat → Int32 := w_258.2.2.2.2.2.2.2.2.2.2.2.2.2.2.2
              if r_256 = 0 then (
                ((0 : Int32), nw0_241, nw1_242, nw2_243, nw3_244, nw4_245, nw5_246, nw6_247, nw7_248, nw8_249, nw9_250, nw10_251, nw11_252, nw12_253, nw13_254, nw14_255, rr_depth, c_rr_b, c_rf_partners)) else (
                let w_275 := F_Ru_beginBlock rr_depth t_length nw0_241 nw1_242 nw2_243 nw3_244 nw4_245 nw5_246 nw6_247 nw7_248 c_tape c_rr_b nw8_249
                let r_273 : Int32 := w_275.1
                let nw0_263 : Int32 := w_275.2.1
                let nw1_264 : Int32 := w_275.2.2.1
                let nw2_265 : Int32 := w_275.2.2.2.1
                let nw3_266 : Int32 := w_275.2.2.2.2.1
                let nw4_267 : Int32 := w_275.2.2.2.2.2.1
                let nw5_268 : Int32 := w_275.2.2.2.2.2.2.1
                let nw6_269 : Int64 := w_275.2.2.2.2.2.2.2.1
                let nw7_270 : Int32 := w_275.2.2.2.2.2.2.2.2.1
                let nw8_271 : Int32 := w_275.2.2.2.2.2.2.2.2.2.1
                let nw9_272 : Nat → Int32 := w_275.2.2.2.2.2.2.2.2.2.2
                if r_273 = 0 then (
                  ((0 : Int32), nw1_264, nw2_265, nw3_266, nw4_267, nw5_268, nw6_269, nw7_270, nw8_271, nw8_249, nw9_250, nw10_251, nw11_252, nw12_253, nw13_254, nw14_255, nw0_263, nw9_272, c_rf_partners)) else (
                  ((1 : Int32), nw1_264, nw2_265, nw3_266, nw4_267, nw5_268, nw6_269, nw7_270, nw8_271, nw8_249, nw9_250, nw10_251, nw11_252, nw12_253, nw13_254, nw14_255, nw0_263, nw9_272, c_rf_partners)))) else (
              let w_299 := F_Ru_readLoop t_length nw0_230 nw1_231 nw2_232 nw4_234 nw3_233 nw5_235 t_fault t_faultPlace c_tape rf_lines rf_steps rf_asksSure c_rf_kinds c_rf_features c_rf_compares c_rf_numbers
              let r_297 : Int32 := w_299.1
              let nw0_282 : Int32 := w_299.2.1
              let nw1_283 : Int32 := w_299.2.2.1
              let nw2_284 : Int32 := w_299.2.2.2.1
              let nw3_285 : Int32 := w_299.2.2.2.2.1
              let nw4_286 : Int32 := w_299.2.2.2.2.2.1
              let nw5_287 : Int64 := w_299.2.2.2.2.2.2.1
              let nw6_288 : Int32 := w_299.2.2.2.2.2.2.2.1
              let nw7_289 : Int32 := w_299.2.2.2.2.2.2.2.2.1
              let nw8_290 : Int32 := w_299.2.2.2.2.2.2.2.2.2.1
              let nw9_291 : Int32 := w_299.2.2.2.2.2.2.2.2.2.2.1
              let nw10_292 : Int32 := w_299.2.2.2.2.2.2.2.2.2.2.2.1
              let nw11_293 : Nat → Int32 := w_299.2.2.2.2.2.2.2.2.2.2.2.2.1
              let nw12_294 : Nat → Int32 := w_299.2.2.2.2.2.2.2.2.2.2.2.2.2.1
              let nw13_295 : Nat → Int32 := w_299.2.2.2.2.2.2.2.2.2.2.2.2.2.2.1
              let nw14_296 : Nat → Int32 := w_299.2.2.2.2.2.2.2.2.2.2.2.2.2.2.2
              if r_297 = 0 then (
                ((0 : Int32), nw0_282, nw1_283, nw2_284, nw3_285, nw4_286, nw5_287, nw6_288, nw7_289, nw8_290, nw9_291, nw10_292, nw11_293, nw12_294, nw13_295, nw14_296, rr_depth, c_rr_b, c_rf_partners)) else (
                let w_316 := F_Ru_beginBlock rr_depth t_length nw0_282 nw1_283 nw2_284 nw3_285 nw4_286 nw5_287 nw6_288 nw7_289 c_tape c_rr_b nw8_290
                let r_314 : Int32 := w_316.1
                let nw0_304 : Int32 := w_316.2.1
                let nw1_305 : Int32 := w_316.2.2.1
                let nw2_306 : Int32 := w_316.2.2.2.1
                let nw3_307 : Int32 := w_316.2.2.2.2.1
                let nw4_308 : Int32 := w_316.2.2.2.2.2.1
                let nw5_309 : Int32 := w_316.2.2.2.2.2.2.1
                let nw6_310 : Int64 := w_316.2.2.2.2.2.2.2.1
                let nw7_311 : Int32 := w_316.2.2.2.2.2.2.2.2.1
                let nw8_312 : Int32 := w_316.2.2.2.2.2.2.2.2.2.1
                let nw9_313 : Nat → Int32 := w_316.2.2.2.2.2.2.2.2.2.2
                if r_314 = 0 then (
                  ((0 : Int32), nw1_305, nw2_306, nw3_307, nw4_308, nw5_309, nw6_310, nw7_311, nw8_312, nw8_290, nw9_291, nw10_292, nw11_293, nw12_294, nw13_295, nw14_296, nw0_304, nw9_313, c_rf_partners)) else (
                  ((1 : Int32), nw1_305, nw2_306, nw3_307, nw4_308, nw5_309, nw6_310, nw7_311, nw8_312, nw8_290, nw9_291, nw10_292, nw11_293, nw12_294, nw13_295, nw14_296, nw0_304, nw9_313, c_rf_partners))))) else (
            let w_327 := F_Te_refuse t_kind t_start t_fault t_faultPlace 7
            let r_325 : Int32 := w_327.1
            let nw0_323 : Int32 := w_327.2.1
            let nw1_324 : Int32 := w_327.2.2
            (r_325, t_kind, t_start, t_end, t_number, t_sign, t_letters, nw0_323, nw1_324, rf_lines, rf_steps, rf_asksSure, c_rf_kinds, c_rf_features, c_rf_compares, c_rf_numbers, rr_depth, c_rr_b, c_rf_partners))) else (
          let w_334 := F_Te_refuse t_kind t_start t_fault t_faultPlace 6
          let r_332 : Int32 := w_334.1
          let nw0_330 : Int32 := w_334.2.1
          let nw1_331 : Int32 := w_334.2.2
          (r_332, t_kind, t_start, t_end, t_number, t_sign, t_letters, nw0_330, nw1_331, rf_lines, rf_steps, rf_asksSure, c_rf_kinds, c_rf_features, c_rf_compares, c_rf_numbers, rr_depth, c_rr_b, c_rf_partners)))) else (
      let w_13 := F_Ru_plainKind t_length t_kind t_start t_end c_tape
      let r_11 : Int32 := w_13
      if rf_steps < 30 then (
        if rr_depth < 3 then (
          let w_26 := F_Te_advance t_length t_end t_number t_sign t_letters c_tape
          let nw0_18 : Int32 := w_26.1
          let nw1_19 : Int32 := w_26.2.1
          let nw2_20 : Int32 := w_26.2.2.1
          let nw3_21 : Int32 := w_26.2.2.2.1
          let nw4_22 : Int32 := w_26.2.2.2.2.1
          let nw5_23 : Int64 := w_26.2.2.2.2.2
          if r_6 = 0 then (
            let w_46 := F_Ru_readWhen h_features c_h_featureNames t_length nw0_18 nw1_19 nw2_20 nw4_22 nw3_21 nw5_23 t_fault t_faultPlace c_tape rf_lines rf_steps rf_asksSure c_rf_kinds c_rf_features c_rf_compares c_rf_numbers
            let r_44 : Int32 := w_46.1
            let nw0_29 : Int32 := w_46.2.1
            let nw1_30 : Int32 := w_46.2.2.1
            let nw2_31 : Int32 := w_46.2.2.2.1
            let nw3_32 : Int32 := w_46.2.2.2.2.1
            let nw4_33 : Int32 := w_46.2.2.2.2.2.1
            let nw5_34 : Int64 := w_46.2.2.2.2.2.2.1
            let nw6_35 : Int32 := w_46.2.2.2.2.2.2.2.1
            let nw7_36 : Int32 := w_46.2.2.2.2.2.2.2.2.1
            let nw8_37 : Int32 := w_46.2.2.2.2.2.2.2.2.2.1
            let nw9_38 : Int32 := w_46.2.2.2.2.2.2.2.2.2.2.1
            let nw10_39 : Int32 := w_46.2.2.2.2.2.2.2.2.2.2.2.1
            let nw11_40 : Nat → Int32 := w_46.2.2.2.2.2.2.2.2.2.2.2.2.1
            let nw12_41 : Nat → Int32 := w_46.2.2.2.2.2.2.2.2.2.2.2.2.2.1
            let nw13_42 : Nat → Int32 := w_46.2.2.2.2.2.2.2.2.2.2.2.2.2.2.1
            let nw14_43 : Nat → Int32 := w_46.2.2.2.2.2.2.2.2.2.2.2.2.2.2.2
            if r_44 = 0 then (
              ((0 : Int32), nw0_29, nw1_30, nw2_31, nw3_32, nw4_33, nw5_34, nw6_35, nw7_36, nw8_37, nw9_38, nw10_39, nw11_40, nw12_41, nw13_42, nw14_43, rr_depth, c_rr_b, c_rf_partners)) else (
              let w_63 := F_Ru_beginBlock rr_depth t_length nw0_29 nw1_30 nw2_31 nw3_32 nw4_33 nw5_34 nw6_35 nw7_36 c_tape c_rr_b nw8_37
              let r_61 : Int32 := w_63.1
              let nw0_51 : Int32 := w_63.2.1
              let nw1_52 : Int32 := w_63.2.2.1
              let nw2_53 : Int32 := w_63.2.2.2.1
              let nw3_54 : Int32 := w_63.2.2.2.2.1
              let nw4_55 : Int32 := w_63.2.2.2.2.2.1
              let nw5_56 : Int32 := w_63.2.2.2.2.2.2.1
              let nw6_57 : Int64 := w_63.2.2.2.2.2.2.2.1
              let nw7_58 : Int32 := w_63.2.2.2.2.2.2.2.2.1
              let nw8_59 : Int32 := w_63.2.2.2.2.2.2.2.2.2.1
              let nw9_60 : Nat → Int32 := w_63.2.2.2.2.2.2.2.2.2.2
              if r_61 = 0 then (
                ((0 : Int32), nw1_52, nw2_53, nw3_54, nw4_55, nw5_56, nw6_57, nw7_58, nw8_59, nw8_37, nw9_38, nw10_39, nw11_40, nw12_41, nw13_42, nw14_43, nw0_51, nw9_60, c_rf_partners)) else (
                ((1 : Int32), nw1_52, nw2_53, nw3_54, nw4_55, nw5_56, nw6_57, nw7_58, nw8_59, nw8_37, nw9_38, nw10_39, nw11_40, nw12_41, nw13_42, nw14_43, nw0_51, nw9_60, c_rf_partners)))) else (
            let w_87 := F_Ru_readLoop t_length nw0_18 nw1_19 nw2_20 nw4_22 nw3_21 nw5_23 t_fault t_faultPlace c_tape rf_lines rf_steps rf_asksSure c_rf_kinds c_rf_features c_rf_compares c_rf_numbers
            let r_85 : Int32 := w_87.1
            let nw0_70 : Int32 := w_87.2.1
            let nw1_71 : Int32 := w_87.2.2.1
            let nw2_72 : Int32 := w_87.2.2.2.1
            let nw3_73 : Int32 := w_87.2.2.2.2.1
            let nw4_74 : Int32 := w_87.2.2.2.2.2.1
            let nw5_75 : Int64 := w_87.2.2.2.2.2.2.1
            let nw6_76 : Int32 := w_87.2.2.2.2.2.2.2.1
            let nw7_77 : Int32 := w_87.2.2.2.2.2.2.2.2.1
            let nw8_78 : Int32 := w_87.2.2.2.2.2.2.2.2.2.1
            let nw9_79 : Int32 := w_87.2.2.2.2.2.2.2.2.2.2.1
            let nw10_80 : Int32 := w_87.2.2.2.2.2.2.2.2.2.2.2.1
            let nw11_81 : Nat → Int32 := w_87.2.2.2.2.2.2.2.2.2.2.2.2.1
            let nw12_82 : Nat → Int32 := w_87.2.2.2.2.2.2.2.2.2.2.2.2.2.1
            let nw13_83 : Nat → Int32 := w_87.2.2.2.2.2.2.2.2.2.2.2.2.2.2.1
            let nw14_84 : Nat → Int32 := w_87.2.2.2.2.2.2.2.2.2.2.2.2.2.2.2
            if r_85 = 0 then (
              ((0 : Int32), nw0_70, nw1_71, nw2_72, nw3_73, nw4_74, nw5_75, nw6_76, nw7_77, nw8_78, nw9_79, nw10_80, nw11_81, nw12_82, nw13_83, nw14_84, rr_depth, c_rr_b, c_rf_partners)) else (
              let w_104 := F_Ru_beginBlock rr_depth t_length nw0_70 nw1_71 nw2_72 nw3_73 nw4_74 nw5_75 nw6_76 nw7_77 c_tape c_rr_b nw8_78
              let r_102 : Int32 := w_104.1
              let nw0_92 : Int32 := w_104.2.1
              let nw1_93 : Int32 := w_104.2.2.1
              let nw2_94 : Int32 := w_104.2.2.2.1
              let nw3_95 : Int32 := w_104.2.2.2.2.1
              let nw4_96 : Int32 := w_104.2.2.2.2.2.1
              let nw5_97 : Int32 := w_104.2.2.2.2.2.2.1
              let nw6_98 : Int64 := w_104.2.2.2.2.2.2.2.1
              let nw7_99 : Int32 := w_104.2.2.2.2.2.2.2.2.1
              let nw8_100 : Int32 := w_104.2.2.2.2.2.2.2.2.2.1
              let nw9_101 : Nat → Int32 := w_104.2.2.2.2.2.2.2.2.2.2
              if r_102 = 0 then (
                ((0 : Int32), nw1_93, nw2_94, nw3_95, nw4_96, nw5_97, nw6_98, nw7_99, nw8_100, nw8_78, nw9_79, nw10_80, nw11_81, nw12_82, nw13_83, nw14_84, nw0_92, nw9_101, c_rf_partners)) else (
                ((1 : Int32), nw1_93, nw2_94, nw3_95, nw4_96, nw5_97, nw6_98, nw7_99, nw8_100, nw8_78, nw9_79, nw10_80, nw11_81, nw12_82, nw13_83, nw14_84, nw0_92, nw9_101, c_rf_partners))))) else (
          let w_115 := F_Te_refuse t_kind t_start t_fault t_faultPlace 7
          let r_113 : Int32 := w_115.1
          let nw0_111 : Int32 := w_115.2.1
          let nw1_112 : Int32 := w_115.2.2
          (r_113, t_kind, t_start, t_end, t_number, t_sign, t_letters, nw0_111, nw1_112, rf_lines, rf_steps, rf_asksSure, c_rf_kinds, c_rf_features, c_rf_compares, c_rf_numbers, rr_depth, c_rr_b, c_rf_partners))) else (
        let w_122 := F_Te_refuse t_kind t_start t_fault t_faultPlace 6
        let r_120 : Int32 := w_122.1
        let nw0_118 : Int32 := w_122.2.1
        let nw1_119 : Int32 := w_122.2.2
        (r_120, t_kind, t_start, t_end, t_number, t_sign, t_letters, nw0_118, nw1_119, rf_lines, rf_steps, rf_asksSure, c_rf_kinds, c_rf_features, c_rf_compares, c_rf_numbers, rr_depth, c_rr_b, c_rf_partners)))) else (
    let w_356 := F_Ru_readEnd rr_depth t_length t_kind t_start t_end t_number t_sign t_letters t_fault t_faultPlace c_tape c_rr_b rf_lines rf_steps rf_asksSure c_rf_kinds c_rf_features c_rf_compares c_rf_numbers c_rf_partners
    let r_354 : Int32 := w_356.1
    let nw0_337 : Int32 := w_356.2.1
    let nw1_338 : Int32 := w_356.2.2.1
    let nw2_339 : Int32 := w_356.2.2.2.1
    let nw3_340 : Int32 := w_356.2.2.2.2.1
    let nw4_341 : Int32 := w_356.2.2.2.2.2.1
    let nw5_342 : Int32 := w_356.2.2.2.2.2.2.1
    let nw6_343 : Int64 := w_356.2.2.2.2.2.2.2.1
    let nw7_344 : Int32 := w_356.2.2.2.2.2.2.2.2.1
    let nw8_345 : Int32 := w_356.2.2.2.2.2.2.2.2.2.1
    let nw9_346 : Int32 := w_356.2.2.2.2.2.2.2.2.2.2.1
    let nw10_347 : Int32 := w_356.2.2.2.2.2.2.2.2.2.2.2.1
    let nw11_348 : Int32 := w_356.2.2.2.2.2.2.2.2.2.2.2.2.1
    let nw12_349 : Nat → Int32 := w_356.2.2.2.2.2.2.2.2.2.2.2.2.2.1
    let nw13_350 : Nat → Int32 := w_356.2.2.2.2.2.2.2.2.2.2.2.2.2.2.1
    let nw14_351 : Nat → Int32 := w_356.2.2.2.2.2.2.2.2.2.2.2.2.2.2.2.1
    let nw15_352 : Nat → Int32 := w_356.2.2.2.2.2.2.2.2.2.2.2.2.2.2.2.2.1
    let nw16_353 : Nat → Int32 := w_356.2.2.2.2.2.2.2.2.2.2.2.2.2.2.2.2.2
    (r_354, nw1_338, nw2_339, nw3_340, nw4_341, nw5_342, nw6_343, nw7_344, nw8_345, nw9_346, nw10_347, nw11_348, nw12_349, nw13_350, nw14_351, nw15_352, nw0_337, c_rr_b, nw16_353))
theorem F_Ru_readStep_s (rr_depth : Int32) (h_features : Int32) (c_h_featureNames : Nat → Int64) (t_length : Int32) (t_kind : Int32) (t_start : Int32) (t_end : Int32) (t_number : Int32) (t_sign : Int32) (t_letters : Int64) (t_fault : Int32) (t_faultPlace : Int32) (c_tape : Nat → Int32) (c_rr_b : Nat → Int32) (rf_lines : Int32) (rf_steps : Int32) (rf_asksSure : Int32) (c_rf_kinds : Nat → Int32) (c_rf_features : Nat → Int32) (c_rf_compares : Nat → Int32) (c_rf_numbers : Nat → Int32) (c_rf_partners : Nat → Int32) : F_Ru_readStep rr_depth h_features c_h_featureNames t_length t_kind t_start t_end t_number t_sign t_letters t_fault t_faultPlace c_tape c_rr_b rf_lines rf_steps rf_asksSure c_rf_kinds c_rf_features c_rf_compares c_rf_numbers c_rf_partners = (
  let w_3 := F_Te_is t_length t_kind t_start t_end c_tape 30
  let r_1 : Int32 := w_3
  if r_1 = 0 then (
    let w_8 := F_Te_is t_length t_kind t_start t_end c_tape 31
    let r_6 : Int32 := w_8
    if r_6 = 0 then (
      let w_127 := F_Te_is t_length t_kind t_start t_end c_tape 32
      let r_125 : Int32 := w_127
      if r_125 = 0 then (
        let w_132 := F_Ru_plainKind t_length t_kind t_start t_end c_tape
        let r_130 : Int32 := w_132
        if r_130 = (-1) then (
          let w_220 := F_Te_refuse t_kind t_start t_fault t_faultPlace 2
          let r_218 : Int32 := w_220.1
          let nw0_216 : Int32 := w_220.2.1
          let nw1_217 : Int32 := w_220.2.2
          (r_218, t_kind, t_start, t_end, t_number, t_sign, t_letters, nw0_216, nw1_217, rf_lines, rf_steps, rf_asksSure, c_rf_kinds, c_rf_features, c_rf_compares, c_rf_numbers, rr_depth, c_rr_b, c_rf_partners)) else (
          if rf_steps < 30 then (
            let w_145 := F_Te_advance t_length t_end t_number t_sign t_letters c_tape
            let nw0_137 : Int32 := w_145.1
            let nw1_138 : Int32 := w_145.2.1
            let nw2_139 : Int32 := w_145.2.2.1
            let nw3_140 : Int32 := w_145.2.2.2.1
            let nw4_141 : Int32 := w_145.2.2.2.2.1
            let nw5_142 : Int64 := w_145.2.2.2.2.2
            if r_6 = 0 then (
              let w_165 := F_Ru_readPlain h_features c_h_featureNames t_length nw0_137 nw1_138 nw2_139 nw4_141 nw3_140 nw5_142 t_fault t_faultPlace c_tape rf_lines rf_steps rf_asksSure c_rf_kinds c_rf_features c_rf_compares c_rf_numbers r_130
              let r_163 : Int32 := w_165.1
              let nw0_148 : Int32 := w_165.2.1
              let nw1_149 : Int32 := w_165.2.2.1
              let nw2_150 : Int32 := w_165.2.2.2.1
              let nw3_151 : Int32 := w_165.2.2.2.2.1
              let nw4_152 : Int32 := w_165.2.2.2.2.2.1
              let nw5_153 : Int64 := w_165.2.2.2.2.2.2.1
              let nw6_154 : Int32 := w_165.2.2.2.2.2.2.2.1
              let nw7_155 : Int32 := w_165.2.2.2.2.2.2.2.2.1
              let nw8_156 : Int32 := w_165.2.2.2.2.2.2.2.2.2.1
              let nw9_157 : Int32 := w_165.2.2.2.2.2.2.2.2.2.2.1
              let nw10_158 : Int32 := w_165.2.2.2.2.2.2.2.2.2.2.2.1
              let nw11_159 : Nat → Int32 := w_165.2.2.2.2.2.2.2.2.2.2.2.2.1
              let nw12_160 : Nat → Int32 := w_165.2.2.2.2.2.2.2.2.2.2.2.2.2.1
              let nw13_161 : Nat → Int32 := w_165.2.2.2.2.2.2.2.2.2.2.2.2.2.2.1
              let nw14_162 : Nat → Int32 := w_165.2.2.2.2.2.2.2.2.2.2.2.2.2.2.2
              (r_163, nw0_148, nw1_149, nw2_150, nw3_151, nw4_152, nw5_153, nw6_154, nw7_155, nw8_156, nw9_157, nw10_158, nw11_159, nw12_160, nw13_161, nw14_162, rr_depth, c_rr_b, c_rf_partners)) else (
              let w_185 := F_Ru_readLoop t_length nw0_137 nw1_138 nw2_139 nw4_141 nw3_140 nw5_142 t_fault t_faultPlace c_tape rf_lines rf_steps rf_asksSure c_rf_kinds c_rf_features c_rf_compares c_rf_numbers
              let r_183 : Int32 := w_185.1
              let nw0_168 : Int32 := w_185.2.1
              let nw1_169 : Int32 := w_185.2.2.1
              let nw2_170 : Int32 := w_185.2.2.2.1
              let nw3_171 : Int32 := w_185.2.2.2.2.1
              let nw4_172 : Int32 := w_185.2.2.2.2.2.1
              let nw5_173 : Int64 := w_185.2.2.2.2.2.2.1
              let nw6_174 : Int32 := w_185.2.2.2.2.2.2.2.1
              let nw7_175 : Int32 := w_185.2.2.2.2.2.2.2.2.1
              let nw8_176 : Int32 := w_185.2.2.2.2.2.2.2.2.2.1
              let nw9_177 : Int32 := w_185.2.2.2.2.2.2.2.2.2.2.1
              let nw10_178 : Int32 := w_185.2.2.2.2.2.2.2.2.2.2.2.1
              let nw11_179 : Nat → Int32 := w_185.2.2.2.2.2.2.2.2.2.2.2.2.1
              let nw12_180 : Nat → Int32 := w_185.2.2.2.2.2.2.2.2.2.2.2.2.2.1
              let nw13_181 : Nat → Int32 := w_185.2.2.2.2.2.2.2.2.2.2.2.2.2.2.1
              let nw14_182 : Nat → Int32 := w_185.2.2.2.2.2.2.2.2.2.2.2.2.2.2.2
              if r_183 = 0 then (
                ((0 : Int32), nw0_168, nw1_169, nw2_170, nw3_171, nw4_172, nw5_173, nw6_174, nw7_175, nw8_176, nw9_177, nw10_178, nw11_179, nw12_180, nw13_181, nw14_182, rr_depth, c_rr_b, c_rf_partners)) else (
                let w_202 := F_Ru_beginBlock rr_depth t_length nw0_168 nw1_169 nw2_170 nw3_171 nw4_172 nw5_173 nw6_174 nw7_175 c_tape c_rr_b nw8_176
                let r_200 : Int32 := w_202.1
                let nw0_190 : Int32 := w_202.2.1
                let nw1_191 : Int32 := w_202.2.2.1
                let nw2_192 : Int32 := w_202.2.2.2.1
                let nw3_193 : Int32 := w_202.2.2.2.2.1
                let nw4_194 : Int32 := w_202.2.2.2.2.2.1
                let nw5_195 : Int32 := w_202.2.2.2.2.2.2.1
                let nw6_196 : Int64 := w_202.2.2.2.2.2.2.2.1
                let nw7_197 : Int32 := w_202.2.2.2.2.2.2.2.2.1
                let nw8_198 : Int32 := w_202.2.2.2.2.2.2.2.2.2.1
                let nw9_199 : Nat → Int32 := w_202.2.2.2.2.2.2.2.2.2.2
                if r_200 = 0 then (
                  ((0 : Int32), nw1_191, nw2_192, nw3_193, nw4_194, nw5_195, nw6_196, nw7_197, nw8_198, nw8_176, nw9_177, nw10_178, nw11_179, nw12_180, nw13_181, nw14_182, nw0_190, nw9_199, c_rf_partners)) else (
                  ((1 : Int32), nw1_191, nw2_192, nw3_193, nw4_194, nw5_195, nw6_196, nw7_197, nw8_198, nw8_176, nw9_177, nw10_178, nw11_179, nw12_180, nw13_181, nw14_182, nw0_190, nw9_199, c_rf_partners))))) else (
            let w_213 := F_Te_refuse t_kind t_start t_fault t_faultPlace 6
            let r_211 : Int32 := w_213.1
            let nw0_209 : Int32 := w_213.2.1
            let nw1_210 : Int32 := w_213.2.2
            (r_211, t_kind, t_start, t_end, t_number, t_sign, t_letters, nw0_209, nw1_210, rf_lines, rf_steps, rf_asksSure, c_rf_kinds, c_rf_features, c_rf_compares, c_rf_numbers, rr_depth, c_rr_b, c_rf_partners)))) else (
        let w_225 := F_Ru_plainKind t_length t_kind t_start t_end c_tape
        let r_223 : Int32 := w_225
        if rf_steps < 30 then (
          if rr_depth < 3 then (
            let w_238 := F_Te_advance t_length t_end t_number t_sign t_letters c_tape
            let nw0_230 : Int32 := w_238.1
            let nw1_231 : Int32 := w_238.2.1
            let nw2_232 : Int32 := w_238.2.2.1
            let nw3_233 : Int32 := w_238.2.2.2.1
            let nw4_234 : Int32 := w_238.2.2.2.2.1
            let nw5_235 : Int64 := w_238.2.2.2.2.2
            if r_6 = 0 then (
              let w_258 := F_Ru_readWhen h_features c_h_featureNames t_length nw0_230 nw1_231 nw2_232 nw4_234 nw3_233 nw5_235 t_fault t_faultPlace c_tape rf_lines rf_steps rf_asksSure c_rf_kinds c_rf_features c_rf_compares c_rf_numbers
              let r_256 : Int32 := w_258.1
              let nw0_241 : Int32 := w_258.2.1
              let nw1_242 : Int32 := w_258.2.2.1
              let nw2_243 : Int32 := w_258.2.2.2.1
              let nw3_244 : Int32 := w_258.2.2.2.2.1
              let nw4_245 : Int32 := w_258.2.2.2.2.2.1
              let nw5_246 : Int64 := w_258.2.2.2.2.2.2.1
              let nw6_247 : Int32 := w_258.2.2.2.2.2.2.2.1
              let nw7_248 : Int32 := w_258.2.2.2.2.2.2.2.2.1
              let nw8_249 : Int32 := w_258.2.2.2.2.2.2.2.2.2.1
              let nw9_250 : Int32 := w_258.2.2.2.2.2.2.2.2.2.2.1
              let nw10_251 : Int32 := w_258.2.2.2.2.2.2.2.2.2.2.2.1
              let nw11_252 : Nat → Int32 := w_258.2.2.2.2.2.2.2.2.2.2.2.2.1
              let nw12_253 : Nat → Int32 := w_258.2.2.2.2.2.2.2.2.2.2.2.2.2.1
              let nw13_254 : Nat → Int32 := w_258.2.2.2.2.2.2.2.2.2.2.2.2.2.2.1
              let nw14_255 : Nat → Int32 := w_258.2.2.2.2.2.2.2.2.2.2.2.2.2.2.2
              if r_256 = 0 then (
                ((0 : Int32), nw0_241, nw1_242, nw2_243, nw3_244, nw4_245, nw5_246, nw6_247, nw7_248, nw8_249, nw9_250, nw10_251, nw11_252, nw12_253, nw13_254, nw14_255, rr_depth, c_rr_b, c_rf_partners)) else (
                let w_275 := F_Ru_beginBlock rr_depth t_length nw0_241 nw1_242 nw2_243 nw3_244 nw4_245 nw5_246 nw6_247 nw7_248 c_tape c_rr_b nw8_249
                let r_273 : Int32 := w_275.1
                let nw0_263 : Int32 := w_275.2.1
                let nw1_264 : Int32 := w_275.2.2.1
                let nw2_265 : Int32 := w_275.2.2.2.1
                let nw3_266 : Int32 := w_275.2.2.2.2.1
                let nw4_267 : Int32 := w_275.2.2.2.2.2.1
                let nw5_268 : Int32 := w_275.2.2.2.2.2.2.1
                let nw6_269 : Int64 := w_275.2.2.2.2.2.2.2.1
                let nw7_270 : Int32 := w_275.2.2.2.2.2.2.2.2.1
                let nw8_271 : Int32 := w_275.2.2.2.2.2.2.2.2.2.1
                let nw9_272 : Nat → Int32 := w_275.2.2.2.2.2.2.2.2.2.2
                if r_273 = 0 then (
                  ((0 : Int32), nw1_264, nw2_265, nw3_266, nw4_267, nw5_268, nw6_269, nw7_270, nw8_271, nw8_249, nw9_250, nw10_251, nw11_252, nw12_253, nw13_254, nw14_255, nw0_263, nw9_272, c_rf_partners)) else (
                  ((1 : Int32), nw1_264, nw2_265, nw3_266, nw4_267, nw5_268, nw6_269, nw7_270, nw8_271, nw8_249, nw9_250, nw10_251, nw11_252, nw12_253, nw13_254, nw14_255, nw0_263, nw9_272, c_rf_partners)))) else (
              let w_299 := F_Ru_readLoop t_length nw0_230 nw1_231 nw2_232 nw4_234 nw3_233 nw5_235 t_fault t_faultPlace c_tape rf_lines rf_steps rf_asksSure c_rf_kinds c_rf_features c_rf_compares c_rf_numbers
              let r_297 : Int32 := w_299.1
              let nw0_282 : Int32 := w_299.2.1
              let nw1_283 : Int32 := w_299.2.2.1
              let nw2_284 : Int32 := w_299.2.2.2.1
              let nw3_285 : Int32 := w_299.2.2.2.2.1
              let nw4_286 : Int32 := w_299.2.2.2.2.2.1
              let nw5_287 : Int64 := w_299.2.2.2.2.2.2.1
              let nw6_288 : Int32 := w_299.2.2.2.2.2.2.2.1
              let nw7_289 : Int32 := w_299.2.2.2.2.2.2.2.2.1
              let nw8_290 : Int32 := w_299.2.2.2.2.2.2.2.2.2.1
              let nw9_291 : Int32 := w_299.2.2.2.2.2.2.2.2.2.2.1
              let nw10_292 : Int32 := w_299.2.2.2.2.2.2.2.2.2.2.2.1
              let nw11_293 : Nat → Int32 := w_299.2.2.2.2.2.2.2.2.2.2.2.2.1
              let nw12_294 : Nat → Int32 := w_299.2.2.2.2.2.2.2.2.2.2.2.2.2.1
              let nw13_295 : Nat → Int32 := w_299.2.2.2.2.2.2.2.2.2.2.2.2.2.2.1
              let nw14_296 : Nat → Int32 := w_299.2.2.2.2.2.2.2.2.2.2.2.2.2.2.2
              if r_297 = 0 then (
                ((0 : Int32), nw0_282, nw1_283, nw2_284, nw3_285, nw4_286, nw5_287, nw6_288, nw7_289, nw8_290, nw9_291, nw10_292, nw11_293, nw12_294, nw13_295, nw14_296, rr_depth, c_rr_b, c_rf_partners)) else (
                let w_316 := F_Ru_beginBlock rr_depth t_length nw0_282 nw1_283 nw2_284 nw3_285 nw4_286 nw5_287 nw6_288 nw7_289 c_tape c_rr_b nw8_290
                let r_314 : Int32 := w_316.1
                let nw0_304 : Int32 := w_316.2.1
                let nw1_305 : Int32 := w_316.2.2.1
                let nw2_306 : Int32 := w_316.2.2.2.1
                let nw3_307 : Int32 := w_316.2.2.2.2.1
                let nw4_308 : Int32 := w_316.2.2.2.2.2.1
                let nw5_309 : Int32 := w_316.2.2.2.2.2.2.1
                let nw6_310 : Int64 := w_316.2.2.2.2.2.2.2.1
                let nw7_311 : Int32 := w_316.2.2.2.2.2.2.2.2.1
                let nw8_312 : Int32 := w_316.2.2.2.2.2.2.2.2.2.1
                let nw9_313 : Nat → Int32 := w_316.2.2.2.2.2.2.2.2.2.2
                if r_314 = 0 then (
                  ((0 : Int32), nw1_305, nw2_306, nw3_307, nw4_308, nw5_309, nw6_310, nw7_311, nw8_312, nw8_290, nw9_291, nw10_292, nw11_293, nw12_294, nw13_295, nw14_296, nw0_304, nw9_313, c_rf_partners)) else (
                  ((1 : Int32), nw1_305, nw2_306, nw3_307, nw4_308, nw5_309, nw6_310, nw7_311, nw8_312, nw8_290, nw9_291, nw10_292, nw11_293, nw12_294, nw13_295, nw14_296, nw0_304, nw9_313, c_rf_partners))))) else (
            let w_327 := F_Te_refuse t_kind t_start t_fault t_faultPlace 7
            let r_325 : Int32 := w_327.1
            let nw0_323 : Int32 := w_327.2.1
            let nw1_324 : Int32 := w_327.2.2
            (r_325, t_kind, t_start, t_end, t_number, t_sign, t_letters, nw0_323, nw1_324, rf_lines, rf_steps, rf_asksSure, c_rf_kinds, c_rf_features, c_rf_compares, c_rf_numbers, rr_depth, c_rr_b, c_rf_partners))) else (
          let w_334 := F_Te_refuse t_kind t_start t_fault t_faultPlace 6
          let r_332 : Int32 := w_334.1
          let nw0_330 : Int32 := w_334.2.1
          let nw1_331 : Int32 := w_334.2.2
          (r_332, t_kind, t_start, t_end, t_number, t_sign, t_letters, nw0_330, nw1_331, rf_lines, rf_steps, rf_asksSure, c_rf_kinds, c_rf_features, c_rf_compares, c_rf_numbers, rr_depth, c_rr_b, c_rf_partners)))) else (
      let w_13 := F_Ru_plainKind t_length t_kind t_start t_end c_tape
      let r_11 : Int32 := w_13
      if rf_steps < 30 then (
        if rr_depth < 3 then (
          let w_26 := F_Te_advance t_length t_end t_number t_sign t_letters c_tape
          let nw0_18 : Int32 := w_26.1
          let nw1_19 : Int32 := w_26.2.1
          let nw2_20 : Int32 := w_26.2.2.1
          let nw3_21 : Int32 := w_26.2.2.2.1
          let nw4_22 : Int32 := w_26.2.2.2.2.1
          let nw5_23 : Int64 := w_26.2.2.2.2.2
          if r_6 = 0 then (
            let w_46 := F_Ru_readWhen h_features c_h_featureNames t_length nw0_18 nw1_19 nw2_20 nw4_22 nw3_21 nw5_23 t_fault t_faultPlace c_tape rf_lines rf_steps rf_asksSure c_rf_kinds c_rf_features c_rf_compares c_rf_numbers
            let r_44 : Int32 := w_46.1
            let nw0_29 : Int32 := w_46.2.1
            let nw1_30 : Int32 := w_46.2.2.1
            let nw2_31 : Int32 := w_46.2.2.2.1
            let nw3_32 : Int32 := w_46.2.2.2.2.1
            let nw4_33 : Int32 := w_46.2.2.2.2.2.1
            let nw5_34 : Int64 := w_46.2.2.2.2.2.2.1
            let nw6_35 : Int32 := w_46.2.2.2.2.2.2.2.1
            let nw7_36 : Int32 := w_46.2.2.2.2.2.2.2.2.1
            let nw8_37 : Int32 := w_46.2.2.2.2.2.2.2.2.2.1
            let nw9_38 : Int32 := w_46.2.2.2.2.2.2.2.2.2.2.1
            let nw10_39 : Int32 := w_46.2.2.2.2.2.2.2.2.2.2.2.1
            let nw11_40 : Nat → Int32 := w_46.2.2.2.2.2.2.2.2.2.2.2.2.1
            let nw12_41 : Nat → Int32 := w_46.2.2.2.2.2.2.2.2.2.2.2.2.2.1
            let nw13_42 : Nat → Int32 := w_46.2.2.2.2.2.2.2.2.2.2.2.2.2.2.1
            let nw14_43 : Nat → Int32 := w_46.2.2.2.2.2.2.2.2.2.2.2.2.2.2.2
            if r_44 = 0 then (
              ((0 : Int32), nw0_29, nw1_30, nw2_31, nw3_32, nw4_33, nw5_34, nw6_35, nw7_36, nw8_37, nw9_38, nw10_39, nw11_40, nw12_41, nw13_42, nw14_43, rr_depth, c_rr_b, c_rf_partners)) else (
              let w_63 := F_Ru_beginBlock rr_depth t_length nw0_29 nw1_30 nw2_31 nw3_32 nw4_33 nw5_34 nw6_35 nw7_36 c_tape c_rr_b nw8_37
              let r_61 : Int32 := w_63.1
              let nw0_51 : Int32 := w_63.2.1
              let nw1_52 : Int32 := w_63.2.2.1
              let nw2_53 : Int32 := w_63.2.2.2.1
              let nw3_54 : Int32 := w_63.2.2.2.2.1
              let nw4_55 : Int32 := w_63.2.2.2.2.2.1
              let nw5_56 : Int32 := w_63.2.2.2.2.2.2.1
              let nw6_57 : Int64 := w_63.2.2.2.2.2.2.2.1
              let nw7_58 : Int32 := w_63.2.2.2.2.2.2.2.2.1
              let nw8_59 : Int32 := w_63.2.2.2.2.2.2.2.2.2.1
              let nw9_60 : Nat → Int32 := w_63.2.2.2.2.2.2.2.2.2.2
              if r_61 = 0 then (
                ((0 : Int32), nw1_52, nw2_53, nw3_54, nw4_55, nw5_56, nw6_57, nw7_58, nw8_59, nw8_37, nw9_38, nw10_39, nw11_40, nw12_41, nw13_42, nw14_43, nw0_51, nw9_60, c_rf_partners)) else (
                ((1 : Int32), nw1_52, nw2_53, nw3_54, nw4_55, nw5_56, nw6_57, nw7_58, nw8_59, nw8_37, nw9_38, nw10_39, nw11_40, nw12_41, nw13_42, nw14_43, nw0_51, nw9_60, c_rf_partners)))) else (
            let w_87 := F_Ru_readLoop t_length nw0_18 nw1_19 nw2_20 nw4_22 nw3_21 nw5_23 t_fault t_faultPlace c_tape rf_lines rf_steps rf_asksSure c_rf_kinds c_rf_features c_rf_compares c_rf_numbers
            let r_85 : Int32 := w_87.1
            let nw0_70 : Int32 := w_87.2.1
            let nw1_71 : Int32 := w_87.2.2.1
            let nw2_72 : Int32 := w_87.2.2.2.1
            let nw3_73 : Int32 := w_87.2.2.2.2.1
            let nw4_74 : Int32 := w_87.2.2.2.2.2.1
            let nw5_75 : Int64 := w_87.2.2.2.2.2.2.1
            let nw6_76 : Int32 := w_87.2.2.2.2.2.2.2.1
            let nw7_77 : Int32 := w_87.2.2.2.2.2.2.2.2.1
            let nw8_78 : Int32 := w_87.2.2.2.2.2.2.2.2.2.1
            let nw9_79 : Int32 := w_87.2.2.2.2.2.2.2.2.2.2.1
            let nw10_80 : Int32 := w_87.2.2.2.2.2.2.2.2.2.2.2.1
            let nw11_81 : Nat → Int32 := w_87.2.2.2.2.2.2.2.2.2.2.2.2.1
            let nw12_82 : Nat → Int32 := w_87.2.2.2.2.2.2.2.2.2.2.2.2.2.1
            let nw13_83 : Nat → Int32 := w_87.2.2.2.2.2.2.2.2.2.2.2.2.2.2.1
            let nw14_84 : Nat → Int32 := w_87.2.2.2.2.2.2.2.2.2.2.2.2.2.2.2
            if r_85 = 0 then (
              ((0 : Int32), nw0_70, nw1_71, nw2_72, nw3_73, nw4_74, nw5_75, nw6_76, nw7_77, nw8_78, nw9_79, nw10_80, nw11_81, nw12_82, nw13_83, nw14_84, rr_depth, c_rr_b, c_rf_partners)) else (
              let w_104 := F_Ru_beginBlock rr_depth t_length nw0_70 nw1_71 nw2_72 nw3_73 nw4_74 nw5_75 nw6_76 nw7_77 c_tape c_rr_b nw8_78
              let r_102 : Int32 := w_104.1
              let nw0_92 : Int32 := w_104.2.1
              let nw1_93 : Int32 := w_104.2.2.1
              let nw2_94 : Int32 := w_104.2.2.2.1
              let nw3_95 : Int32 := w_104.2.2.2.2.1
              let nw4_96 : Int32 := w_104.2.2.2.2.2.1
              let nw5_97 : Int32 := w_104.2.2.2.2.2.2.1
              let nw6_98 : Int64 := w_104.2.2.2.2.2.2.2.1
              let nw7_99 : Int32 := w_104.2.2.2.2.2.2.2.2.1
              let nw8_100 : Int32 := w_104.2.2.2.2.2.2.2.2.2.1
              let nw9_101 : Nat → Int32 := w_104.2.2.2.2.2.2.2.2.2.2
              if r_102 = 0 then (
                ((0 : Int32), nw1_93, nw2_94, nw3_95, nw4_96, nw5_97, nw6_98, nw7_99, nw8_100, nw8_78, nw9_79, nw10_80, nw11_81, nw12_82, nw13_83, nw14_84, nw0_92, nw9_101, c_rf_partners)) else (
                ((1 : Int32), nw1_93, nw2_94, nw3_95, nw4_96, nw5_97, nw6_98, nw7_99, nw8_100, nw8_78, nw9_79, nw10_80, nw11_81, nw12_82, nw13_83, nw14_84, nw0_92, nw9_101, c_rf_partners))))) else (
          let w_115 := F_Te_refuse t_kind t_start t_fault t_faultPlace 7
          let r_113 : Int32 := w_115.1
          let nw0_111 : Int32 := w_115.2.1
          let nw1_112 : Int32 := w_115.2.2
          (r_113, t_kind, t_start, t_end, t_number, t_sign, t_letters, nw0_111, nw1_112, rf_lines, rf_steps, rf_asksSure, c_rf_kinds, c_rf_features, c_rf_compares, c_rf_numbers, rr_depth, c_rr_b, c_rf_partners))) else (
        let w_122 := F_Te_refuse t_kind t_start t_fault t_faultPlace 6
        let r_120 : Int32 := w_122.1
        let nw0_118 : Int32 := w_122.2.1
        let nw1_119 : Int32 := w_122.2.2
        (r_120, t_kind, t_start, t_end, t_number, t_sign, t_letters, nw0_118, nw1_119, rf_lines, rf_steps, rf_asksSure, c_rf_kinds, c_rf_features, c_rf_compares, c_rf_numbers, rr_depth, c_rr_b, c_rf_partners)))) else (
    let w_356 := F_Ru_readEnd rr_depth t_length t_kind t_start t_end t_number t_sign t_letters t_fault t_faultPlace c_tape c_rr_b rf_lines rf_steps rf_asksSure c_rf_kinds c_rf_features c_rf_compares c_rf_numbers c_rf_partners
    let r_354 : Int32 := w_356.1
    let nw0_337 : Int32 := w_356.2.1
    let nw1_338 : Int32 := w_356.2.2.1
    let nw2_339 : Int32 := w_356.2.2.2.1
    let nw3_340 : Int32 := w_356.2.2.2.2.1
    let nw4_341 : Int32 := w_356.2.2.2.2.2.1
    let nw5_342 : Int32 := w_356.2.2.2.2.2.2.1
    let nw6_343 : Int64 := w_356.2.2.2.2.2.2.2.1
    let nw7_344 : Int32 := w_356.2.2.2.2.2.2.2.2.1
    let nw8_345 : Int32 := w_356.2.2.2.2.2.2.2.2.2.1
    let nw9_346 : Int32 := w_356.2.2.2.2.2.2.2.2.2.2.1
    let nw10_347 : Int32 := w_356.2.2.2.2.2.2.2.2.2.2.2.1
    let nw11_348 : Int32 := w_356.2.2.2.2.2.2.2.2.2.2.2.2.1
    let nw12_349 : Nat → Int32 := w_356.2.2.2.2.2.2.2.2.2.2.2.2.2.1
    let nw13_350 : Nat → Int32 := w_356.2.2.2.2.2.2.2.2.2.2.2.2.2.2.1
    let nw14_351 : Nat → Int32 := w_356.2.2.2.2.2.2.2.2.2.2.2.2.2.2.2.1
    let nw15_352 : Nat → Int32 := w_356.2.2.2.2.2.2.2.2.2.2.2.2.2.2.2.2.1
    let nw16_353 : Nat → Int32 := w_356.2.2.2.2.2.2.2.2.2.2.2.2.2.2.2.2.2
    (r_354, nw1_338, nw2_339, nw3_340, nw4_341, nw5_342, nw6_343, nw7_344, nw8_345, nw9_346, nw10_347, nw11_348, nw12_349, nw13_350, nw14_351, nw15_352, nw0_337, c_rr_b, nw16_353))) := rfl
noncomputable def F_Ru_readAll_L14a (h_features : Int32) (c_h_featureNames : Nat → Int64) (t_length : Int32) (c_tape : Nat → Int32) : Nat → Int32 → Int32 → Int32 → Int32 → Int32 → Int32 → Int32 → Int64 → Int32 → Int32 → (Nat → Int32) → (Nat → Int32) → (Nat → Int32) → (Nat → Int32) → (Nat → Int32) → (Nat → Int32) → Int32 → Int32 → Int32 → (Int32 × Int32 × Int32 × Int32 × Int32 × Int32 × Int32 × Int64 × Int32 × Int32 × (Nat → Int32) × Int32 × Int32 × Int32 × (Nat → Int32) × (Nat → Int32) × (Nat → Int32) × (Nat → Int32) × (Nat → Int32)) := fun k9 => Nat.rec (motive := fun _ => Int32 → Int32 → Int32 → Int32 → Int32 → Int32 → Int32 → Int64 → Int32 → Int32 → (Nat → Int32) → (Nat → Int32) → (Nat → Int32) → (Nat → Int32) → (Nat → Int32) → (Nat → Int32) → Int32 → Int32 → Int32 → (Int32 × Int32 × Int32 × Int32 × Int32 × Int32 × Int32 × Int64 × Int32 × Int32 × (Nat → Int32) × Int32 × Int32 × Int32 × (Nat → Int32) × (Nat → Int32) × (Nat → Int32) × (Nat → Int32) × (Nat → Int32))) (fun _ _ _ _ _ _ _ _ _ _ _ _ _ _ _ _ _ _ _ => default) (fun _ (G_L14a : Int32 → Int32 → Int32 → Int32 → Int32 → Int32 → Int32 → Int64 → Int32 → Int32 → (Nat → Int32) → (Nat → Int32) → (Nat → Int32) → (Nat → Int32) → (Nat → Int32) → (Nat → Int32) → Int32 → Int32 → Int32 → (Int32 × Int32 × Int32 × Int32 × Int32 × Int32 × Int32 × Int64 × Int32 × Int32 × (Nat → Int32) × Int32 × Int32 × Int32 × (Nat → Int32) × (Nat → Int32) × (Nat → Int32) × (Nat → Int32) × (Nat → Int32))) => fun (v_83 : Int32) (v_84 : Int32) (v_85 : Int32) (v_86 : Int32) (v_87 : Int32) (v_88 : Int32) (v_89 : Int32) (v_90 : Int64) (v_91 : Int32) (v_92 : Int32) (g_93 : Nat → Int32) (g_94 : Nat → Int32) (g_95 : Nat → Int32) (g_96 : Nat → Int32) (g_97 : Nat → Int32) (g_98 : Nat → Int32) (v_99 : Int32) (v_100 : Int32) (v_101 : Int32) =>
    if 300 ≤ v_83 then (
      if v_91 = 0 then (
        if v_84 ≤ 0 then (
          if v_91 = 0 then (
            ((1 : Int32), v_84, v_85, v_86, v_87, v_88, v_89, v_90, v_91, v_92, g_93, v_99, v_100, v_101, g_94, g_95, g_96, g_97, g_98)) else (
            ((0 : Int32), v_84, v_85, v_86, v_87, v_88, v_89, v_90, v_91, v_92, g_93, v_99, v_100, v_101, g_94, g_95, g_96, g_97, g_98))) else (
          let w_191 := F_Te_refuse v_85 v_86 v_91 v_92 2
          let r_189 : Int32 := w_191.1
          let nw0_187 : Int32 := w_191.2.1
          let nw1_188 : Int32 := w_191.2.2
          (r_189, v_84, v_85, v_86, v_87, v_88, v_89, v_90, nw0_187, nw1_188, g_93, v_99, v_100, v_101, g_94, g_95, g_96, g_97, g_98))) else (
        if v_91 = 0 then (
          ((1 : Int32), v_84, v_85, v_86, v_87, v_88, v_89, v_90, v_91, v_92, g_93, v_99, v_100, v_101, g_94, g_95, g_96, g_97, g_98)) else (
          ((0 : Int32), v_84, v_85, v_86, v_87, v_88, v_89, v_90, v_91, v_92, g_93, v_99, v_100, v_101, g_94, g_95, g_96, g_97, g_98)))) else (
      let w_196 := F_Te_goesOn v_85 v_91
      let r_194 : Int32 := w_196
      if r_194 = 0 then (
        if v_91 = 0 then (
          if v_84 ≤ 0 then (
            if v_91 = 0 then (
              ((1 : Int32), v_84, v_85, v_86, v_87, v_88, v_89, v_90, v_91, v_92, g_93, v_99, v_100, v_101, g_94, g_95, g_96, g_97, g_98)) else (
              ((0 : Int32), v_84, v_85, v_86, v_87, v_88, v_89, v_90, v_91, v_92, g_93, v_99, v_100, v_101, g_94, g_95, g_96, g_97, g_98))) else (
            let w_219 := F_Te_refuse v_85 v_86 v_91 v_92 2
            let r_217 : Int32 := w_219.1
            let nw0_215 : Int32 := w_219.2.1
            let nw1_216 : Int32 := w_219.2.2
            (r_217, v_84, v_85, v_86, v_87, v_88, v_89, v_90, nw0_215, nw1_216, g_93, v_99, v_100, v_101, g_94, g_95, g_96, g_97, g_98))) else (
          if v_91 = 0 then (
            ((1 : Int32), v_84, v_85, v_86, v_87, v_88, v_89, v_90, v_91, v_92, g_93, v_99, v_100, v_101, g_94, g_95, g_96, g_97, g_98)) else (
            ((0 : Int32), v_84, v_85, v_86, v_87, v_88, v_89, v_90, v_91, v_92, g_93, v_99, v_100, v_101, g_94, g_95, g_96, g_97, g_98)))) else (
        let w_242 := F_Ru_readStep v_84 h_features c_h_featureNames t_length v_85 v_86 v_87 v_88 v_89 v_90 v_91 v_92 c_tape g_93 v_99 v_100 v_101 g_94 g_95 g_96 g_97 g_98
        let r_240 : Int32 := w_242.1
        let nw0_222 : Int32 := w_242.2.1
        let nw1_223 : Int32 := w_242.2.2.1
        let nw2_224 : Int32 := w_242.2.2.2.1
        let nw3_225 : Int32 := w_242.2.2.2.2.1
        let nw4_226 : Int32 := w_242.2.2.2.2.2.1
        let nw5_227 : Int64 := w_242.2.2.2.2.2.2.1
        let nw6_228 : Int32 := w_242.2.2.2.2.2.2.2.1
        let nw7_229 : Int32 := w_242.2.2.2.2.2.2.2.2.1
        let nw8_230 : Int32 := w_242.2.2.2.2.2.2.2.2.2.1
        let nw9_231 : Int32 := w_242.2.2.2.2.2.2.2.2.2.2.1
        let nw10_232 : Int32 := w_242.2.2.2.2.2.2.2.2.2.2.2.1
        let nw11_233 : Nat → Int32 := w_242.2.2.2.2.2.2.2.2.2.2.2.2.1
        let nw12_234 : Nat → Int32 := w_242.2.2.2.2.2.2.2.2.2.2.2.2.2.1
        let nw13_235 : Nat → Int32 := w_242.2.2.2.2.2.2.2.2.2.2.2.2.2.2.1
        let nw14_236 : Nat → Int32 := w_242.2.2.2.2.2.2.2.2.2.2.2.2.2.2.2.1
        let nw15_237 : Int32 := w_242.2.2.2.2.2.2.2.2.2.2.2.2.2.2.2.2.1
        let nw16_238 : Nat → Int32 := w_242.2.2.2.2.2.2.2.2.2.2.2.2.2.2.2.2.2.1
        let nw17_239 : Nat → Int32 := w_242.2.2.2.2.2.2.2.2.2.2.2.2.2.2.2.2.2.2
        G_L14a (v_83 + 1) nw15_237 nw0_222 nw1_223 nw2_224 nw3_225 nw4_226 nw5_227 nw6_228 nw7_229 nw16_238 nw11_233 nw12_234 nw13_235 nw14_236 nw17_239 nw8_230 nw9_231 nw10_232))) k9
theorem F_Ru_readAll_L14a_s (h_features : Int32) (c_h_featureNames : Nat → Int64) (t_length : Int32) (c_tape : Nat → Int32) (n9 : Nat) (v_83 : Int32) (v_84 : Int32) (v_85 : Int32) (v_86 : Int32) (v_87 : Int32) (v_88 : Int32) (v_89 : Int32) (v_90 : Int64) (v_91 : Int32) (v_92 : Int32) (g_93 : Nat → Int32) (g_94 : Nat → Int32) (g_95 : Nat → Int32) (g_96 : Nat → Int32) (g_97 : Nat → Int32) (g_98 : Nat → Int32) (v_99 : Int32) (v_100 : Int32) (v_101 : Int32) : F_Ru_readAll_L14a h_features c_h_featureNames t_length c_tape (n9 + 1) v_83 v_84 v_85 v_86 v_87 v_88 v_89 v_90 v_91 v_92 g_93 g_94 g_95 g_96 g_97 g_98 v_99 v_100 v_101 = (
    if 300 ≤ v_83 then (
      if v_91 = 0 then (
        if v_84 ≤ 0 then (
          if v_91 = 0 then (
            ((1 : Int32), v_84, v_85, v_86, v_87, v_88, v_89, v_90, v_91, v_92, g_93, v_99, v_100, v_101, g_94, g_95, g_96, g_97, g_98)) else (
            ((0 : Int32), v_84, v_85, v_86, v_87, v_88, v_89, v_90, v_91, v_92, g_93, v_99, v_100, v_101, g_94, g_95, g_96, g_97, g_98))) else (
          let w_191 := F_Te_refuse v_85 v_86 v_91 v_92 2
          let r_189 : Int32 := w_191.1
          let nw0_187 : Int32 := w_191.2.1
          let nw1_188 : Int32 := w_191.2.2
          (r_189, v_84, v_85, v_86, v_87, v_88, v_89, v_90, nw0_187, nw1_188, g_93, v_99, v_100, v_101, g_94, g_95, g_96, g_97, g_98))) else (
        if v_91 = 0 then (
          ((1 : Int32), v_84, v_85, v_86, v_87, v_88, v_89, v_90, v_91, v_92, g_93, v_99, v_100, v_101, g_94, g_95, g_96, g_97, g_98)) else (
          ((0 : Int32), v_84, v_85, v_86, v_87, v_88, v_89, v_90, v_91, v_92, g_93, v_99, v_100, v_101, g_94, g_95, g_96, g_97, g_98)))) else (
      let w_196 := F_Te_goesOn v_85 v_91
      let r_194 : Int32 := w_196
      if r_194 = 0 then (
        if v_91 = 0 then (
          if v_84 ≤ 0 then (
            if v_91 = 0 then (
              ((1 : Int32), v_84, v_85, v_86, v_87, v_88, v_89, v_90, v_91, v_92, g_93, v_99, v_100, v_101, g_94, g_95, g_96, g_97, g_98)) else (
              ((0 : Int32), v_84, v_85, v_86, v_87, v_88, v_89, v_90, v_91, v_92, g_93, v_99, v_100, v_101, g_94, g_95, g_96, g_97, g_98))) else (
            let w_219 := F_Te_refuse v_85 v_86 v_91 v_92 2
            let r_217 : Int32 := w_219.1
            let nw0_215 : Int32 := w_219.2.1
            let nw1_216 : Int32 := w_219.2.2
            (r_217, v_84, v_85, v_86, v_87, v_88, v_89, v_90, nw0_215, nw1_216, g_93, v_99, v_100, v_101, g_94, g_95, g_96, g_97, g_98))) else (
          if v_91 = 0 then (
            ((1 : Int32), v_84, v_85, v_86, v_87, v_88, v_89, v_90, v_91, v_92, g_93, v_99, v_100, v_101, g_94, g_95, g_96, g_97, g_98)) else (
            ((0 : Int32), v_84, v_85, v_86, v_87, v_88, v_89, v_90, v_91, v_92, g_93, v_99, v_100, v_101, g_94, g_95, g_96, g_97, g_98)))) else (
        let w_242 := F_Ru_readStep v_84 h_features c_h_featureNames t_length v_85 v_86 v_87 v_88 v_89 v_90 v_91 v_92 c_tape g_93 v_99 v_100 v_101 g_94 g_95 g_96 g_97 g_98
        let r_240 : Int32 := w_242.1
        let nw0_222 : Int32 := w_242.2.1
        let nw1_223 : Int32 := w_242.2.2.1
        let nw2_224 : Int32 := w_242.2.2.2.1
        let nw3_225 : Int32 := w_242.2.2.2.2.1
        let nw4_226 : Int32 := w_242.2.2.2.2.2.1
        let nw5_227 : Int64 := w_242.2.2.2.2.2.2.1
        let nw6_228 : Int32 := w_242.2.2.2.2.2.2.2.1
        let nw7_229 : Int32 := w_242.2.2.2.2.2.2.2.2.1
        let nw8_230 : Int32 := w_242.2.2.2.2.2.2.2.2.2.1
        let nw9_231 : Int32 := w_242.2.2.2.2.2.2.2.2.2.2.1
        let nw10_232 : Int32 := w_242.2.2.2.2.2.2.2.2.2.2.2.1
        let nw11_233 : Nat → Int32 := w_242.2.2.2.2.2.2.2.2.2.2.2.2.1
        let nw12_234 : Nat → Int32 := w_242.2.2.2.2.2.2.2.2.2.2.2.2.2.1
        let nw13_235 : Nat → Int32 := w_242.2.2.2.2.2.2.2.2.2.2.2.2.2.2.1
        let nw14_236 : Nat → Int32 := w_242.2.2.2.2.2.2.2.2.2.2.2.2.2.2.2.1
        let nw15_237 : Int32 := w_242.2.2.2.2.2.2.2.2.2.2.2.2.2.2.2.2.1
        let nw16_238 : Nat → Int32 := w_242.2.2.2.2.2.2.2.2.2.2.2.2.2.2.2.2.2.1
        let nw17_239 : Nat → Int32 := w_242.2.2.2.2.2.2.2.2.2.2.2.2.2.2.2.2.2.2
        (F_Ru_readAll_L14a h_features c_h_featureNames t_length c_tape n9) (v_83 + 1) nw15_237 nw0_222 nw1_223 nw2_224 nw3_225 nw4_226 nw5_227 nw6_228 nw7_229 nw16_238 nw11_233 nw12_234 nw13_235 nw14_236 nw17_239 nw8_230 nw9_231 nw10_232))) := rfl
noncomputable def F_Ru_readAll (h_features : Int32) (c_h_featureNames : Nat → Int64) (t_length : Int32) (t_kind : Int32) (t_start : Int32) (t_end : Int32) (t_number : Int32) (t_sign : Int32) (t_letters : Int64) (t_fault : Int32) (t_faultPlace : Int32) (c_tape : Nat → Int32) (c_rr_b : Nat → Int32) (c_rf_kinds : Nat → Int32) (c_rf_features : Nat → Int32) (c_rf_compares : Nat → Int32) (c_rf_numbers : Nat → Int32) (c_rf_partners : Nat → Int32) : Int32 × Int32 × Int32 × Int32 × Int32 × Int32 × Int32 × Int64 × Int32 × Int32 × (Nat → Int32) × Int32 × Int32 × Int32 × (Nat → Int32) × (Nat → Int32) × (Nat → Int32) × (Nat → Int32) × (Nat → Int32) :=
  let w_6 := F_Ru_clear
  let nw0_1 : Int32 := w_6.1
  let nw1_2 : Int32 := w_6.2.1
  let nw2_3 : Int32 := w_6.2.2
  F_Ru_readAll_L14a h_features c_h_featureNames t_length c_tape ((2147483647 - (0 : Int32).toInt).toNat + 1) (0 : Int32) (0 : Int32) t_kind t_start t_end t_number t_sign t_letters t_fault t_faultPlace c_rr_b c_rf_kinds c_rf_features c_rf_compares c_rf_numbers c_rf_partners nw0_1 nw1_2 nw2_3
theorem F_Ru_readAll_s (h_features : Int32) (c_h_featureNames : Nat → Int64) (t_length : Int32) (t_kind : Int32) (t_start : Int32) (t_end : Int32) (t_number : Int32) (t_sign : Int32) (t_letters : Int64) (t_fault : Int32) (t_faultPlace : Int32) (c_tape : Nat → Int32) (c_rr_b : Nat → Int32) (c_rf_kinds : Nat → Int32) (c_rf_features : Nat → Int32) (c_rf_compares : Nat → Int32) (c_rf_numbers : Nat → Int32) (c_rf_partners : Nat → Int32) : F_Ru_readAll h_features c_h_featureNames t_length t_kind t_start t_end t_number t_sign t_letters t_fault t_faultPlace c_tape c_rr_b c_rf_kinds c_rf_features c_rf_compares c_rf_numbers c_rf_partners = (
  let w_6 := F_Ru_clear
  let nw0_1 : Int32 := w_6.1
  let nw1_2 : Int32 := w_6.2.1
  let nw2_3 : Int32 := w_6.2.2
  F_Ru_readAll_L14a h_features c_h_featureNames t_length c_tape ((2147483647 - (0 : Int32).toInt).toNat + 1) (0 : Int32) (0 : Int32) t_kind t_start t_end t_number t_sign t_letters t_fault t_faultPlace c_rr_b c_rf_kinds c_rf_features c_rf_compares c_rf_numbers c_rf_partners nw0_1 nw1_2 nw2_3) := rfl
noncomputable def F_Ho_readSeconds_L30a (t_length : Int32) (c_tape : Nat → Int32) : Nat → Int32 → (Nat → Int32) → Int32 → Int32 → Int32 → Int32 → Int32 → Int64 → Int32 → Int32 → (Int32 × Int32 × Int32 × Int32 × Int32 × Int32 × Int32 × Int64 × Int32 × Int32 × (Nat → Int32)) := fun k9 => Nat.rec (motive := fun _ => Int32 → (Nat → Int32) → Int32 → Int32 → Int32 → Int32 → Int32 → Int64 → Int32 → Int32 → (Int32 × Int32 × Int32 × Int32 × Int32 × Int32 × Int32 × Int64 × Int32 × Int32 × (Nat → Int32))) (fun _ _ _ _ _ _ _ _ _ _ => default) (fun _ (G_L30a : Int32 → (Nat → Int32) → Int32 → Int32 → Int32 → Int32 → Int32 → Int64 → Int32 → Int32 → (Int32 × Int32 × Int32 × Int32 × Int32 × Int32 × Int32 × Int64 × Int32 × Int32 × (Nat → Int32))) => fun (v_285 : Int32) (g_286 : Nat → Int32) (v_287 : Int32) (v_288 : Int32) (v_289 : Int32) (v_290 : Int32) (v_291 : Int32) (v_292 : Int64) (v_293 : Int32) (v_294 : Int32) =>
    if 3 < v_285 then (
      let w_454 := F_Te_takeSign t_length v_287 v_288 v_289 v_290 v_291 v_292 v_293 v_294 c_tape 59
      let r_452 : Int32 := w_454.1
      let nw0_444 : Int32 := w_454.2.1
      let nw1_445 : Int32 := w_454.2.2.1
      let nw2_446 : Int32 := w_454.2.2.2.1
      let nw3_447 : Int32 := w_454.2.2.2.2.1
      let nw4_448 : Int32 := w_454.2.2.2.2.2.1
      let nw5_449 : Int64 := w_454.2.2.2.2.2.2.1
      let nw6_450 : Int32 := w_454.2.2.2.2.2.2.2.1
      let nw7_451 : Int32 := w_454.2.2.2.2.2.2.2.2
      (r_452, (1 : Int32), nw0_444, nw1_445, nw2_446, nw3_447, nw4_448, nw5_449, nw6_450, nw7_451, g_286)) else (
      if v_285.toInt = 0 then (
        let w_469 := F_Te_takeWord t_length v_287 v_288 v_289 v_290 v_291 v_292 v_293 v_294 c_tape 25
        let r_467 : Int32 := w_469.1
        let nw0_459 : Int32 := w_469.2.1
        let nw1_460 : Int32 := w_469.2.2.1
        let nw2_461 : Int32 := w_469.2.2.2.1
        let nw3_462 : Int32 := w_469.2.2.2.2.1
        let nw4_463 : Int32 := w_469.2.2.2.2.2.1
        let nw5_464 : Int64 := w_469.2.2.2.2.2.2.1
        let nw6_465 : Int32 := w_469.2.2.2.2.2.2.2.1
        let nw7_466 : Int32 := w_469.2.2.2.2.2.2.2.2
        if r_467 = 0 then (
          ((0 : Int32), (1 : Int32), nw0_459, nw1_460, nw2_461, nw3_462, nw4_463, nw5_464, nw6_465, nw7_466, g_286)) else (
          let w_482 := F_Te_takeNumber t_length nw0_459 nw1_460 nw2_461 nw3_462 nw4_463 nw5_464 nw6_465 nw7_466 c_tape 1 99
          let r_480 : Int32 := w_482.1
          let nw0_472 : Int32 := w_482.2.1
          let nw1_473 : Int32 := w_482.2.2.1
          let nw2_474 : Int32 := w_482.2.2.2.1
          let nw3_475 : Int32 := w_482.2.2.2.2.1
          let nw4_476 : Int32 := w_482.2.2.2.2.2.1
          let nw5_477 : Int32 := w_482.2.2.2.2.2.2.1
          let nw6_478 : Int32 := w_482.2.2.2.2.2.2.2.1
          let nw7_479 : Int64 := w_482.2.2.2.2.2.2.2.2
          if r_480 = (-1) then (
            ((0 : Int32), (1 : Int32), nw2_474, nw3_475, nw4_476, nw5_477, nw6_478, nw7_479, nw0_472, nw1_473, g_286)) else (
            let w_488 := F_H_setSeconds g_286 v_285 r_480
            let nw0_485 : Nat → Int32 := w_488
            G_L30a (v_285 + 1) nw0_485 nw2_474 nw3_475 nw4_476 nw5_477 nw6_478 nw7_479 nw0_472 nw1_473))) else
      if v_285.toInt = 1 then (
        let w_504 := F_Te_takeWord t_length v_287 v_288 v_289 v_290 v_291 v_292 v_293 v_294 c_tape 26
        let r_502 : Int32 := w_504.1
        let nw0_494 : Int32 := w_504.2.1
        let nw1_495 : Int32 := w_504.2.2.1
        let nw2_496 : Int32 := w_504.2.2.2.1
        let nw3_497 : Int32 := w_504.2.2.2.2.1
        let nw4_498 : Int32 := w_504.2.2.2.2.2.1
        let nw5_499 : Int64 := w_504.2.2.2.2.2.2.1
        let nw6_500 : Int32 := w_504.2.2.2.2.2.2.2.1
        let nw7_501 : Int32 := w_504.2.2.2.2.2.2.2.2
        if r_502 = 0 then (
          ((0 : Int32), (1 : Int32), nw0_494, nw1_495, nw2_496, nw3_497, nw4_498, nw5_499, nw6_500, nw7_501, g_286)) else (
          let w_517 := F_Te_takeNumber t_length nw0_494 nw1_495 nw2_496 nw3_497 nw4_498 nw5_499 nw6_500 nw7_501 c_tape 1 99
          let r_515 : Int32 := w_517.1
          let nw0_507 : Int32 := w_517.2.1
          let nw1_508 : Int32 := w_517.2.2.1
          let nw2_509 : Int32 := w_517.2.2.2.1
          let nw3_510 : Int32 := w_517.2.2.2.2.1
          let nw4_511 : Int32 := w_517.2.2.2.2.2.1
          let nw5_512 : Int32 := w_517.2.2.2.2.2.2.1
          let nw6_513 : Int32 := w_517.2.2.2.2.2.2.2.1
          let nw7_514 : Int64 := w_517.2.2.2.2.2.2.2.2
          if r_515 = (-1) then (
            ((0 : Int32), (1 : Int32), nw2_509, nw3_510, nw4_511, nw5_512, nw6_513, nw7_514, nw0_507, nw1_508, g_286)) else (
            let w_523 := F_H_setSeconds g_286 v_285 r_515
            let nw0_520 : Nat → Int32 := w_523
            G_L30a (v_285 + 1) nw0_520 nw2_509 nw3_510 nw4_511 nw5_512 nw6_513 nw7_514 nw0_507 nw1_508))) else
      if v_285.toInt = 2 then (
        let w_539 := F_Te_takeWord t_length v_287 v_288 v_289 v_290 v_291 v_292 v_293 v_294 c_tape 27
        let r_537 : Int32 := w_539.1
        let nw0_529 : Int32 := w_539.2.1
        let nw1_530 : Int32 := w_539.2.2.1
        let nw2_531 : Int32 := w_539.2.2.2.1
        let nw3_532 : Int32 := w_539.2.2.2.2.1
        let nw4_533 : Int32 := w_539.2.2.2.2.2.1
        let nw5_534 : Int64 := w_539.2.2.2.2.2.2.1
        let nw6_535 : Int32 := w_539.2.2.2.2.2.2.2.1
        let nw7_536 : Int32 := w_539.2.2.2.2.2.2.2.2
        if r_537 = 0 then (
          ((0 : Int32), (1 : Int32), nw0_529, nw1_530, nw2_531, nw3_532, nw4_533, nw5_534, nw6_535, nw7_536, g_286)) else (
          let w_552 := F_Te_takeNumber t_length nw0_529 nw1_530 nw2_531 nw3_532 nw4_533 nw5_534 nw6_535 nw7_536 c_tape 1 99
          let r_550 : Int32 := w_552.1
          let nw0_542 : Int32 := w_552.2.1
          let nw1_543 : Int32 := w_552.2.2.1
          let nw2_544 : Int32 := w_552.2.2.2.1
          let nw3_545 : Int32 := w_552.2.2.2.2.1
          let nw4_546 : Int32 := w_552.2.2.2.2.2.1
          let nw5_547 : Int32 := w_552.2.2.2.2.2.2.1
          let nw6_548 : Int32 := w_552.2.2.2.2.2.2.2.1
          let nw7_549 : Int64 := w_552.2.2.2.2.2.2.2.2
          if r_550 = (-1) then (
            ((0 : Int32), (1 : Int32), nw2_544, nw3_545, nw4_546, nw5_547, nw6_548, nw7_549, nw0_542, nw1_543, g_286)) else (
            let w_558 := F_H_setSeconds g_286 v_285 r_550
            let nw0_555 : Nat → Int32 := w_558
            G_L30a (v_285 + 1) nw0_555 nw2_544 nw3_545 nw4_546 nw5_547 nw6_548 nw7_549 nw0_542 nw1_543))) else
      (
        let w_574 := F_Te_takeWord t_length v_287 v_288 v_289 v_290 v_291 v_292 v_293 v_294 c_tape 28
        let r_572 : Int32 := w_574.1
        let nw0_564 : Int32 := w_574.2.1
        let nw1_565 : Int32 := w_574.2.2.1
        let nw2_566 : Int32 := w_574.2.2.2.1
        let nw3_567 : Int32 := w_574.2.2.2.2.1
        let nw4_568 : Int32 := w_574.2.2.2.2.2.1
        let nw5_569 : Int64 := w_574.2.2.2.2.2.2.1
        let nw6_570 : Int32 := w_574.2.2.2.2.2.2.2.1
        let nw7_571 : Int32 := w_574.2.2.2.2.2.2.2.2
        if r_572 = 0 then (
          ((0 : Int32), (1 : Int32), nw0_564, nw1_565, nw2_566, nw3_567, nw4_568, nw5_569, nw6_570, nw7_571, g_286)) else (
          let w_587 := F_Te_takeNumber t_length nw0_564 nw1_565 nw2_566 nw3_567 nw4_568 nw5_569 nw6_570 nw7_571 c_tape 1 99
          let r_585 : Int32 := w_587.1
          let nw0_577 : Int32 := w_587.2.1
          let nw1_578 : Int32 := w_587.2.2.1
          let nw2_579 : Int32 := w_587.2.2.2.1
          let nw3_580 : Int32 := w_587.2.2.2.2.1
          let nw4_581 : Int32 := w_587.2.2.2.2.2.1
          let nw5_582 : Int32 := w_587.2.2.2.2.2.2.1
          let nw6_583 : Int32 := w_587.2.2.2.2.2.2.2.1
          let nw7_584 : Int64 := w_587.2.2.2.2.2.2.2.2
          if r_585 = (-1) then (
            ((0 : Int32), (1 : Int32), nw2_579, nw3_580, nw4_581, nw5_582, nw6_583, nw7_584, nw0_577, nw1_578, g_286)) else (
            let w_593 := F_H_setSeconds g_286 v_285 r_585
            let nw0_590 : Nat → Int32 := w_593
            G_L30a (v_285 + 1) nw0_590 nw2_579 nw3_580 nw4_581 nw5_582 nw6_583 nw7_584 nw0_577 nw1_578))))) k9
theorem F_Ho_readSeconds_L30a_s (t_length : Int32) (c_tape : Nat → Int32) (n9 : Nat) (v_285 : Int32) (g_286 : Nat → Int32) (v_287 : Int32) (v_288 : Int32) (v_289 : Int32) (v_290 : Int32) (v_291 : Int32) (v_292 : Int64) (v_293 : Int32) (v_294 : Int32) : F_Ho_readSeconds_L30a t_length c_tape (n9 + 1) v_285 g_286 v_287 v_288 v_289 v_290 v_291 v_292 v_293 v_294 = (
    if 3 < v_285 then (
      let w_454 := F_Te_takeSign t_length v_287 v_288 v_289 v_290 v_291 v_292 v_293 v_294 c_tape 59
      let r_452 : Int32 := w_454.1
      let nw0_444 : Int32 := w_454.2.1
      let nw1_445 : Int32 := w_454.2.2.1
      let nw2_446 : Int32 := w_454.2.2.2.1
      let nw3_447 : Int32 := w_454.2.2.2.2.1
      let nw4_448 : Int32 := w_454.2.2.2.2.2.1
      let nw5_449 : Int64 := w_454.2.2.2.2.2.2.1
      let nw6_450 : Int32 := w_454.2.2.2.2.2.2.2.1
      let nw7_451 : Int32 := w_454.2.2.2.2.2.2.2.2
      (r_452, (1 : Int32), nw0_444, nw1_445, nw2_446, nw3_447, nw4_448, nw5_449, nw6_450, nw7_451, g_286)) else (
      if v_285.toInt = 0 then (
        let w_469 := F_Te_takeWord t_length v_287 v_288 v_289 v_290 v_291 v_292 v_293 v_294 c_tape 25
        let r_467 : Int32 := w_469.1
        let nw0_459 : Int32 := w_469.2.1
        let nw1_460 : Int32 := w_469.2.2.1
        let nw2_461 : Int32 := w_469.2.2.2.1
        let nw3_462 : Int32 := w_469.2.2.2.2.1
        let nw4_463 : Int32 := w_469.2.2.2.2.2.1
        let nw5_464 : Int64 := w_469.2.2.2.2.2.2.1
        let nw6_465 : Int32 := w_469.2.2.2.2.2.2.2.1
        let nw7_466 : Int32 := w_469.2.2.2.2.2.2.2.2
        if r_467 = 0 then (
          ((0 : Int32), (1 : Int32), nw0_459, nw1_460, nw2_461, nw3_462, nw4_463, nw5_464, nw6_465, nw7_466, g_286)) else (
          let w_482 := F_Te_takeNumber t_length nw0_459 nw1_460 nw2_461 nw3_462 nw4_463 nw5_464 nw6_465 nw7_466 c_tape 1 99
          let r_480 : Int32 := w_482.1
          let nw0_472 : Int32 := w_482.2.1
          let nw1_473 : Int32 := w_482.2.2.1
          let nw2_474 : Int32 := w_482.2.2.2.1
          let nw3_475 : Int32 := w_482.2.2.2.2.1
          let nw4_476 : Int32 := w_482.2.2.2.2.2.1
          let nw5_477 : Int32 := w_482.2.2.2.2.2.2.1
          let nw6_478 : Int32 := w_482.2.2.2.2.2.2.2.1
          let nw7_479 : Int64 := w_482.2.2.2.2.2.2.2.2
          if r_480 = (-1) then (
            ((0 : Int32), (1 : Int32), nw2_474, nw3_475, nw4_476, nw5_477, nw6_478, nw7_479, nw0_472, nw1_473, g_286)) else (
            let w_488 := F_H_setSeconds g_286 v_285 r_480
            let nw0_485 : Nat → Int32 := w_488
            (F_Ho_readSeconds_L30a t_length c_tape n9) (v_285 + 1) nw0_485 nw2_474 nw3_475 nw4_476 nw5_477 nw6_478 nw7_479 nw0_472 nw1_473))) else
      if v_285.toInt = 1 then (
        let w_504 := F_Te_takeWord t_length v_287 v_288 v_289 v_290 v_291 v_292 v_293 v_294 c_tape 26
        let r_502 : Int32 := w_504.1
        let nw0_494 : Int32 := w_504.2.1
        let nw1_495 : Int32 := w_504.2.2.1
        let nw2_496 : Int32 := w_504.2.2.2.1
        let nw3_497 : Int32 := w_504.2.2.2.2.1
        let nw4_498 : Int32 := w_504.2.2.2.2.2.1
        let nw5_499 : Int64 := w_504.2.2.2.2.2.2.1
        let nw6_500 : Int32 := w_504.2.2.2.2.2.2.2.1
        let nw7_501 : Int32 := w_504.2.2.2.2.2.2.2.2
        if r_502 = 0 then (
          ((0 : Int32), (1 : Int32), nw0_494, nw1_495, nw2_496, nw3_497, nw4_498, nw5_499, nw6_500, nw7_501, g_286)) else (
          let w_517 := F_Te_takeNumber t_length nw0_494 nw1_495 nw2_496 nw3_497 nw4_498 nw5_499 nw6_500 nw7_501 c_tape 1 99
          let r_515 : Int32 := w_517.1
          let nw0_507 : Int32 := w_517.2.1
          let nw1_508 : Int32 := w_517.2.2.1
          let nw2_509 : Int32 := w_517.2.2.2.1
          let nw3_510 : Int32 := w_517.2.2.2.2.1
          let nw4_511 : Int32 := w_517.2.2.2.2.2.1
          let nw5_512 : Int32 := w_517.2.2.2.2.2.2.1
          let nw6_513 : Int32 := w_517.2.2.2.2.2.2.2.1
          let nw7_514 : Int64 := w_517.2.2.2.2.2.2.2.2
          if r_515 = (-1) then (
            ((0 : Int32), (1 : Int32), nw2_509, nw3_510, nw4_511, nw5_512, nw6_513, nw7_514, nw0_507, nw1_508, g_286)) else (
            let w_523 := F_H_setSeconds g_286 v_285 r_515
            let nw0_520 : Nat → Int32 := w_523
            (F_Ho_readSeconds_L30a t_length c_tape n9) (v_285 + 1) nw0_520 nw2_509 nw3_510 nw4_511 nw5_512 nw6_513 nw7_514 nw0_507 nw1_508))) else
      if v_285.toInt = 2 then (
        let w_539 := F_Te_takeWord t_length v_287 v_288 v_289 v_290 v_291 v_292 v_293 v_294 c_tape 27
        let r_537 : Int32 := w_539.1
        let nw0_529 : Int32 := w_539.2.1
        let nw1_530 : Int32 := w_539.2.2.1
        let nw2_531 : Int32 := w_539.2.2.2.1
        let nw3_532 : Int32 := w_539.2.2.2.2.1
        let nw4_533 : Int32 := w_539.2.2.2.2.2.1
        let nw5_534 : Int64 := w_539.2.2.2.2.2.2.1
        let nw6_535 : Int32 := w_539.2.2.2.2.2.2.2.1
        let nw7_536 : Int32 := w_539.2.2.2.2.2.2.2.2
        if r_537 = 0 then (
          ((0 : Int32), (1 : Int32), nw0_529, nw1_530, nw2_531, nw3_532, nw4_533, nw5_534, nw6_535, nw7_536, g_286)) else (
          let w_552 := F_Te_takeNumber t_length nw0_529 nw1_530 nw2_531 nw3_532 nw4_533 nw5_534 nw6_535 nw7_536 c_tape 1 99
          let r_550 : Int32 := w_552.1
          let nw0_542 : Int32 := w_552.2.1
          let nw1_543 : Int32 := w_552.2.2.1
          let nw2_544 : Int32 := w_552.2.2.2.1
          let nw3_545 : Int32 := w_552.2.2.2.2.1
          let nw4_546 : Int32 := w_552.2.2.2.2.2.1
          let nw5_547 : Int32 := w_552.2.2.2.2.2.2.1
          let nw6_548 : Int32 := w_552.2.2.2.2.2.2.2.1
          let nw7_549 : Int64 := w_552.2.2.2.2.2.2.2.2
          if r_550 = (-1) then (
            ((0 : Int32), (1 : Int32), nw2_544, nw3_545, nw4_546, nw5_547, nw6_548, nw7_549, nw0_542, nw1_543, g_286)) else (
            let w_558 := F_H_setSeconds g_286 v_285 r_550
            let nw0_555 : Nat → Int32 := w_558
            (F_Ho_readSeconds_L30a t_length c_tape n9) (v_285 + 1) nw0_555 nw2_544 nw3_545 nw4_546 nw5_547 nw6_548 nw7_549 nw0_542 nw1_543))) else
      (
        let w_574 := F_Te_takeWord t_length v_287 v_288 v_289 v_290 v_291 v_292 v_293 v_294 c_tape 28
        let r_572 : Int32 := w_574.1
        let nw0_564 : Int32 := w_574.2.1
        let nw1_565 : Int32 := w_574.2.2.1
        let nw2_566 : Int32 := w_574.2.2.2.1
        let nw3_567 : Int32 := w_574.2.2.2.2.1
        let nw4_568 : Int32 := w_574.2.2.2.2.2.1
        let nw5_569 : Int64 := w_574.2.2.2.2.2.2.1
        let nw6_570 : Int32 := w_574.2.2.2.2.2.2.2.1
        let nw7_571 : Int32 := w_574.2.2.2.2.2.2.2.2
        if r_572 = 0 then (
          ((0 : Int32), (1 : Int32), nw0_564, nw1_565, nw2_566, nw3_567, nw4_568, nw5_569, nw6_570, nw7_571, g_286)) else (
          let w_587 := F_Te_takeNumber t_length nw0_564 nw1_565 nw2_566 nw3_567 nw4_568 nw5_569 nw6_570 nw7_571 c_tape 1 99
          let r_585 : Int32 := w_587.1
          let nw0_577 : Int32 := w_587.2.1
          let nw1_578 : Int32 := w_587.2.2.1
          let nw2_579 : Int32 := w_587.2.2.2.1
          let nw3_580 : Int32 := w_587.2.2.2.2.1
          let nw4_581 : Int32 := w_587.2.2.2.2.2.1
          let nw5_582 : Int32 := w_587.2.2.2.2.2.2.1
          let nw6_583 : Int32 := w_587.2.2.2.2.2.2.2.1
          let nw7_584 : Int64 := w_587.2.2.2.2.2.2.2.2
          if r_585 = (-1) then (
            ((0 : Int32), (1 : Int32), nw2_579, nw3_580, nw4_581, nw5_582, nw6_583, nw7_584, nw0_577, nw1_578, g_286)) else (
            let w_593 := F_H_setSeconds g_286 v_285 r_585
            let nw0_590 : Nat → Int32 := w_593
            (F_Ho_readSeconds_L30a t_length c_tape n9) (v_285 + 1) nw0_590 nw2_579 nw3_580 nw4_581 nw5_582 nw6_583 nw7_584 nw0_577 nw1_578))))) := rfl
noncomputable def F_Ho_readSeconds (hr_secondsTold : Int32) (t_length : Int32) (t_kind : Int32) (t_start : Int32) (t_end : Int32) (t_number : Int32) (t_sign : Int32) (t_letters : Int64) (t_fault : Int32) (t_faultPlace : Int32) (c_tape : Nat → Int32) (c_hf_seconds : Nat → Int32) : Int32 × Int32 × Int32 × Int32 × Int32 × Int32 × Int32 × Int64 × Int32 × Int32 × (Nat → Int32) :=
  if hr_secondsTold = 0 then (
    let w_11 := F_Te_advance t_length t_end t_number t_sign t_letters c_tape
    let nw0_3 : Int32 := w_11.1
    let nw1_4 : Int32 := w_11.2.1
    let nw2_5 : Int32 := w_11.2.2.1
    let nw3_6 : Int32 := w_11.2.2.2.1
    let nw4_7 : Int32 := w_11.2.2.2.2.1
    let nw5_8 : Int64 := w_11.2.2.2.2.2
    F_Ho_readSeconds_L30a t_length c_tape ((2147483647 - (0 : Int32).toInt).toNat + 1) (0 : Int32) c_hf_seconds nw0_3 nw1_4 nw2_5 nw4_7 nw3_6 nw5_8 t_fault t_faultPlace) else (
    let w_605 := F_Te_refuse t_kind t_start t_fault t_faultPlace 5
    let r_603 : Int32 := w_605.1
    let nw0_601 : Int32 := w_605.2.1
    let nw1_602 : Int32 := w_605.2.2
    (r_603, hr_secondsTold, t_kind, t_start, t_end, t_number, t_sign, t_letters, nw0_601, nw1_602, c_hf_seconds))
theorem F_Ho_readSeconds_s (hr_secondsTold : Int32) (t_length : Int32) (t_kind : Int32) (t_start : Int32) (t_end : Int32) (t_number : Int32) (t_sign : Int32) (t_letters : Int64) (t_fault : Int32) (t_faultPlace : Int32) (c_tape : Nat → Int32) (c_hf_seconds : Nat → Int32) : F_Ho_readSeconds hr_secondsTold t_length t_kind t_start t_end t_number t_sign t_letters t_fault t_faultPlace c_tape c_hf_seconds = (
  if hr_secondsTold = 0 then (
    let w_11 := F_Te_advance t_length t_end t_number t_sign t_letters c_tape
    let nw0_3 : Int32 := w_11.1
    let nw1_4 : Int32 := w_11.2.1
    let nw2_5 : Int32 := w_11.2.2.1
    let nw3_6 : Int32 := w_11.2.2.2.1
    let nw4_7 : Int32 := w_11.2.2.2.2.1
    let nw5_8 : Int64 := w_11.2.2.2.2.2
    F_Ho_readSeconds_L30a t_length c_tape ((2147483647 - (0 : Int32).toInt).toNat + 1) (0 : Int32) c_hf_seconds nw0_3 nw1_4 nw2_5 nw4_7 nw3_6 nw5_8 t_fault t_faultPlace) else (
    let w_605 := F_Te_refuse t_kind t_start t_fault t_faultPlace 5
    let r_603 : Int32 := w_605.1
    let nw0_601 : Int32 := w_605.2.1
    let nw1_602 : Int32 := w_605.2.2
    (r_603, hr_secondsTold, t_kind, t_start, t_end, t_number, t_sign, t_letters, nw0_601, nw1_602, c_hf_seconds))) := rfl
noncomputable def F_Ho_readPart (hr_keysOnRings : Int32) (hr_feelsTold : Int32) (hr_secondsTold : Int32) (hr_turnedTold : Int32) (t_length : Int32) (t_kind : Int32) (t_start : Int32) (t_end : Int32) (t_number : Int32) (t_sign : Int32) (t_letters : Int64) (t_fault : Int32) (t_faultPlace : Int32) (c_tape : Nat → Int32) (c_n_f : Nat → Int64) (c_n_k : Nat → Int64) (c_n_r : Nat → Int64) (c_n_d : Nat → Int64) (hf_features : Int32) (hf_keys : Int32) (hf_rings : Int32) (hf_doors : Int32) (hf_turned : Int32) (hf_roundMany : Int32) (c_hf_featureNames : Nat → Int64) (c_hf_steps : Nat → Int32) (c_hf_turnedFeatures : Nat → Int32) (c_hf_sixteenths : Nat → Int32) (c_hf_keySteps : Nat → Int32) (c_hf_on : Nat → Int32) (c_hf_onMany : Nat → Int32) (c_hf_wanted : Nat → Int32) (c_hf_openers : Nat → Int32) (c_hf_seconds : Nat → Int32) (c_hf_roundDoors : Nat → Int32) : Int32 × Int32 × Int32 × Int32 × Int32 × Int32 × Int32 × Int32 × Int64 × Int32 × (Nat → Int32) × Int32 × Int32 × Int32 × (Nat → Int32) × (Nat → Int64) × Int32 × (Nat → Int32) × (Nat → Int32) × Int32 × (Nat → Int64) × Int32 × (Nat → Int32) × (Nat → Int32) × (Nat → Int64) × Int32 × (Nat → Int32) × Int32 × (Nat → Int32) × (Nat → Int64) × Int32 × (Nat → Int64) × (Nat → Int32) × (Nat → Int32) :=
  let w_3 := F_Te_is t_length t_kind t_start t_end c_tape 0
  let r_1 : Int32 := w_3
  if r_1 = 0 then (
    let w_8 := F_Te_is t_length t_kind t_start t_end c_tape 18
    let r_6 : Int32 := w_8
    if r_6 = 0 then (
      let w_13 := F_Te_is t_length t_kind t_start t_end c_tape 19
      let r_11 : Int32 := w_13
      if r_11 = 0 then (
        let w_18 := F_Te_is t_length t_kind t_start t_end c_tape 20
        let r_16 : Int32 := w_18
        if r_16 = 0 then (
          let w_23 := F_Te_is t_length t_kind t_start t_end c_tape 21
          let r_21 : Int32 := w_23
          if r_21 = 0 then (
            let w_28 := F_Te_is t_length t_kind t_start t_end c_tape 24
            let r_26 : Int32 := w_28
            if r_26 = 0 then (
              let w_33 := F_Te_is t_length t_kind t_start t_end c_tape 17
              let r_31 : Int32 := w_33
              if r_31 = 0 then (
                let w_38 := F_Te_is t_length t_kind t_start t_end c_tape 29
                let r_36 : Int32 := w_38
                if r_36 = 0 then (
                  let w_45 := F_Te_refuse t_kind t_start t_fault t_faultPlace 2
                  let r_43 : Int32 := w_45.1
                  let nw0_41 : Int32 := w_45.2.1
                  let nw1_42 : Int32 := w_45.2.2
                  (r_43, nw0_41, nw1_42, t_kind, t_start, t_end, t_number, t_sign, t_letters, hf_roundMany, c_hf_roundDoors, hr_turnedTold, hf_turned, hr_secondsTold, c_hf_seconds, c_n_d, hf_doors, c_hf_wanted, c_hf_openers, hr_keysOnRings, c_n_r, hf_rings, c_hf_on, c_hf_onMany, c_n_k, hf_keys, c_hf_keySteps, hr_feelsTold, c_hf_sixteenths, c_n_f, hf_features, c_hf_featureNames, c_hf_steps, c_hf_turnedFeatures)) else (
                  let w_60 := F_Ho_readRound t_length t_kind t_start t_end t_number t_sign t_letters t_fault t_faultPlace c_tape c_n_d hf_doors hf_roundMany c_hf_roundDoors
                  let r_58 : Int32 := w_60.1
                  let nw0_48 : Int32 := w_60.2.1
                  let nw1_49 : Int32 := w_60.2.2.1
                  let nw2_50 : Int32 := w_60.2.2.2.1
                  let nw3_51 : Int32 := w_60.2.2.2.2.1
                  let nw4_52 : Int32 := w_60.2.2.2.2.2.1
                  let nw5_53 : Int64 := w_60.2.2.2.2.2.2.1
                  let nw6_54 : Int32 := w_60.2.2.2.2.2.2.2.1
                  let nw7_55 : Int32 := w_60.2.2.2.2.2.2.2.2.1
                  let nw8_56 : Int32 := w_60.2.2.2.2.2.2.2.2.2.1
                  let nw9_57 : Nat → Int32 := w_60.2.2.2.2.2.2.2.2.2.2
                  (r_58, nw6_54, nw7_55, nw0_48, nw1_49, nw2_50, nw3_51, nw4_52, nw5_53, nw8_56, nw9_57, hr_turnedTold, hf_turned, hr_secondsTold, c_hf_seconds, c_n_d, hf_doors, c_hf_wanted, c_hf_openers, hr_keysOnRings, c_n_r, hf_rings, c_hf_on, c_hf_onMany, c_n_k, hf_keys, c_hf_keySteps, hr_feelsTold, c_hf_sixteenths, c_n_f, hf_features, c_hf_featureNames, c_hf_steps, c_hf_turnedFeatures))) else (
                let w_75 := F_Ho_readTurned hr_turnedTold t_length t_kind t_start t_end t_number t_sign t_letters t_fault t_faultPlace c_tape hf_turned
                let r_73 : Int32 := w_75.1
                let nw0_63 : Int32 := w_75.2.1
                let nw1_64 : Int32 := w_75.2.2.1
                let nw2_65 : Int32 := w_75.2.2.2.1
                let nw3_66 : Int32 := w_75.2.2.2.2.1
                let nw4_67 : Int32 := w_75.2.2.2.2.2.1
                let nw5_68 : Int32 := w_75.2.2.2.2.2.2.1
                let nw6_69 : Int64 := w_75.2.2.2.2.2.2.2.1
                let nw7_70 : Int32 := w_75.2.2.2.2.2.2.2.2.1
                let nw8_71 : Int32 := w_75.2.2.2.2.2.2.2.2.2.1
                let nw9_72 : Int32 := w_75.2.2.2.2.2.2.2.2.2.2
                (r_73, nw7_70, nw8_71, nw1_64, nw2_65, nw3_66, nw4_67, nw5_68, nw6_69, hf_roundMany, c_hf_roundDoors, nw0_63, nw9_72, hr_secondsTold, c_hf_seconds, c_n_d, hf_doors, c_hf_wanted, c_hf_openers, hr_keysOnRings, c_n_r, hf_rings, c_hf_on, c_hf_onMany, c_n_k, hf_keys, c_hf_keySteps, hr_feelsTold, c_hf_sixteenths, c_n_f, hf_features, c_hf_featureNames, c_hf_steps, c_hf_turnedFeatures))) else (
              let w_90 := F_Ho_readSeconds hr_secondsTold t_length t_kind t_start t_end t_number t_sign t_letters t_fault t_faultPlace c_tape c_hf_seconds
              let r_88 : Int32 := w_90.1
              let nw0_78 : Int32 := w_90.2.1
              let nw1_79 : Int32 := w_90.2.2.1
              let nw2_80 : Int32 := w_90.2.2.2.1
              let nw3_81 : Int32 := w_90.2.2.2.2.1
              let nw4_82 : Int32 := w_90.2.2.2.2.2.1
              let nw5_83 : Int32 := w_90.2.2.2.2.2.2.1
              let nw6_84 : Int64 := w_90.2.2.2.2.2.2.2.1
              let nw7_85 : Int32 := w_90.2.2.2.2.2.2.2.2.1
              let nw8_86 : Int32 := w_90.2.2.2.2.2.2.2.2.2.1
              let nw9_87 : Nat → Int32 := w_90.2.2.2.2.2.2.2.2.2.2
              (r_88, nw7_85, nw8_86, nw1_79, nw2_80, nw3_81, nw4_82, nw5_83, nw6_84, hf_roundMany, c_hf_roundDoors, hr_turnedTold, hf_turned, nw0_78, nw9_87, c_n_d, hf_doors, c_hf_wanted, c_hf_openers, hr_keysOnRings, c_n_r, hf_rings, c_hf_on, c_hf_onMany, c_n_k, hf_keys, c_hf_keySteps, hr_feelsTold, c_hf_sixteenths, c_n_f, hf_features, c_hf_featureNames, c_hf_steps, c_hf_turnedFeatures))) else (
            let w_107 := F_Ho_readDoor t_length t_kind t_start t_end t_number t_sign t_letters t_fault t_faultPlace c_tape c_n_f c_n_k c_n_r c_n_d hf_features hf_keys hf_rings hf_doors c_hf_wanted c_hf_openers
            let r_105 : Int32 := w_107.1
            let nw0_93 : Int32 := w_107.2.1
            let nw1_94 : Int32 := w_107.2.2.1
            let nw2_95 : Int32 := w_107.2.2.2.1
            let nw3_96 : Int32 := w_107.2.2.2.2.1
            let nw4_97 : Int32 := w_107.2.2.2.2.2.1
            let nw5_98 : Int64 := w_107.2.2.2.2.2.2.1
            let nw6_99 : Int32 := w_107.2.2.2.2.2.2.2.1
            let nw7_100 : Int32 := w_107.2.2.2.2.2.2.2.2.1
            let nw8_101 : Nat → Int64 := w_107.2.2.2.2.2.2.2.2.2.1
            let nw9_102 : Int32 := w_107.2.2.2.2.2.2.2.2.2.2.1
            let nw10_103 : Nat → Int32 := w_107.2.2.2.2.2.2.2.2.2.2.2.1
            let nw11_104 : Nat → Int32 := w_107.2.2.2.2.2.2.2.2.2.2.2.2
            (r_105, nw6_99, nw7_100, nw0_93, nw1_94, nw2_95, nw3_96, nw4_97, nw5_98, hf_roundMany, c_hf_roundDoors, hr_turnedTold, hf_turned, hr_secondsTold, c_hf_seconds, nw8_101, nw9_102, nw10_103, nw11_104, hr_keysOnRings, c_n_r, hf_rings, c_hf_on, c_hf_onMany, c_n_k, hf_keys, c_hf_keySteps, hr_feelsTold, c_hf_sixteenths, c_n_f, hf_features, c_hf_featureNames, c_hf_steps, c_hf_turnedFeatures))) else (
          let w_125 := F_Ho_readRing hr_keysOnRings t_length t_kind t_start t_end t_number t_sign t_letters t_fault t_faultPlace c_tape c_n_f c_n_k c_n_r c_n_d hf_features hf_keys hf_rings hf_doors c_hf_on c_hf_onMany
          let r_123 : Int32 := w_125.1
          let nw0_110 : Int32 := w_125.2.1
          let nw1_111 : Int32 := w_125.2.2.1
          let nw2_112 : Int32 := w_125.2.2.2.1
          let nw3_113 : Int32 := w_125.2.2.2.2.1
          let nw4_114 : Int32 := w_125.2.2.2.2.2.1
          let nw5_115 : Int64 := w_125.2.2.2.2.2.2.1
          let nw6_116 : Int32 := w_125.2.2.2.2.2.2.2.1
          let nw7_117 : Int32 := w_125.2.2.2.2.2.2.2.2.1
          let nw8_118 : Nat → Int64 := w_125.2.2.2.2.2.2.2.2.2.1
          let nw9_119 : Int32 := w_125.2.2.2.2.2.2.2.2.2.2.1
          let nw10_120 : Nat → Int32 := w_125.2.2.2.2.2.2.2.2.2.2.2.1
          let nw11_121 : Int32 := w_125.2.2.2.2.2.2.2.2.2.2.2.2.1
          let nw12_122 : Nat → Int32 := w_125.2.2.2.2.2.2.2.2.2.2.2.2.2
          (r_123, nw6_116, nw7_117, nw0_110, nw1_111, nw2_112, nw3_113, nw4_114, nw5_115, hf_roundMany, c_hf_roundDoors, hr_turnedTold, hf_turned, hr_secondsTold, c_hf_seconds, c_n_d, hf_doors, c_hf_wanted, c_hf_openers, nw11_121, nw8_118, nw9_119, nw12_122, nw10_120, c_n_k, hf_keys, c_hf_keySteps, hr_feelsTold, c_hf_sixteenths, c_n_f, hf_features, c_hf_featureNames, c_hf_steps, c_hf_turnedFeatures))) else (
        let w_141 := F_Ho_readKey t_length t_kind t_start t_end t_number t_sign t_letters t_fault t_faultPlace c_tape c_n_f c_n_k c_n_r c_n_d hf_features hf_keys hf_rings hf_doors c_hf_steps c_hf_keySteps
        let r_139 : Int32 := w_141.1
        let nw0_128 : Int32 := w_141.2.1
        let nw1_129 : Int32 := w_141.2.2.1
        let nw2_130 : Int32 := w_141.2.2.2.1
        let nw3_131 : Int32 := w_141.2.2.2.2.1
        let nw4_132 : Int32 := w_141.2.2.2.2.2.1
        let nw5_133 : Int64 := w_141.2.2.2.2.2.2.1
        let nw6_134 : Int32 := w_141.2.2.2.2.2.2.2.1
        let nw7_135 : Int32 := w_141.2.2.2.2.2.2.2.2.1
        let nw8_136 : Nat → Int32 := w_141.2.2.2.2.2.2.2.2.2.1
        let nw9_137 : Nat → Int64 := w_141.2.2.2.2.2.2.2.2.2.2.1
        let nw10_138 : Int32 := w_141.2.2.2.2.2.2.2.2.2.2.2
        (r_139, nw6_134, nw7_135, nw0_128, nw1_129, nw2_130, nw3_131, nw4_132, nw5_133, hf_roundMany, c_hf_roundDoors, hr_turnedTold, hf_turned, hr_secondsTold, c_hf_seconds, c_n_d, hf_doors, c_hf_wanted, c_hf_openers, hr_keysOnRings, c_n_r, hf_rings, c_hf_on, c_hf_onMany, nw9_137, nw10_138, nw8_136, hr_feelsTold, c_hf_sixteenths, c_n_f, hf_features, c_hf_featureNames, c_hf_steps, c_hf_turnedFeatures))) else (
      let w_156 := F_Ho_readFeels hr_feelsTold t_length t_end t_number t_sign t_letters t_fault t_faultPlace c_tape c_n_f hf_features c_hf_steps c_hf_sixteenths
      let r_154 : Int32 := w_156.1
      let nw0_144 : Int32 := w_156.2.1
      let nw1_145 : Int32 := w_156.2.2.1
      let nw2_146 : Int32 := w_156.2.2.2.1
      let nw3_147 : Int32 := w_156.2.2.2.2.1
      let nw4_148 : Int32 := w_156.2.2.2.2.2.1
      let nw5_149 : Int32 := w_156.2.2.2.2.2.2.1
      let nw6_150 : Int64 := w_156.2.2.2.2.2.2.2.1
      let nw7_151 : Int32 := w_156.2.2.2.2.2.2.2.2.1
      let nw8_152 : Int32 := w_156.2.2.2.2.2.2.2.2.2.1
      let nw9_153 : Nat → Int32 := w_156.2.2.2.2.2.2.2.2.2.2
      (r_154, nw7_151, nw8_152, nw1_145, nw2_146, nw3_147, nw4_148, nw5_149, nw6_150, hf_roundMany, c_hf_roundDoors, hr_turnedTold, hf_turned, hr_secondsTold, c_hf_seconds, c_n_d, hf_doors, c_hf_wanted, c_hf_openers, hr_keysOnRings, c_n_r, hf_rings, c_hf_on, c_hf_onMany, c_n_k, hf_keys, c_hf_keySteps, nw0_144, nw9_153, c_n_f, hf_features, c_hf_featureNames, c_hf_steps, c_hf_turnedFeatures))) else (
    let w_175 := F_Ho_readFeature t_length t_kind t_start t_end t_number t_sign t_letters t_fault t_faultPlace c_tape c_n_f c_n_k c_n_r c_n_d hf_features hf_keys hf_rings hf_doors c_hf_featureNames c_hf_steps c_hf_turnedFeatures c_hf_sixteenths
    let r_173 : Int32 := w_175.1
    let nw0_159 : Int32 := w_175.2.1
    let nw1_160 : Int32 := w_175.2.2.1
    let nw2_161 : Int32 := w_175.2.2.2.1
    let nw3_162 : Int32 := w_175.2.2.2.2.1
    let nw4_163 : Int32 := w_175.2.2.2.2.2.1
    let nw5_164 : Int64 := w_175.2.2.2.2.2.2.1
    let nw6_165 : Int32 := w_175.2.2.2.2.2.2.2.1
    let nw7_166 : Int32 := w_175.2.2.2.2.2.2.2.2.1
    let nw8_167 : Nat → Int64 := w_175.2.2.2.2.2.2.2.2.2.1
    let nw9_168 : Int32 := w_175.2.2.2.2.2.2.2.2.2.2.1
    let nw10_169 : Nat → Int64 := w_175.2.2.2.2.2.2.2.2.2.2.2.1
    let nw11_170 : Nat → Int32 := w_175.2.2.2.2.2.2.2.2.2.2.2.2.1
    let nw12_171 : Nat → Int32 := w_175.2.2.2.2.2.2.2.2.2.2.2.2.2.1
    let nw13_172 : Nat → Int32 := w_175.2.2.2.2.2.2.2.2.2.2.2.2.2.2
    (r_173, nw6_165, nw7_166, nw0_159, nw1_160, nw2_161, nw3_162, nw4_163, nw5_164, hf_roundMany, c_hf_roundDoors, hr_turnedTold, hf_turned, hr_secondsTold, c_hf_seconds, c_n_d, hf_doors, c_hf_wanted, c_hf_openers, hr_keysOnRings, c_n_r, hf_rings, c_hf_on, c_hf_onMany, c_n_k, hf_keys, c_hf_keySteps, hr_feelsTold, nw13_172, nw8_167, nw9_168, nw10_169, nw11_170, nw12_171))
theorem F_Ho_readPart_s (hr_keysOnRings : Int32) (hr_feelsTold : Int32) (hr_secondsTold : Int32) (hr_turnedTold : Int32) (t_length : Int32) (t_kind : Int32) (t_start : Int32) (t_end : Int32) (t_number : Int32) (t_sign : Int32) (t_letters : Int64) (t_fault : Int32) (t_faultPlace : Int32) (c_tape : Nat → Int32) (c_n_f : Nat → Int64) (c_n_k : Nat → Int64) (c_n_r : Nat → Int64) (c_n_d : Nat → Int64) (hf_features : Int32) (hf_keys : Int32) (hf_rings : Int32) (hf_doors : Int32) (hf_turned : Int32) (hf_roundMany : Int32) (c_hf_featureNames : Nat → Int64) (c_hf_steps : Nat → Int32) (c_hf_turnedFeatures : Nat → Int32) (c_hf_sixteenths : Nat → Int32) (c_hf_keySteps : Nat → Int32) (c_hf_on : Nat → Int32) (c_hf_onMany : Nat → Int32) (c_hf_wanted : Nat → Int32) (c_hf_openers : Nat → Int32) (c_hf_seconds : Nat → Int32) (c_hf_roundDoors : Nat → Int32) : F_Ho_readPart hr_keysOnRings hr_feelsTold hr_secondsTold hr_turnedTold t_length t_kind t_start t_end t_number t_sign t_letters t_fault t_faultPlace c_tape c_n_f c_n_k c_n_r c_n_d hf_features hf_keys hf_rings hf_doors hf_turned hf_roundMany c_hf_featureNames c_hf_steps c_hf_turnedFeatures c_hf_sixteenths c_hf_keySteps c_hf_on c_hf_onMany c_hf_wanted c_hf_openers c_hf_seconds c_hf_roundDoors = (
  let w_3 := F_Te_is t_length t_kind t_start t_end c_tape 0
  let r_1 : Int32 := w_3
  if r_1 = 0 then (
    let w_8 := F_Te_is t_length t_kind t_start t_end c_tape 18
    let r_6 : Int32 := w_8
    if r_6 = 0 then (
      let w_13 := F_Te_is t_length t_kind t_start t_end c_tape 19
      let r_11 : Int32 := w_13
      if r_11 = 0 then (
        let w_18 := F_Te_is t_length t_kind t_start t_end c_tape 20
        let r_16 : Int32 := w_18
        if r_16 = 0 then (
          let w_23 := F_Te_is t_length t_kind t_start t_end c_tape 21
          let r_21 : Int32 := w_23
          if r_21 = 0 then (
            let w_28 := F_Te_is t_length t_kind t_start t_end c_tape 24
            let r_26 : Int32 := w_28
            if r_26 = 0 then (
              let w_33 := F_Te_is t_length t_kind t_start t_end c_tape 17
              let r_31 : Int32 := w_33
              if r_31 = 0 then (
                let w_38 := F_Te_is t_length t_kind t_start t_end c_tape 29
                let r_36 : Int32 := w_38
                if r_36 = 0 then (
                  let w_45 := F_Te_refuse t_kind t_start t_fault t_faultPlace 2
                  let r_43 : Int32 := w_45.1
                  let nw0_41 : Int32 := w_45.2.1
                  let nw1_42 : Int32 := w_45.2.2
                  (r_43, nw0_41, nw1_42, t_kind, t_start, t_end, t_number, t_sign, t_letters, hf_roundMany, c_hf_roundDoors, hr_turnedTold, hf_turned, hr_secondsTold, c_hf_seconds, c_n_d, hf_doors, c_hf_wanted, c_hf_openers, hr_keysOnRings, c_n_r, hf_rings, c_hf_on, c_hf_onMany, c_n_k, hf_keys, c_hf_keySteps, hr_feelsTold, c_hf_sixteenths, c_n_f, hf_features, c_hf_featureNames, c_hf_steps, c_hf_turnedFeatures)) else (
                  let w_60 := F_Ho_readRound t_length t_kind t_start t_end t_number t_sign t_letters t_fault t_faultPlace c_tape c_n_d hf_doors hf_roundMany c_hf_roundDoors
                  let r_58 : Int32 := w_60.1
                  let nw0_48 : Int32 := w_60.2.1
                  let nw1_49 : Int32 := w_60.2.2.1
                  let nw2_50 : Int32 := w_60.2.2.2.1
                  let nw3_51 : Int32 := w_60.2.2.2.2.1
                  let nw4_52 : Int32 := w_60.2.2.2.2.2.1
                  let nw5_53 : Int64 := w_60.2.2.2.2.2.2.1
                  let nw6_54 : Int32 := w_60.2.2.2.2.2.2.2.1
                  let nw7_55 : Int32 := w_60.2.2.2.2.2.2.2.2.1
                  let nw8_56 : Int32 := w_60.2.2.2.2.2.2.2.2.2.1
                  let nw9_57 : Nat → Int32 := w_60.2.2.2.2.2.2.2.2.2.2
                  (r_58, nw6_54, nw7_55, nw0_48, nw1_49, nw2_50, nw3_51, nw4_52, nw5_53, nw8_56, nw9_57, hr_turnedTold, hf_turned, hr_secondsTold, c_hf_seconds, c_n_d, hf_doors, c_hf_wanted, c_hf_openers, hr_keysOnRings, c_n_r, hf_rings, c_hf_on, c_hf_onMany, c_n_k, hf_keys, c_hf_keySteps, hr_feelsTold, c_hf_sixteenths, c_n_f, hf_features, c_hf_featureNames, c_hf_steps, c_hf_turnedFeatures))) else (
                let w_75 := F_Ho_readTurned hr_turnedTold t_length t_kind t_start t_end t_number t_sign t_letters t_fault t_faultPlace c_tape hf_turned
                let r_73 : Int32 := w_75.1
                let nw0_63 : Int32 := w_75.2.1
                let nw1_64 : Int32 := w_75.2.2.1
                let nw2_65 : Int32 := w_75.2.2.2.1
                let nw3_66 : Int32 := w_75.2.2.2.2.1
                let nw4_67 : Int32 := w_75.2.2.2.2.2.1
                let nw5_68 : Int32 := w_75.2.2.2.2.2.2.1
                let nw6_69 : Int64 := w_75.2.2.2.2.2.2.2.1
                let nw7_70 : Int32 := w_75.2.2.2.2.2.2.2.2.1
                let nw8_71 : Int32 := w_75.2.2.2.2.2.2.2.2.2.1
                let nw9_72 : Int32 := w_75.2.2.2.2.2.2.2.2.2.2
                (r_73, nw7_70, nw8_71, nw1_64, nw2_65, nw3_66, nw4_67, nw5_68, nw6_69, hf_roundMany, c_hf_roundDoors, nw0_63, nw9_72, hr_secondsTold, c_hf_seconds, c_n_d, hf_doors, c_hf_wanted, c_hf_openers, hr_keysOnRings, c_n_r, hf_rings, c_hf_on, c_hf_onMany, c_n_k, hf_keys, c_hf_keySteps, hr_feelsTold, c_hf_sixteenths, c_n_f, hf_features, c_hf_featureNames, c_hf_steps, c_hf_turnedFeatures))) else (
              let w_90 := F_Ho_readSeconds hr_secondsTold t_length t_kind t_start t_end t_number t_sign t_letters t_fault t_faultPlace c_tape c_hf_seconds
              let r_88 : Int32 := w_90.1
              let nw0_78 : Int32 := w_90.2.1
              let nw1_79 : Int32 := w_90.2.2.1
              let nw2_80 : Int32 := w_90.2.2.2.1
              let nw3_81 : Int32 := w_90.2.2.2.2.1
              let nw4_82 : Int32 := w_90.2.2.2.2.2.1
              let nw5_83 : Int32 := w_90.2.2.2.2.2.2.1
              let nw6_84 : Int64 := w_90.2.2.2.2.2.2.2.1
              let nw7_85 : Int32 := w_90.2.2.2.2.2.2.2.2.1
              let nw8_86 : Int32 := w_90.2.2.2.2.2.2.2.2.2.1
              let nw9_87 : Nat → Int32 := w_90.2.2.2.2.2.2.2.2.2.2
              (r_88, nw7_85, nw8_86, nw1_79, nw2_80, nw3_81, nw4_82, nw5_83, nw6_84, hf_roundMany, c_hf_roundDoors, hr_turnedTold, hf_turned, nw0_78, nw9_87, c_n_d, hf_doors, c_hf_wanted, c_hf_openers, hr_keysOnRings, c_n_r, hf_rings, c_hf_on, c_hf_onMany, c_n_k, hf_keys, c_hf_keySteps, hr_feelsTold, c_hf_sixteenths, c_n_f, hf_features, c_hf_featureNames, c_hf_steps, c_hf_turnedFeatures))) else (
            let w_107 := F_Ho_readDoor t_length t_kind t_start t_end t_number t_sign t_letters t_fault t_faultPlace c_tape c_n_f c_n_k c_n_r c_n_d hf_features hf_keys hf_rings hf_doors c_hf_wanted c_hf_openers
            let r_105 : Int32 := w_107.1
            let nw0_93 : Int32 := w_107.2.1
            let nw1_94 : Int32 := w_107.2.2.1
            let nw2_95 : Int32 := w_107.2.2.2.1
            let nw3_96 : Int32 := w_107.2.2.2.2.1
            let nw4_97 : Int32 := w_107.2.2.2.2.2.1
            let nw5_98 : Int64 := w_107.2.2.2.2.2.2.1
            let nw6_99 : Int32 := w_107.2.2.2.2.2.2.2.1
            let nw7_100 : Int32 := w_107.2.2.2.2.2.2.2.2.1
            let nw8_101 : Nat → Int64 := w_107.2.2.2.2.2.2.2.2.2.1
            let nw9_102 : Int32 := w_107.2.2.2.2.2.2.2.2.2.2.1
            let nw10_103 : Nat → Int32 := w_107.2.2.2.2.2.2.2.2.2.2.2.1
            let nw11_104 : Nat → Int32 := w_107.2.2.2.2.2.2.2.2.2.2.2.2
            (r_105, nw6_99, nw7_100, nw0_93, nw1_94, nw2_95, nw3_96, nw4_97, nw5_98, hf_roundMany, c_hf_roundDoors, hr_turnedTold, hf_turned, hr_secondsTold, c_hf_seconds, nw8_101, nw9_102, nw10_103, nw11_104, hr_keysOnRings, c_n_r, hf_rings, c_hf_on, c_hf_onMany, c_n_k, hf_keys, c_hf_keySteps, hr_feelsTold, c_hf_sixteenths, c_n_f, hf_features, c_hf_featureNames, c_hf_steps, c_hf_turnedFeatures))) else (
          let w_125 := F_Ho_readRing hr_keysOnRings t_length t_kind t_start t_end t_number t_sign t_letters t_fault t_faultPlace c_tape c_n_f c_n_k c_n_r c_n_d hf_features hf_keys hf_rings hf_doors c_hf_on c_hf_onMany
          let r_123 : Int32 := w_125.1
          let nw0_110 : Int32 := w_125.2.1
          let nw1_111 : Int32 := w_125.2.2.1
          let nw2_112 : Int32 := w_125.2.2.2.1
          let nw3_113 : Int32 := w_125.2.2.2.2.1
          let nw4_114 : Int32 := w_125.2.2.2.2.2.1
          let nw5_115 : Int64 := w_125.2.2.2.2.2.2.1
          let nw6_116 : Int32 := w_125.2.2.2.2.2.2.2.1
          let nw7_117 : Int32 := w_125.2.2.2.2.2.2.2.2.1
          let nw8_118 : Nat → Int64 := w_125.2.2.2.2.2.2.2.2.2.1
          let nw9_119 : Int32 := w_125.2.2.2.2.2.2.2.2.2.2.1
          let nw10_120 : Nat → Int32 := w_125.2.2.2.2.2.2.2.2.2.2.2.1
          let nw11_121 : Int32 := w_125.2.2.2.2.2.2.2.2.2.2.2.2.1
          let nw12_122 : Nat → Int32 := w_125.2.2.2.2.2.2.2.2.2.2.2.2.2
          (r_123, nw6_116, nw7_117, nw0_110, nw1_111, nw2_112, nw3_113, nw4_114, nw5_115, hf_roundMany, c_hf_roundDoors, hr_turnedTold, hf_turned, hr_secondsTold, c_hf_seconds, c_n_d, hf_doors, c_hf_wanted, c_hf_openers, nw11_121, nw8_118, nw9_119, nw12_122, nw10_120, c_n_k, hf_keys, c_hf_keySteps, hr_feelsTold, c_hf_sixteenths, c_n_f, hf_features, c_hf_featureNames, c_hf_steps, c_hf_turnedFeatures))) else (
        let w_141 := F_Ho_readKey t_length t_kind t_start t_end t_number t_sign t_letters t_fault t_faultPlace c_tape c_n_f c_n_k c_n_r c_n_d hf_features hf_keys hf_rings hf_doors c_hf_steps c_hf_keySteps
        let r_139 : Int32 := w_141.1
        let nw0_128 : Int32 := w_141.2.1
        let nw1_129 : Int32 := w_141.2.2.1
        let nw2_130 : Int32 := w_141.2.2.2.1
        let nw3_131 : Int32 := w_141.2.2.2.2.1
        let nw4_132 : Int32 := w_141.2.2.2.2.2.1
        let nw5_133 : Int64 := w_141.2.2.2.2.2.2.1
        let nw6_134 : Int32 := w_141.2.2.2.2.2.2.2.1
        let nw7_135 : Int32 := w_141.2.2.2.2.2.2.2.2.1
        let nw8_136 : Nat → Int32 := w_141.2.2.2.2.2.2.2.2.2.1
        let nw9_137 : Nat → Int64 := w_141.2.2.2.2.2.2.2.2.2.2.1
        let nw10_138 : Int32 := w_141.2.2.2.2.2.2.2.2.2.2.2
        (r_139, nw6_134, nw7_135, nw0_128, nw1_129, nw2_130, nw3_131, nw4_132, nw5_133, hf_roundMany, c_hf_roundDoors, hr_turnedTold, hf_turned, hr_secondsTold, c_hf_seconds, c_n_d, hf_doors, c_hf_wanted, c_hf_openers, hr_keysOnRings, c_n_r, hf_rings, c_hf_on, c_hf_onMany, nw9_137, nw10_138, nw8_136, hr_feelsTold, c_hf_sixteenths, c_n_f, hf_features, c_hf_featureNames, c_hf_steps, c_hf_turnedFeatures))) else (
      let w_156 := F_Ho_readFeels hr_feelsTold t_length t_end t_number t_sign t_letters t_fault t_faultPlace c_tape c_n_f hf_features c_hf_steps c_hf_sixteenths
      let r_154 : Int32 := w_156.1
      let nw0_144 : Int32 := w_156.2.1
      let nw1_145 : Int32 := w_156.2.2.1
      let nw2_146 : Int32 := w_156.2.2.2.1
      let nw3_147 : Int32 := w_156.2.2.2.2.1
      let nw4_148 : Int32 := w_156.2.2.2.2.2.1
      let nw5_149 : Int32 := w_156.2.2.2.2.2.2.1
      let nw6_150 : Int64 := w_156.2.2.2.2.2.2.2.1
      let nw7_151 : Int32 := w_156.2.2.2.2.2.2.2.2.1
      let nw8_152 : Int32 := w_156.2.2.2.2.2.2.2.2.2.1
      let nw9_153 : Nat → Int32 := w_156.2.2.2.2.2.2.2.2.2.2
      (r_154, nw7_151, nw8_152, nw1_145, nw2_146, nw3_147, nw4_148, nw5_149, nw6_150, hf_roundMany, c_hf_roundDoors, hr_turnedTold, hf_turned, hr_secondsTold, c_hf_seconds, c_n_d, hf_doors, c_hf_wanted, c_hf_openers, hr_keysOnRings, c_n_r, hf_rings, c_hf_on, c_hf_onMany, c_n_k, hf_keys, c_hf_keySteps, nw0_144, nw9_153, c_n_f, hf_features, c_hf_featureNames, c_hf_steps, c_hf_turnedFeatures))) else (
    let w_175 := F_Ho_readFeature t_length t_kind t_start t_end t_number t_sign t_letters t_fault t_faultPlace c_tape c_n_f c_n_k c_n_r c_n_d hf_features hf_keys hf_rings hf_doors c_hf_featureNames c_hf_steps c_hf_turnedFeatures c_hf_sixteenths
    let r_173 : Int32 := w_175.1
    let nw0_159 : Int32 := w_175.2.1
    let nw1_160 : Int32 := w_175.2.2.1
    let nw2_161 : Int32 := w_175.2.2.2.1
    let nw3_162 : Int32 := w_175.2.2.2.2.1
    let nw4_163 : Int32 := w_175.2.2.2.2.2.1
    let nw5_164 : Int64 := w_175.2.2.2.2.2.2.1
    let nw6_165 : Int32 := w_175.2.2.2.2.2.2.2.1
    let nw7_166 : Int32 := w_175.2.2.2.2.2.2.2.2.1
    let nw8_167 : Nat → Int64 := w_175.2.2.2.2.2.2.2.2.2.1
    let nw9_168 : Int32 := w_175.2.2.2.2.2.2.2.2.2.2.1
    let nw10_169 : Nat → Int64 := w_175.2.2.2.2.2.2.2.2.2.2.2.1
    let nw11_170 : Nat → Int32 := w_175.2.2.2.2.2.2.2.2.2.2.2.2.1
    let nw12_171 : Nat → Int32 := w_175.2.2.2.2.2.2.2.2.2.2.2.2.2.1
    let nw13_172 : Nat → Int32 := w_175.2.2.2.2.2.2.2.2.2.2.2.2.2.2
    (r_173, nw6_165, nw7_166, nw0_159, nw1_160, nw2_161, nw3_162, nw4_163, nw5_164, hf_roundMany, c_hf_roundDoors, hr_turnedTold, hf_turned, hr_secondsTold, c_hf_seconds, c_n_d, hf_doors, c_hf_wanted, c_hf_openers, hr_keysOnRings, c_n_r, hf_rings, c_hf_on, c_hf_onMany, c_n_k, hf_keys, c_hf_keySteps, hr_feelsTold, nw13_172, nw8_167, nw9_168, nw10_169, nw11_170, nw12_171))) := rfl
noncomputable def F_Ho_readAll_L29a (t_length : Int32) (c_tape : Nat → Int32) (nw2_3 : Int32) : Nat → Int32 → Int32 → Int32 → Int32 → Int32 → Int32 → Int32 → Int32 → Int32 → Int32 → Int64 → Int32 → Int32 → (Nat → Int64) → (Nat → Int64) → (Nat → Int64) → (Nat → Int64) → (Nat → Int64) → (Nat → Int32) → (Nat → Int32) → (Nat → Int32) → (Nat → Int32) → (Nat → Int32) → (Nat → Int32) → (Nat → Int32) → (Nat → Int32) → (Nat → Int32) → Int32 → Int32 → Int32 → Int32 → Int32 → Int32 → (Nat → Int32) → (Int32 × Int32 × Int32 × Int32 × Int32 × Int32 × Int32 × Int32 × Int32 × Int32 × Int64 × Int32 × Int32 × (Nat → Int64) × (Nat → Int64) × (Nat → Int64) × (Nat → Int64) × Int32 × Int32 × Int32 × Int32 × Int32 × Int32 × Int32 × (Nat → Int64) × (Nat → Int32) × (Nat → Int32) × (Nat → Int32) × (Nat → Int32) × (Nat → Int32) × (Nat → Int32) × (Nat → Int32) × (Nat → Int32) × (Nat → Int32) × (Nat → Int32)) := fun k9 => Nat.rec (motive := fun _ => Int32 → Int32 → Int32 → Int32 → Int32 → Int32 → Int32 → Int32 → Int32 → Int32 → Int64 → Int32 → Int32 → (Nat → Int64) → (Nat → Int64) → (Nat → Int64) → (Nat → Int64) → (Nat → Int64) → (Nat → Int32) → (Nat → Int32) → (Nat → Int32) → (Nat → Int32) → (Nat → Int32) → (Nat → Int32) → (Nat → Int32) → (Nat → Int32) → (Nat → Int32) → Int32 → Int32 → Int32 → Int32 → Int32 → Int32 → (Nat → Int32) → (Int32 × Int32 × Int32 × Int32 × Int32 × Int32 × Int32 × Int32 × Int32 × Int32 × Int64 × Int32 × Int32 × (Nat → Int64) × (Nat → Int64) × (Nat → Int64) × (Nat → Int64) × Int32 × Int32 × Int32 × Int32 × Int32 × Int32 × Int32 × (Nat → Int64) × (Nat → Int32) × (Nat → Int32) × (Nat → Int32) × (Nat → Int32) × (Nat → Int32) × (Nat → Int32) × (Nat → Int32) × (Nat → Int32) × (Nat → Int32) × (Nat → Int32))) (fun _ _ _ _ _ _ _ _ _ _ _ _ _ _ _ _ _ _ _ _ _ _ _ _ _ _ _ _ _ _ _ _ _ _ => default) (fun _ (G_L29a : Int32 → Int32 → Int32 → Int32 → Int32 → Int32 → Int32 → Int32 → Int32 → Int32 → Int64 → Int32 → Int32 → (Nat → Int64) → (Nat → Int64) → (Nat → Int64) → (Nat → Int64) → (Nat → Int64) → (Nat → Int32) → (Nat → Int32) → (Nat → Int32) → (Nat → Int32) → (Nat → Int32) → (Nat → Int32) → (Nat → Int32) → (Nat → Int32) → (Nat → Int32) → Int32 → Int32 → Int32 → Int32 → Int32 → Int32 → (Nat → Int32) → (Int32 × Int32 × Int32 × Int32 × Int32 × Int32 × Int32 × Int32 × Int32 × Int32 × Int64 × Int32 × Int32 × (Nat → Int64) × (Nat → Int64) × (Nat → Int64) × (Nat → Int64) × Int32 × Int32 × Int32 × Int32 × Int32 × Int32 × Int32 × (Nat → Int64) × (Nat → Int32) × (Nat → Int32) × (Nat → Int32) × (Nat → Int32) × (Nat → Int32) × (Nat → Int32) × (Nat → Int32) × (Nat → Int32) × (Nat → Int32) × (Nat → Int32))) => fun (v_133 : Int32) (v_134 : Int32) (v_135 : Int32) (v_136 : Int32) (v_137 : Int32) (v_138 : Int32) (v_139 : Int32) (v_140 : Int32) (v_141 : Int32) (v_142 : Int32) (v_143 : Int64) (v_144 : Int32) (v_145 : Int32) (g_146 : Nat → Int64) (g_147 : Nat → Int64) (g_148 : Nat → Int64) (g_149 : Nat → Int64) (g_150 : Nat → Int64) (g_151 : Nat → Int32) (g_152 : Nat → Int32) (g_153 : Nat → Int32) (g_154 : Nat → Int32) (g_155 : Nat → Int32) (g_156 : Nat → Int32) (g_157 : Nat → Int32) (g_158 : Nat → Int32) (g_159 : Nat → Int32) (v_160 : Int32) (v_161 : Int32) (v_162 : Int32) (v_163 : Int32) (v_164 : Int32) (v_165 : Int32) (g_166 : Nat → Int32) =>
    if 900 ≤ v_133 then (
      if v_144 = 0 then (
        ((1 : Int32), v_134, v_135, v_136, v_137, v_138, v_139, v_140, v_141, v_142, v_143, v_144, v_145, g_146, g_147, g_148, g_149, v_160, v_161, nw2_3, v_162, v_163, v_164, v_165, g_150, g_151, g_152, g_153, g_154, g_155, g_156, g_157, g_158, g_166, g_159)) else (
        ((0 : Int32), v_134, v_135, v_136, v_137, v_138, v_139, v_140, v_141, v_142, v_143, v_144, v_145, g_146, g_147, g_148, g_149, v_160, v_161, nw2_3, v_162, v_163, v_164, v_165, g_150, g_151, g_152, g_153, g_154, g_155, g_156, g_157, g_158, g_166, g_159))) else (
      let w_231 := F_Te_goesOn v_138 v_144
      let r_229 : Int32 := w_231
      if r_229 = 0 then (
        if v_144 = 0 then (
          ((1 : Int32), v_134, v_135, v_136, v_137, v_138, v_139, v_140, v_141, v_142, v_143, v_144, v_145, g_146, g_147, g_148, g_149, v_160, v_161, nw2_3, v_162, v_163, v_164, v_165, g_150, g_151, g_152, g_153, g_154, g_155, g_156, g_157, g_158, g_166, g_159)) else (
          ((0 : Int32), v_134, v_135, v_136, v_137, v_138, v_139, v_140, v_141, v_142, v_143, v_144, v_145, g_146, g_147, g_148, g_149, v_160, v_161, nw2_3, v_162, v_163, v_164, v_165, g_150, g_151, g_152, g_153, g_154, g_155, g_156, g_157, g_158, g_166, g_159))) else (
        let w_275 := F_Ho_readPart v_134 v_135 v_136 v_137 t_length v_138 v_139 v_140 v_141 v_142 v_143 v_144 v_145 c_tape g_146 g_147 g_148 g_149 v_160 v_161 v_162 v_163 v_164 v_165 g_150 g_151 g_152 g_153 g_154 g_155 g_156 g_157 g_158 g_166 g_159
        let r_273 : Int32 := w_275.1
        let nw0_240 : Int32 := w_275.2.1
        let nw1_241 : Int32 := w_275.2.2.1
        let nw2_242 : Int32 := w_275.2.2.2.1
        let nw3_243 : Int32 := w_275.2.2.2.2.1
        let nw4_244 : Int32 := w_275.2.2.2.2.2.1
        let nw5_245 : Int32 := w_275.2.2.2.2.2.2.1
        let nw6_246 : Int32 := w_275.2.2.2.2.2.2.2.1
        let nw7_247 : Int64 := w_275.2.2.2.2.2.2.2.2.1
        let nw8_248 : Int32 := w_275.2.2.2.2.2.2.2.2.2.1
        let nw9_249 : Nat → Int32 := w_275.2.2.2.2.2.2.2.2.2.2.1
        let nw10_250 : Int32 := w_275.2.2.2.2.2.2.2.2.2.2.2.1
        let nw11_251 : Int32 := w_275.2.2.2.2.2.2.2.2.2.2.2.2.1
        let nw12_252 : Int32 := w_275.2.2.2.2.2.2.2.2.2.2.2.2.2.1
        let nw13_253 : Nat → Int32 := w_275.2.2.2.2.2.2.2.2.2.2.2.2.2.2.1
        let nw14_254 : Nat → Int64 := w_275.2.2.2.2.2.2.2.2.2.2.2.2.2.2.2.1
        let nw15_255 : Int32 := w_275.2.2.2.2.2.2.2.2.2.2.2.2.2.2.2.2.1
        let nw16_256 : Nat → Int32 := w_275.2.2.2.2.2.2.2.2.2.2.2.2.2.2.2.2.2.1
        let nw17_257 : Nat → Int32 := w_275.2.2.2.2.2.2.2.2.2.2.2.2.2.2.2.2.2.2.1
        let nw18_258 : Int32 := w_275.2.2.2.2.2.2.2.2.2.2.2.2.2.2.2.2.2.2.2.1
        let nw19_259 : Nat → Int64 := w_275.2.2.2.2.2.2.2.2.2.2.2.2.2.2.2.2.2.2.2.2.1
        let nw20_260 : Int32 := w_275.2.2.2.2.2.2.2.2.2.2.2.2.2.2.2.2.2.2.2.2.2.1
        let nw21_261 : Nat → Int32 := w_275.2.2.2.2.2.2.2.2.2.2.2.2.2.2.2.2.2.2.2.2.2.2.1
        let nw22_262 : Nat → Int32 := w_275.2.2.2.2.2.2.2.2.2.2.2.2.2.2.2.2.2.2.2.2.2.2.2.1
        let nw23_263 : Nat → Int64 := w_275.2.2.2.2.2.2.2.2.2.2.2.2.2.2.2.2.2.2.2.2.2.2.2.2.1
        let nw24_264 : Int32 := w_275.2.2.2.2.2.2.2.2.2.2.2.2.2.2.2.2.2.2.2.2.2.2.2.2.2.1
        let nw25_265 : Nat → Int32 := w_275.2.2.2.2.2.2.2.2.2.2.2.2.2.2.2.2.2.2.2.2.2.2.2.2.2.2.1
        let nw26_266 : Int32 := w_275.2.2.2.2.2.2.2.2.2.2.2.2.2.2.2.2.2.2.2.2.2.2.2.2.2.2.2.1
        let nw27_267 : Nat → Int32 := w_275.2.2.2.2.2.2.2.2.2.2.2.2.2.2.2.2.2.2.2.2.2.2.2.2.2.2.2.2.1
        let nw28_268 : Nat → Int64 := w_275.2.2.2.2.2.2.2.2.2.2.2.2.2.2.2.2.2.2.2.2.2.2.2.2.2.2.2.2.2.1
        let nw29_269 : Int32 := w_275.2.2.2.2.2.2.2.2.2.2.2.2.2.2.2.2.2.2.2.2.2.2.2.2.2.2.2.2.2.2.1
        let nw30_270 : Nat → Int64 := w_275.2.2.2.2.2.2.2.2.2.2.2.2.2.2.2.2.2.2.2.2.2.2.2.2.2.2.2.2.2.2.2.1
        let nw31_271 : Nat → Int32 := w_275.2.2.2.2.2.2.2.2.2.2.2.2.2.2.2.2.2.2.2.2.2.2.2.2.2.2.2.2.2.2.2.2.1
        let nw32_272 : Nat → Int32 := w_275.2.2.2.2.2.2.2.2.2.2.2.2.2.2.2.2.2.2.2.2.2.2.2.2.2.2.2.2.2.2.2.2.2
        G_L29a (v_133 + 1) nw18_258 nw26_266 nw12_252 nw10_250 nw2_242 nw3_243 nw4_244 nw5_245 nw6_246 nw7_247 nw0_240 nw1_241 nw28_268 nw23_263 nw19_259 nw14_254 nw30_270 nw31_271 nw32_272 nw27_267 nw25_265 nw21_261 nw22_262 nw16_256 nw17_257 nw9_249 nw29_269 nw24_264 nw20_260 nw15_255 nw11_251 nw8_248 nw13_253))) k9
theorem F_Ho_readAll_L29a_s (t_length : Int32) (c_tape : Nat → Int32) (nw2_3 : Int32) (n9 : Nat) (v_133 : Int32) (v_134 : Int32) (v_135 : Int32) (v_136 : Int32) (v_137 : Int32) (v_138 : Int32) (v_139 : Int32) (v_140 : Int32) (v_141 : Int32) (v_142 : Int32) (v_143 : Int64) (v_144 : Int32) (v_145 : Int32) (g_146 : Nat → Int64) (g_147 : Nat → Int64) (g_148 : Nat → Int64) (g_149 : Nat → Int64) (g_150 : Nat → Int64) (g_151 : Nat → Int32) (g_152 : Nat → Int32) (g_153 : Nat → Int32) (g_154 : Nat → Int32) (g_155 : Nat → Int32) (g_156 : Nat → Int32) (g_157 : Nat → Int32) (g_158 : Nat → Int32) (g_159 : Nat → Int32) (v_160 : Int32) (v_161 : Int32) (v_162 : Int32) (v_163 : Int32) (v_164 : Int32) (v_165 : Int32) (g_166 : Nat → Int32) : F_Ho_readAll_L29a t_length c_tape nw2_3 (n9 + 1) v_133 v_134 v_135 v_136 v_137 v_138 v_139 v_140 v_141 v_142 v_143 v_144 v_145 g_146 g_147 g_148 g_149 g_150 g_151 g_152 g_153 g_154 g_155 g_156 g_157 g_158 g_159 v_160 v_161 v_162 v_163 v_164 v_165 g_166 = (
    if 900 ≤ v_133 then (
      if v_144 = 0 then (
        ((1 : Int32), v_134, v_135, v_136, v_137, v_138, v_139, v_140, v_141, v_142, v_143, v_144, v_145, g_146, g_147, g_148, g_149, v_160, v_161, nw2_3, v_162, v_163, v_164, v_165, g_150, g_151, g_152, g_153, g_154, g_155, g_156, g_157, g_158, g_166, g_159)) else (
        ((0 : Int32), v_134, v_135, v_136, v_137, v_138, v_139, v_140, v_141, v_142, v_143, v_144, v_145, g_146, g_147, g_148, g_149, v_160, v_161, nw2_3, v_162, v_163, v_164, v_165, g_150, g_151, g_152, g_153, g_154, g_155, g_156, g_157, g_158, g_166, g_159))) else (
      let w_231 := F_Te_goesOn v_138 v_144
      let r_229 : Int32 := w_231
      if r_229 = 0 then (
        if v_144 = 0 then (
          ((1 : Int32), v_134, v_135, v_136, v_137, v_138, v_139, v_140, v_141, v_142, v_143, v_144, v_145, g_146, g_147, g_148, g_149, v_160, v_161, nw2_3, v_162, v_163, v_164, v_165, g_150, g_151, g_152, g_153, g_154, g_155, g_156, g_157, g_158, g_166, g_159)) else (
          ((0 : Int32), v_134, v_135, v_136, v_137, v_138, v_139, v_140, v_141, v_142, v_143, v_144, v_145, g_146, g_147, g_148, g_149, v_160, v_161, nw2_3, v_162, v_163, v_164, v_165, g_150, g_151, g_152, g_153, g_154, g_155, g_156, g_157, g_158, g_166, g_159))) else (
        let w_275 := F_Ho_readPart v_134 v_135 v_136 v_137 t_length v_138 v_139 v_140 v_141 v_142 v_143 v_144 v_145 c_tape g_146 g_147 g_148 g_149 v_160 v_161 v_162 v_163 v_164 v_165 g_150 g_151 g_152 g_153 g_154 g_155 g_156 g_157 g_158 g_166 g_159
        let r_273 : Int32 := w_275.1
        let nw0_240 : Int32 := w_275.2.1
        let nw1_241 : Int32 := w_275.2.2.1
        let nw2_242 : Int32 := w_275.2.2.2.1
        let nw3_243 : Int32 := w_275.2.2.2.2.1
        let nw4_244 : Int32 := w_275.2.2.2.2.2.1
        let nw5_245 : Int32 := w_275.2.2.2.2.2.2.1
        let nw6_246 : Int32 := w_275.2.2.2.2.2.2.2.1
        let nw7_247 : Int64 := w_275.2.2.2.2.2.2.2.2.1
        let nw8_248 : Int32 := w_275.2.2.2.2.2.2.2.2.2.1
        let nw9_249 : Nat → Int32 := w_275.2.2.2.2.2.2.2.2.2.2.1
        let nw10_250 : Int32 := w_275.2.2.2.2.2.2.2.2.2.2.2.1
        let nw11_251 : Int32 := w_275.2.2.2.2.2.2.2.2.2.2.2.2.1
        let nw12_252 : Int32 := w_275.2.2.2.2.2.2.2.2.2.2.2.2.2.1
        let nw13_253 : Nat → Int32 := w_275.2.2.2.2.2.2.2.2.2.2.2.2.2.2.1
        let nw14_254 : Nat → Int64 := w_275.2.2.2.2.2.2.2.2.2.2.2.2.2.2.2.1
        let nw15_255 : Int32 := w_275.2.2.2.2.2.2.2.2.2.2.2.2.2.2.2.2.1
        let nw16_256 : Nat → Int32 := w_275.2.2.2.2.2.2.2.2.2.2.2.2.2.2.2.2.2.1
        let nw17_257 : Nat → Int32 := w_275.2.2.2.2.2.2.2.2.2.2.2.2.2.2.2.2.2.2.1
        let nw18_258 : Int32 := w_275.2.2.2.2.2.2.2.2.2.2.2.2.2.2.2.2.2.2.2.1
        let nw19_259 : Nat → Int64 := w_275.2.2.2.2.2.2.2.2.2.2.2.2.2.2.2.2.2.2.2.2.1
        let nw20_260 : Int32 := w_275.2.2.2.2.2.2.2.2.2.2.2.2.2.2.2.2.2.2.2.2.2.1
        let nw21_261 : Nat → Int32 := w_275.2.2.2.2.2.2.2.2.2.2.2.2.2.2.2.2.2.2.2.2.2.2.1
        let nw22_262 : Nat → Int32 := w_275.2.2.2.2.2.2.2.2.2.2.2.2.2.2.2.2.2.2.2.2.2.2.2.1
        let nw23_263 : Nat → Int64 := w_275.2.2.2.2.2.2.2.2.2.2.2.2.2.2.2.2.2.2.2.2.2.2.2.2.1
        let nw24_264 : Int32 := w_275.2.2.2.2.2.2.2.2.2.2.2.2.2.2.2.2.2.2.2.2.2.2.2.2.2.1
        let nw25_265 : Nat → Int32 := w_275.2.2.2.2.2.2.2.2.2.2.2.2.2.2.2.2.2.2.2.2.2.2.2.2.2.2.1
        let nw26_266 : Int32 := w_275.2.2.2.2.2.2.2.2.2.2.2.2.2.2.2.2.2.2.2.2.2.2.2.2.2.2.2.1
        let nw27_267 : Nat → Int32 := w_275.2.2.2.2.2.2.2.2.2.2.2.2.2.2.2.2.2.2.2.2.2.2.2.2.2.2.2.2.1
        let nw28_268 : Nat → Int64 := w_275.2.2.2.2.2.2.2.2.2.2.2.2.2.2.2.2.2.2.2.2.2.2.2.2.2.2.2.2.2.1
        let nw29_269 : Int32 := w_275.2.2.2.2.2.2.2.2.2.2.2.2.2.2.2.2.2.2.2.2.2.2.2.2.2.2.2.2.2.2.1
        let nw30_270 : Nat → Int64 := w_275.2.2.2.2.2.2.2.2.2.2.2.2.2.2.2.2.2.2.2.2.2.2.2.2.2.2.2.2.2.2.2.1
        let nw31_271 : Nat → Int32 := w_275.2.2.2.2.2.2.2.2.2.2.2.2.2.2.2.2.2.2.2.2.2.2.2.2.2.2.2.2.2.2.2.2.1
        let nw32_272 : Nat → Int32 := w_275.2.2.2.2.2.2.2.2.2.2.2.2.2.2.2.2.2.2.2.2.2.2.2.2.2.2.2.2.2.2.2.2.2
        (F_Ho_readAll_L29a t_length c_tape nw2_3 n9) (v_133 + 1) nw18_258 nw26_266 nw12_252 nw10_250 nw2_242 nw3_243 nw4_244 nw5_245 nw6_246 nw7_247 nw0_240 nw1_241 nw28_268 nw23_263 nw19_259 nw14_254 nw30_270 nw31_271 nw32_272 nw27_267 nw25_265 nw21_261 nw22_262 nw16_256 nw17_257 nw9_249 nw29_269 nw24_264 nw20_260 nw15_255 nw11_251 nw8_248 nw13_253))) := rfl
noncomputable def F_Ho_readAll (t_length : Int32) (t_kind : Int32) (t_start : Int32) (t_end : Int32) (t_number : Int32) (t_sign : Int32) (t_letters : Int64) (t_fault : Int32) (t_faultPlace : Int32) (c_tape : Nat → Int32) (c_n_f : Nat → Int64) (c_n_k : Nat → Int64) (c_n_r : Nat → Int64) (c_n_d : Nat → Int64) (c_hf_featureNames : Nat → Int64) (c_hf_steps : Nat → Int32) (c_hf_turnedFeatures : Nat → Int32) (c_hf_sixteenths : Nat → Int32) (c_hf_keySteps : Nat → Int32) (c_hf_on : Nat → Int32) (c_hf_onMany : Nat → Int32) (c_hf_wanted : Nat → Int32) (c_hf_openers : Nat → Int32) (c_hf_seconds : Nat → Int32) (c_hf_roundDoors : Nat → Int32) : Int32 × Int32 × Int32 × Int32 × Int32 × Int32 × Int32 × Int32 × Int32 × Int32 × Int64 × Int32 × Int32 × (Nat → Int64) × (Nat → Int64) × (Nat → Int64) × (Nat → Int64) × Int32 × Int32 × Int32 × Int32 × Int32 × Int32 × Int32 × (Nat → Int64) × (Nat → Int32) × (Nat → Int32) × (Nat → Int32) × (Nat → Int32) × (Nat → Int32) × (Nat → Int32) × (Nat → Int32) × (Nat → Int32) × (Nat → Int32) × (Nat → Int32) :=
  let w_11 := F_Ho_clear c_hf_seconds
  let nw0_1 : Int32 := w_11.1
  let nw1_2 : Int32 := w_11.2.1
  let nw2_3 : Int32 := w_11.2.2.1
  let nw3_4 : Int32 := w_11.2.2.2.1
  let nw4_5 : Int32 := w_11.2.2.2.2.1
  let nw5_6 : Int32 := w_11.2.2.2.2.2.1
  let nw6_7 : Int32 := w_11.2.2.2.2.2.2.1
  let nw7_8 : Nat → Int32 := w_11.2.2.2.2.2.2.2
  F_Ho_readAll_L29a t_length c_tape nw2_3 ((2147483647 - (0 : Int32).toInt).toNat + 1) (0 : Int32) (0 : Int32) (0 : Int32) (0 : Int32) (0 : Int32) t_kind t_start t_end t_number t_sign t_letters t_fault t_faultPlace c_n_f c_n_k c_n_r c_n_d c_hf_featureNames c_hf_steps c_hf_turnedFeatures c_hf_sixteenths c_hf_keySteps c_hf_on c_hf_onMany c_hf_wanted c_hf_openers c_hf_roundDoors nw0_1 nw1_2 nw3_4 nw4_5 nw5_6 nw6_7 nw7_8
theorem F_Ho_readAll_s (t_length : Int32) (t_kind : Int32) (t_start : Int32) (t_end : Int32) (t_number : Int32) (t_sign : Int32) (t_letters : Int64) (t_fault : Int32) (t_faultPlace : Int32) (c_tape : Nat → Int32) (c_n_f : Nat → Int64) (c_n_k : Nat → Int64) (c_n_r : Nat → Int64) (c_n_d : Nat → Int64) (c_hf_featureNames : Nat → Int64) (c_hf_steps : Nat → Int32) (c_hf_turnedFeatures : Nat → Int32) (c_hf_sixteenths : Nat → Int32) (c_hf_keySteps : Nat → Int32) (c_hf_on : Nat → Int32) (c_hf_onMany : Nat → Int32) (c_hf_wanted : Nat → Int32) (c_hf_openers : Nat → Int32) (c_hf_seconds : Nat → Int32) (c_hf_roundDoors : Nat → Int32) : F_Ho_readAll t_length t_kind t_start t_end t_number t_sign t_letters t_fault t_faultPlace c_tape c_n_f c_n_k c_n_r c_n_d c_hf_featureNames c_hf_steps c_hf_turnedFeatures c_hf_sixteenths c_hf_keySteps c_hf_on c_hf_onMany c_hf_wanted c_hf_openers c_hf_seconds c_hf_roundDoors = (
  let w_11 := F_Ho_clear c_hf_seconds
  let nw0_1 : Int32 := w_11.1
  let nw1_2 : Int32 := w_11.2.1
  let nw2_3 : Int32 := w_11.2.2.1
  let nw3_4 : Int32 := w_11.2.2.2.1
  let nw4_5 : Int32 := w_11.2.2.2.2.1
  let nw5_6 : Int32 := w_11.2.2.2.2.2.1
  let nw6_7 : Int32 := w_11.2.2.2.2.2.2.1
  let nw7_8 : Nat → Int32 := w_11.2.2.2.2.2.2.2
  F_Ho_readAll_L29a t_length c_tape nw2_3 ((2147483647 - (0 : Int32).toInt).toNat + 1) (0 : Int32) (0 : Int32) (0 : Int32) (0 : Int32) (0 : Int32) t_kind t_start t_end t_number t_sign t_letters t_fault t_faultPlace c_n_f c_n_k c_n_r c_n_d c_hf_featureNames c_hf_steps c_hf_turnedFeatures c_hf_sixteenths c_hf_keySteps c_hf_on c_hf_onMany c_hf_wanted c_hf_openers c_hf_roundDoors nw0_1 nw1_2 nw3_4 nw4_5 nw5_6 nw6_7 nw7_8) := rfl
