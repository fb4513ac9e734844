noncomputable def F_Ho_readRing_L68a (t_length : Int32) (c_tape : Nat → Int32) (c_n_k : Nat → Int64) (hf_keys : Int32) (hf_rings : Int32) (nw0_25 : Nat → Int64) (nw0_29 : Int32) : Nat → Int32 → (Nat → Int32) → Int32 → Int32 → Int32 → Int32 → Int32 → Int32 → Int64 → Int32 → Int32 → (Nat → Int32) → (Int32 × Int32 × Int32 × Int32 × Int32 × Int32 × Int64 × Int32 × Int32 × (Nat → Int64) × Int32 × (Nat → Int32) × Int32 × (Nat → Int32)) := fun k9 => Nat.rec (motive := fun _ => Int32 → (Nat → Int32) → Int32 → Int32 → Int32 → Int32 → Int32 → Int32 → Int64 → Int32 → Int32 → (Nat → Int32) → (Int32 × Int32 × Int32 × Int32 × Int32 × Int32 × Int64 × Int32 × Int32 × (Nat → Int64) × Int32 × (Nat → Int32) × Int32 × (Nat → Int32))) (fun _ _ _ _ _ _ _ _ _ _ _ _ => default) (fun _ (G_L68a : Int32 → (Nat → Int32) → Int32 → Int32 → Int32 → Int32 → Int32 → Int32 → Int64 → Int32 → Int32 → (Nat → Int32) → (Int32 × Int32 × Int32 × Int32 × Int32 × Int32 × Int64 × Int32 × Int32 × (Nat → Int64) × Int32 × (Nat → Int32) × Int32 × (Nat → Int32))) => fun (v_129 : Int32) (g_130 : Nat → Int32) (v_131 : Int32) (v_132 : Int32) (v_133 : Int32) (v_134 : Int32) (v_135 : Int32) (v_136 : Int32) (v_137 : Int64) (v_138 : Int32) (v_139 : Int32) (g_140 : Nat → Int32) =>
    if 10 < v_129 then (
      let w_221 := F_Te_takeSign t_length v_132 v_133 v_134 v_135 v_136 v_137 v_138 v_139 c_tape 59
      let r_219 : Int32 := w_221.1
      let nw0_211 : Int32 := w_221.2.1
      let nw1_212 : Int32 := w_221.2.2.1
      let nw2_213 : Int32 := w_221.2.2.2.1
      let nw3_214 : Int32 := w_221.2.2.2.2.1
      let nw4_215 : Int32 := w_221.2.2.2.2.2.1
      let nw5_216 : Int64 := w_221.2.2.2.2.2.2.1
      let nw6_217 : Int32 := w_221.2.2.2.2.2.2.2.1
      let nw7_218 : Int32 := w_221.2.2.2.2.2.2.2.2
      (r_219, nw0_211, nw1_212, nw2_213, nw3_214, nw4_215, nw5_216, nw6_217, nw7_218, nw0_25, nw0_29, g_140, v_131, g_130)) else (
      let w_226 := F_Te_isSign v_132 v_136 59
      let r_224 : Int32 := w_226
      if r_224 = 0 then (
        let w_246 := F_HR_thing_k t_length v_132 v_133 v_134 v_137 v_138 v_139 c_tape c_n_k hf_keys
        let r_244 : Int32 := w_246.1
        let nw0_242 : Int32 := w_246.2.1
        let nw1_243 : Int32 := w_246.2.2
        if r_244 = (-1) then (
          ((0 : Int32), v_132, v_133, v_134, v_135, v_136, v_137, nw0_242, nw1_243, nw0_25, nw0_29, g_140, v_131, g_130)) else (
          let x_249 : Int32 := (v_131 >>> (r_244 &&& 31))
          let x_250 : Int32 := (x_249 &&& 1)
          if x_250 = 1 then (
            let w_275 := F_Te_refuse v_132 v_133 nw0_242 nw1_243 5
            let r_273 : Int32 := w_275.1
            let nw0_271 : Int32 := w_275.2.1
            let nw1_272 : Int32 := w_275.2.2
            (r_273, v_132, v_133, v_134, v_135, v_136, v_137, nw0_271, nw1_272, nw0_25, nw0_29, g_140, v_131, g_130)) else (
            let x_253 : Int32 := ((1 : Int32) <<< (r_244 &&& 31))
            let x_254 : Int32 := (v_131 ||| x_253)
            let w_259 := F_H_putOn nw0_29 g_130 g_140 r_244 hf_rings v_129
            let nw0_255 : Nat → Int32 := w_259.1
            let nw1_256 : Nat → Int32 := w_259.2
            let w_268 := F_Te_advance t_length v_134 v_135 v_136 v_137 c_tape
            let nw0_260 : Int32 := w_268.1
            let nw1_261 : Int32 := w_268.2.1
            let nw2_262 : Int32 := w_268.2.2.1
            let nw3_263 : Int32 := w_268.2.2.2.1
            let nw4_264 : Int32 := w_268.2.2.2.2.1
            let nw5_265 : Int64 := w_268.2.2.2.2.2
            G_L68a (v_129 + 1) nw0_255 x_254 nw0_260 nw1_261 nw2_262 nw4_264 nw3_263 nw5_265 nw0_242 nw1_243 nw1_256))) else (
        let w_239 := F_Te_takeSign t_length v_132 v_133 v_134 v_135 v_136 v_137 v_138 v_139 c_tape 59
        let r_237 : Int32 := w_239.1
        let nw0_229 : Int32 := w_239.2.1
        let nw1_230 : Int32 := w_239.2.2.1
        let nw2_231 : Int32 := w_239.2.2.2.1
        let nw3_232 : Int32 := w_239.2.2.2.2.1
        let nw4_233 : Int32 := w_239.2.2.2.2.2.1
        let nw5_234 : Int64 := w_239.2.2.2.2.2.2.1
        let nw6_235 : Int32 := w_239.2.2.2.2.2.2.2.1
        let nw7_236 : Int32 := w_239.2.2.2.2.2.2.2.2
        (r_237, nw0_229, nw1_230, nw2_231, nw3_232, nw4_233, nw5_234, nw6_235, nw7_236, nw0_25, nw0_29, g_140, v_131, g_130)))) k9
theorem F_Ho_readRing_L68a_s (t_length : Int32) (c_tape : Nat → Int32) (c_n_k : Nat → Int64) (hf_keys : Int32) (hf_rings : Int32) (nw0_25 : Nat → Int64) (nw0_29 : Int32) (n9 : Nat) (v_129 : Int32) (g_130 : Nat → Int32) (v_131 : Int32) (v_132 : Int32) (v_133 : Int32) (v_134 : Int32) (v_135 : Int32) (v_136 : Int32) (v_137 : Int64) (v_138 : Int32) (v_139 : Int32) (g_140 : Nat → Int32) : F_Ho_readRing_L68a t_length c_tape c_n_k hf_keys hf_rings nw0_25 nw0_29 (n9 + 1) v_129 g_130 v_131 v_132 v_133 v_134 v_135 v_136 v_137 v_138 v_139 g_140 = (
    if 10 < v_129 then (
      let w_221 := F_Te_takeSign t_length v_132 v_133 v_134 v_135 v_136 v_137 v_138 v_139 c_tape 59
      let r_219 : Int32 := w_221.1
      let nw0_211 : Int32 := w_221.2.1
      let nw1_212 : Int32 := w_221.2.2.1
      let nw2_213 : Int32 := w_221.2.2.2.1
      let nw3_214 : Int32 := w_221.2.2.2.2.1
      let nw4_215 : Int32 := w_221.2.2.2.2.2.1
      let nw5_216 : Int64 := w_221.2.2.2.2.2.2.1
      let nw6_217 : Int32 := w_221.2.2.2.2.2.2.2.1
      let nw7_218 : Int32 := w_221.2.2.2.2.2.2.2.2
      (r_219, nw0_211, nw1_212, nw2_213, nw3_214, nw4_215, nw5_216, nw6_217, nw7_218, nw0_25, nw0_29, g_140, v_131, g_130)) else (
      let w_226 := F_Te_isSign v_132 v_136 59
      let r_224 : Int32 := w_226
      if r_224 = 0 then (
        let w_246 := F_HR_thing_k t_length v_132 v_133 v_134 v_137 v_138 v_139 c_tape c_n_k hf_keys
        let r_244 : Int32 := w_246.1
        let nw0_242 : Int32 := w_246.2.1
        let nw1_243 : Int32 := w_246.2.2
        if r_244 = (-1) then (
          ((0 : Int32), v_132, v_133, v_134, v_135, v_136, v_137, nw0_242, nw1_243, nw0_25, nw0_29, g_140, v_131, g_130)) else (
          let x_249 : Int32 := (v_131 >>> (r_244 &&& 31))
          let x_250 : Int32 := (x_249 &&& 1)
          if x_250 = 1 then (
            let w_275 := F_Te_refuse v_132 v_133 nw0_242 nw1_243 5
            let r_273 : Int32 := w_275.1
            let nw0_271 : Int32 := w_275.2.1
            let nw1_272 : Int32 := w_275.2.2
            (r_273, v_132, v_133, v_134, v_135, v_136, v_137, nw0_271, nw1_272, nw0_25, nw0_29, g_140, v_131, g_130)) else (
            let x_253 : Int32 := ((1 : Int32) <<< (r_244 &&& 31))
            let x_254 : Int32 := (v_131 ||| x_253)
            let w_259 := F_H_putOn nw0_29 g_130 g_140 r_244 hf_rings v_129
            let nw0_255 : Nat → Int32 := w_259.1
            let nw1_256 : Nat → Int32 := w_259.2
            let w_268 := F_Te_advance t_length v_134 v_135 v_136 v_137 c_tape
            let nw0_260 : Int32 := w_268.1
            let nw1_261 : Int32 := w_268.2.1
            let nw2_262 : Int32 := w_268.2.2.1
            let nw3_263 : Int32 := w_268.2.2.2.1
            let nw4_264 : Int32 := w_268.2.2.2.2.1
            let nw5_265 : Int64 := w_268.2.2.2.2.2
            (F_Ho_readRing_L68a t_length c_tape c_n_k hf_keys hf_rings nw0_25 nw0_29 n9) (v_129 + 1) nw0_255 x_254 nw0_260 nw1_261 nw2_262 nw4_264 nw3_263 nw5_265 nw0_242 nw1_243 nw1_256))) else (
        let w_239 := F_Te_takeSign t_length v_132 v_133 v_134 v_135 v_136 v_137 v_138 v_139 c_tape 59
        let r_237 : Int32 := w_239.1
        let nw0_229 : Int32 := w_239.2.1
        let nw1_230 : Int32 := w_239.2.2.1
        let nw2_231 : Int32 := w_239.2.2.2.1
        let nw3_232 : Int32 := w_239.2.2.2.2.1
        let nw4_233 : Int32 := w_239.2.2.2.2.2.1
        let nw5_234 : Int64 := w_239.2.2.2.2.2.2.1
        let nw6_235 : Int32 := w_239.2.2.2.2.2.2.2.1
        let nw7_236 : Int32 := w_239.2.2.2.2.2.2.2.2
        (r_237, nw0_229, nw1_230, nw2_231, nw3_232, nw4_233, nw5_234, nw6_235, nw7_236, nw0_25, nw0_29, g_140, v_131, g_130)))) := rfl
noncomputable def F_Ho_readRing (hr_keysOnRings : Int32) (t_length : Int32) (t_kind : Int32) (t_start : Int32) (t_end : Int32) (t_number : Int32) (t_sign : Int32) (t_letters : Int64) (t_fault : Int32) (t_faultPlace : Int32) (c_tape : Nat → Int32) (c_n_f : Nat → Int64) (c_n_k : Nat → Int64) (c_n_r : Nat → Int64) (c_n_d : Nat → Int64) (hf_features : Int32) (hf_keys : Int32) (hf_rings : Int32) (hf_doors : Int32) (c_hf_on : Nat → Int32) (c_hf_onMany : Nat → Int32) : Int32 × Int32 × Int32 × Int32 × Int32 × Int32 × Int64 × Int32 × Int32 × (Nat → Int64) × Int32 × (Nat → Int32) × Int32 × (Nat → Int32) :=
  if hf_rings < 3 then (
    let w_11 := F_Te_advance t_length t_end t_number t_sign t_letters c_tape
    let nw0_3 : Int32 := w_11.1
    let nw1_4 : Int32 := w_11.2.1
    let nw2_5 : Int32 := w_11.2.2.1
    let nw3_6 : Int32 := w_11.2.2.2.1
    let nw4_7 : Int32 := w_11.2.2.2.2.1
    let nw5_8 : Int64 := w_11.2.2.2.2.2
    let w_22 := F_Ho_takeNewName t_length nw0_3 nw1_4 nw2_5 nw4_7 nw3_6 nw5_8 t_fault t_faultPlace c_tape c_n_f c_n_k c_n_r c_n_d hf_features hf_keys hf_rings hf_doors
    let r_20 : Int64 := w_22.1
    let nw0_12 : Int32 := w_22.2.1
    let nw1_13 : Int32 := w_22.2.2.1
    let nw2_14 : Int32 := w_22.2.2.2.1
    let nw3_15 : Int32 := w_22.2.2.2.2.1
    let nw4_16 : Int32 := w_22.2.2.2.2.2.1
    let nw5_17 : Int64 := w_22.2.2.2.2.2.2.1
    let nw6_18 : Int32 := w_22.2.2.2.2.2.2.2.1
    let nw7_19 : Int32 := w_22.2.2.2.2.2.2.2.2
    if (lg_cmp r_20 0) = 0 then (
      ((0 : Int32), nw0_12, nw1_13, nw2_14, nw3_15, nw4_16, nw5_17, nw6_18, nw7_19, c_n_r, hf_rings, c_hf_onMany, hr_keysOnRings, c_hf_on)) else (
      let w_28 := F_keepLongAt_3 c_n_r hf_rings r_20
      let nw0_25 : Nat → Int64 := w_28
      let w_33 := F_H_addRing hf_rings c_hf_onMany
      let nw0_29 : Int32 := w_33.1
      let nw1_30 : Nat → Int32 := w_33.2
      F_Ho_readRing_L68a t_length c_tape c_n_k hf_keys hf_rings nw0_25 nw0_29 ((2147483647 - (0 : Int32).toInt).toNat + 1) (0 : Int32) c_hf_on hr_keysOnRings nw0_12 nw1_13 nw2_14 nw3_15 nw4_16 nw5_17 nw6_18 nw7_19 nw1_30)) else (
    let w_287 := F_Te_refuse t_kind t_start t_fault t_faultPlace 6
    let r_285 : Int32 := w_287.1
    let nw0_283 : Int32 := w_287.2.1
    let nw1_284 : Int32 := w_287.2.2
    (r_285, t_kind, t_start, t_end, t_number, t_sign, t_letters, nw0_283, nw1_284, c_n_r, hf_rings, c_hf_onMany, hr_keysOnRings, c_hf_on))
theorem F_Ho_readRing_s (hr_keysOnRings : Int32) (t_length : Int32) (t_kind : Int32) (t_start : Int32) (t_end : Int32) (t_number : Int32) (t_sign : Int32) (t_letters : Int64) (t_fault : Int32) (t_faultPlace : Int32) (c_tape : Nat → Int32) (c_n_f : Nat → Int64) (c_n_k : Nat → Int64) (c_n_r : Nat → Int64) (c_n_d : Nat → Int64) (hf_features : Int32) (hf_keys : Int32) (hf_rings : Int32) (hf_doors : Int32) (c_hf_on : Nat → Int32) (c_hf_onMany : Nat → Int32) : F_Ho_readRing hr_keysOnRings t_length t_kind t_start t_end t_number t_sign t_letters t_fault t_faultPlace c_tape c_n_f c_n_k c_n_r c_n_d hf_features hf_keys hf_rings hf_doors c_hf_on c_hf_onMany = (
  if hf_rings < 3 then (
    let w_11 := F_Te_advance t_length t_end t_number t_sign t_letters c_tape
    let nw0_3 : Int32 := w_11.1
    let nw1_4 : Int32 := w_11.2.1
    let nw2_5 : Int32 := w_11.2.2.1
    let nw3_6 : Int32 := w_11.2.2.2.1
    let nw4_7 : Int32 := w_11.2.2.2.2.1
    let nw5_8 : Int64 := w_11.2.2.2.2.2
    let w_22 := F_Ho_takeNewName t_length nw0_3 nw1_4 nw2_5 nw4_7 nw3_6 nw5_8 t_fault t_faultPlace c_tape c_n_f c_n_k c_n_r c_n_d hf_features hf_keys hf_rings hf_doors
    let r_20 : Int64 := w_22.1
    let nw0_12 : Int32 := w_22.2.1
    let nw1_13 : Int32 := w_22.2.2.1
    let nw2_14 : Int32 := w_22.2.2.2.1
    let nw3_15 : Int32 := w_22.2.2.2.2.1
    let nw4_16 : Int32 := w_22.2.2.2.2.2.1
    let nw5_17 : Int64 := w_22.2.2.2.2.2.2.1
    let nw6_18 : Int32 := w_22.2.2.2.2.2.2.2.1
    let nw7_19 : Int32 := w_22.2.2.2.2.2.2.2.2
    if (lg_cmp r_20 0) = 0 then (
      ((0 : Int32), nw0_12, nw1_13, nw2_14, nw3_15, nw4_16, nw5_17, nw6_18, nw7_19, c_n_r, hf_rings, c_hf_onMany, hr_keysOnRings, c_hf_on)) else (
      let w_28 := F_keepLongAt_3 c_n_r hf_rings r_20
      let nw0_25 : Nat → Int64 := w_28
      let w_33 := F_H_addRing hf_rings c_hf_onMany
      let nw0_29 : Int32 := w_33.1
      let nw1_30 : Nat → Int32 := w_33.2
      F_Ho_readRing_L68a t_length c_tape c_n_k hf_keys hf_rings nw0_25 nw0_29 ((2147483647 - (0 : Int32).toInt).toNat + 1) (0 : Int32) c_hf_on hr_keysOnRings nw0_12 nw1_13 nw2_14 nw3_15 nw4_16 nw5_17 nw6_18 nw7_19 nw1_30)) else (
    let w_287 := F_Te_refuse t_kind t_start t_fault t_faultPlace 6
    let r_285 : Int32 := w_287.1
    let nw0_283 : Int32 := w_287.2.1
    let nw1_284 : Int32 := w_287.2.2
    (r_285, t_kind, t_start, t_end, t_number, t_sign, t_letters, nw0_283, nw1_284, c_n_r, hf_rings, c_hf_onMany, hr_keysOnRings, c_hf_on))) := rfl
noncomputable def F_Ho_readDoor_L113a (t_length : Int32) (c_tape : Nat → Int32) (c_n_k : Nat → Int64) (hf_keys : Int32) (hf_doors : Int32) (nw0_68 : Nat → Int64) (nw0_72 : Int32) (nw1_73 : Nat → Int32) : Nat → Int32 → Int32 → Int32 → Int32 → Int32 → Int32 → Int64 → Int32 → Int32 → (Nat → Int32) → (Int32 × Int32 × Int32 × Int32 × Int32 × Int32 × Int64 × Int32 × Int32 × (Nat → Int64) × Int32 × (Nat → Int32) × (Nat → Int32)) := fun k9 => Nat.rec (motive := fun _ => Int32 → Int32 → Int32 → Int32 → Int32 → Int32 → Int64 → Int32 → Int32 → (Nat → Int32) → (Int32 × Int32 × Int32 × Int32 × Int32 × Int32 × Int64 × Int32 × Int32 × (Nat → Int64) × Int32 × (Nat → Int32) × (Nat → Int32))) (fun _ _ _ _ _ _ _ _ _ _ => default) (fun _ (G_L113a : Int32 → Int32 → Int32 → Int32 → Int32 → Int32 → Int64 → Int32 → Int32 → (Nat → Int32) → (Int32 × Int32 × Int32 × Int32 × Int32 × Int32 × Int64 × Int32 × Int32 × (Nat → Int64) × Int32 × (Nat → Int32) × (Nat → Int32))) => fun (v_196 : Int32) (v_197 : Int32) (v_198 : Int32) (v_199 : Int32) (v_200 : Int32) (v_201 : Int32) (v_202 : Int64) (v_203 : Int32) (v_204 : Int32) (g_205 : Nat → Int32) =>
    if 10 < v_196 then (
      let w_319 := F_Te_takeSign t_length v_197 v_198 v_199 v_200 v_201 v_202 v_203 v_204 c_tape 59
      let r_317 : Int32 := w_319.1
      let nw0_309 : Int32 := w_319.2.1
      let nw1_310 : Int32 := w_319.2.2.1
      let nw2_311 : Int32 := w_319.2.2.2.1
      let nw3_312 : Int32 := w_319.2.2.2.2.1
      let nw4_313 : Int32 := w_319.2.2.2.2.2.1
      let nw5_314 : Int64 := w_319.2.2.2.2.2.2.1
      let nw6_315 : Int32 := w_319.2.2.2.2.2.2.2.1
      let nw7_316 : Int32 := w_319.2.2.2.2.2.2.2.2
      (r_317, nw0_309, nw1_310, nw2_311, nw3_312, nw4_313, nw5_314, nw6_315, nw7_316, nw0_68, nw0_72, nw1_73, g_205)) else (
      if v_196 = 0 then (
        let w_328 := F_HR_thing_k t_length v_197 v_198 v_199 v_202 v_203 v_204 c_tape c_n_k hf_keys
        let r_326 : Int32 := w_328.1
        let nw0_324 : Int32 := w_328.2.1
        let nw1_325 : Int32 := w_328.2.2
        if r_326 = (-1) then (
          ((0 : Int32), v_197, v_198, v_199, v_200, v_201, v_202, nw0_324, nw1_325, nw0_68, nw0_72, nw1_73, g_205)) else (
          let w_333 := F_H_unlocks hf_keys nw0_72 g_205 r_326 hf_doors
          let r_331 : Int32 := w_333
          if r_331 = 0 then (
            let w_339 := F_H_addOpener nw0_72 g_205 hf_doors r_326
            let nw0_336 : Nat → Int32 := w_339
            let w_348 := F_Te_advance t_length v_199 v_200 v_201 v_202 c_tape
            let nw0_340 : Int32 := w_348.1
            let nw1_341 : Int32 := w_348.2.1
            let nw2_342 : Int32 := w_348.2.2.1
            let nw3_343 : Int32 := w_348.2.2.2.1
            let nw4_344 : Int32 := w_348.2.2.2.2.1
            let nw5_345 : Int64 := w_348.2.2.2.2.2
            G_L113a (v_196 + 1) nw0_340 nw1_341 nw2_342 nw4_344 nw3_343 nw5_345 nw0_324 nw1_325 nw0_336) else (
            let w_355 := F_Te_refuse v_197 v_198 nw0_324 nw1_325 5
            let r_353 : Int32 := w_355.1
            let nw0_351 : Int32 := w_355.2.1
            let nw1_352 : Int32 := w_355.2.2
            (r_353, v_197, v_198, v_199, v_200, v_201, v_202, nw0_351, nw1_352, nw0_68, nw0_72, nw1_73, g_205)))) else (
        let w_362 := F_Te_isSign v_197 v_201 59
        let r_360 : Int32 := w_362
        if r_360 = 0 then (
          let w_382 := F_HR_thing_k t_length v_197 v_198 v_199 v_202 v_203 v_204 c_tape c_n_k hf_keys
          let r_380 : Int32 := w_382.1
          let nw0_378 : Int32 := w_382.2.1
          let nw1_379 : Int32 := w_382.2.2
          if r_380 = (-1) then (
            ((0 : Int32), v_197, v_198, v_199, v_200, v_201, v_202, nw0_378, nw1_379, nw0_68, nw0_72, nw1_73, g_205)) else (
            let w_387 := F_H_unlocks hf_keys nw0_72 g_205 r_380 hf_doors
            let r_385 : Int32 := w_387
            if r_385 = 0 then (
              let w_393 := F_H_addOpener nw0_72 g_205 hf_doors r_380
              let nw0_390 : Nat → Int32 := w_393
              let w_402 := F_Te_advance t_length v_199 v_200 v_201 v_202 c_tape
              let nw0_394 : Int32 := w_402.1
              let nw1_395 : Int32 := w_402.2.1
              let nw2_396 : Int32 := w_402.2.2.1
              let nw3_397 : Int32 := w_402.2.2.2.1
              let nw4_398 : Int32 := w_402.2.2.2.2.1
              let nw5_399 : Int64 := w_402.2.2.2.2.2
              G_L113a (v_196 + 1) nw0_394 nw1_395 nw2_396 nw4_398 nw3_397 nw5_399 nw0_378 nw1_379 nw0_390) else (
              let w_409 := F_Te_refuse v_197 v_198 nw0_378 nw1_379 5
              let r_407 : Int32 := w_409.1
              let nw0_405 : Int32 := w_409.2.1
              let nw1_406 : Int32 := w_409.2.2
              (r_407, v_197, v_198, v_199, v_200, v_201, v_202, nw0_405, nw1_406, nw0_68, nw0_72, nw1_73, g_205)))) else (
          let w_375 := F_Te_takeSign t_length v_197 v_198 v_199 v_200 v_201 v_202 v_203 v_204 c_tape 59
          let r_373 : Int32 := w_375.1
          let nw0_365 : Int32 := w_375.2.1
          let nw1_366 : Int32 := w_375.2.2.1
          let nw2_367 : Int32 := w_375.2.2.2.1
          let nw3_368 : Int32 := w_375.2.2.2.2.1
          let nw4_369 : Int32 := w_375.2.2.2.2.2.1
          let nw5_370 : Int64 := w_375.2.2.2.2.2.2.1
          let nw6_371 : Int32 := w_375.2.2.2.2.2.2.2.1
          let nw7_372 : Int32 := w_375.2.2.2.2.2.2.2.2
          (r_373, nw0_365, nw1_366, nw2_367, nw3_368, nw4_369, nw5_370, nw6_371, nw7_372, nw0_68, nw0_72, nw1_73, g_205))))) k9
theorem F_Ho_readDoor_L113a_s (t_length : Int32) (c_tape : Nat → Int32) (c_n_k : Nat → Int64) (hf_keys : Int32) (hf_doors : Int32) (nw0_68 : Nat → Int64) (nw0_72 : Int32) (nw1_73 : Nat → Int32) (n9 : Nat) (v_196 : Int32) (v_197 : Int32) (v_198 : Int32) (v_199 : Int32) (v_200 : Int32) (v_201 : Int32) (v_202 : Int64) (v_203 : Int32) (v_204 : Int32) (g_205 : Nat → Int32) : F_Ho_readDoor_L113a t_length c_tape c_n_k hf_keys hf_doors nw0_68 nw0_72 nw1_73 (n9 + 1) v_196 v_197 v_198 v_199 v_200 v_201 v_202 v_203 v_204 g_205 = (
    if 10 < v_196 then (
      let w_319 := F_Te_takeSign t_length v_197 v_198 v_199 v_200 v_201 v_202 v_203 v_204 c_tape 59
      let r_317 : Int32 := w_319.1
      let nw0_309 : Int32 := w_319.2.1
      let nw1_310 : Int32 := w_319.2.2.1
      let nw2_311 : Int32 := w_319.2.2.2.1
      let nw3_312 : Int32 := w_319.2.2.2.2.1
      let nw4_313 : Int32 := w_319.2.2.2.2.2.1
      let nw5_314 : Int64 := w_319.2.2.2.2.2.2.1
      let nw6_315 : Int32 := w_319.2.2.2.2.2.2.2.1
      let nw7_316 : Int32 := w_319.2.2.2.2.2.2.2.2
      (r_317, nw0_309, nw1_310, nw2_311, nw3_312, nw4_313, nw5_314, nw6_315, nw7_316, nw0_68, nw0_72, nw1_73, g_205)) else (
      if v_196 = 0 then (
        let w_328 := F_HR_thing_k t_length v_197 v_198 v_199 v_202 v_203 v_204 c_tape c_n_k hf_keys
        let r_326 : Int32 := w_328.1
        let nw0_324 : Int32 := w_328.2.1
        let nw1_325 : Int32 := w_328.2.2
        if r_326 = (-1) then (
          ((0 : Int32), v_197, v_198, v_199, v_200, v_201, v_202, nw0_324, nw1_325, nw0_68, nw0_72, nw1_73, g_205)) else (
          let w_333 := F_H_unlocks hf_keys nw0_72 g_205 r_326 hf_doors
          let r_331 : Int32 := w_333
          if r_331 = 0 then (
            let w_339 := F_H_addOpener nw0_72 g_205 hf_doors r_326
            let nw0_336 : Nat → Int32 := w_339
            let w_348 := F_Te_advance t_length v_199 v_200 v_201 v_202 c_tape
            let nw0_340 : Int32 := w_348.1
            let nw1_341 : Int32 := w_348.2.1
            let nw2_342 : Int32 := w_348.2.2.1
            let nw3_343 : Int32 := w_348.2.2.2.1
            let nw4_344 : Int32 := w_348.2.2.2.2.1
            let nw5_345 : Int64 := w_348.2.2.2.2.2
            (F_Ho_readDoor_L113a t_length c_tape c_n_k hf_keys hf_doors nw0_68 nw0_72 nw1_73 n9) (v_196 + 1) nw0_340 nw1_341 nw2_342 nw4_344 nw3_343 nw5_345 nw0_324 nw1_325 nw0_336) else (
            let w_355 := F_Te_refuse v_197 v_198 nw0_324 nw1_325 5
            let r_353 : Int32 := w_355.1
            let nw0_351 : Int32 := w_355.2.1
            let nw1_352 : Int32 := w_355.2.2
            (r_353, v_197, v_198, v_199, v_200, v_201, v_202, nw0_351, nw1_352, nw0_68, nw0_72, nw1_73, g_205)))) else (
        let w_362 := F_Te_isSign v_197 v_201 59
        let r_360 : Int32 := w_362
        if r_360 = 0 then (
          let w_382 := F_HR_thing_k t_length v_197 v_198 v_199 v_202 v_203 v_204 c_tape c_n_k hf_keys
          let r_380 : Int32 := w_382.1
          let nw0_378 : Int32 := w_382.2.1
          let nw1_379 : Int32 := w_382.2.2
          if r_380 = (-1) then (
            ((0 : Int32), v_197, v_198, v_199, v_200, v_201, v_202, nw0_378, nw1_379, nw0_68, nw0_72, nw1_73, g_205)) else (
            let w_387 := F_H_unlocks hf_keys nw0_72 g_205 r_380 hf_doors
            let r_385 : Int32 := w_387
            if r_385 = 0 then (
              let w_393 := F_H_addOpener nw0_72 g_205 hf_doors r_380
              let nw0_390 : Nat → Int32 := w_393
              let w_402 := F_Te_advance t_length v_199 v_200 v_201 v_202 c_tape
              let nw0_394 : Int32 := w_402.1
              let nw1_395 : Int32 := w_402.2.1
              let nw2_396 : Int32 := w_402.2.2.1
              let nw3_397 : Int32 := w_402.2.2.2.1
              let nw4_398 : Int32 := w_402.2.2.2.2.1
              let nw5_399 : Int64 := w_402.2.2.2.2.2
              (F_Ho_readDoor_L113a t_length c_tape c_n_k hf_keys hf_doors nw0_68 nw0_72 nw1_73 n9) (v_196 + 1) nw0_394 nw1_395 nw2_396 nw4_398 nw3_397 nw5_399 nw0_378 nw1_379 nw0_390) else (
              let w_409 := F_Te_refuse v_197 v_198 nw0_378 nw1_379 5
              let r_407 : Int32 := w_409.1
              let nw0_405 : Int32 := w_409.2.1
              let nw1_406 : Int32 := w_409.2.2
              (r_407, v_197, v_198, v_199, v_200, v_201, v_202, nw0_405, nw1_406, nw0_68, nw0_72, nw1_73, g_205)))) else (
          let w_375 := F_Te_takeSign t_length v_197 v_198 v_199 v_200 v_201 v_202 v_203 v_204 c_tape 59
          let r_373 : Int32 := w_375.1
          let nw0_365 : Int32 := w_375.2.1
          let nw1_366 : Int32 := w_375.2.2.1
          let nw2_367 : Int32 := w_375.2.2.2.1
          let nw3_368 : Int32 := w_375.2.2.2.2.1
          let nw4_369 : Int32 := w_375.2.2.2.2.2.1
          let nw5_370 : Int64 := w_375.2.2.2.2.2.2.1
          let nw6_371 : Int32 := w_375.2.2.2.2.2.2.2.1
          let nw7_372 : Int32 := w_375.2.2.2.2.2.2.2.2
          (r_373, nw0_365, nw1_366, nw2_367, nw3_368, nw4_369, nw5_370, nw6_371, nw7_372, nw0_68, nw0_72, nw1_73, g_205))))) := rfl
noncomputable def F_Ho_readDoor (t_length : Int32) (t_kind : Int32) (t_start : Int32) (t_end : Int32) (t_number : Int32) (t_sign : Int32) (t_letters : Int64) (t_fault : Int32) (t_faultPlace : Int32) (c_tape : Nat → Int32) (c_n_f : Nat → Int64) (c_n_k : Nat → Int64) (c_n_r : Nat → Int64) (c_n_d : Nat → Int64) (hf_features : Int32) (hf_keys : Int32) (hf_rings : Int32) (hf_doors : Int32) (c_hf_wanted : Nat → Int32) (c_hf_openers : Nat → Int32) : Int32 × Int32 × Int32 × Int32 × Int32 × Int32 × Int64 × Int32 × Int32 × (Nat → Int64) × Int32 × (Nat → Int32) × (Nat → Int32) :=
  if hf_doors < 5 then (
    let w_11 := F_Te_advance t_length t_end t_number t_sign t_letters c_tape
    let nw0_3 : Int32 := w_11.1
    let nw1_4 : Int32 := w_11.2.1
    let nw2_5 : Int32 := w_11.2.2.1
    let nw3_6 : Int32 := w_11.2.2.2.1
    let nw4_7 : Int32 := w_11.2.2.2.2.1
    let nw5_8 : Int64 := w_11.2.2.2.2.2
    let w_22 := F_Ho_takeNewName t_length nw0_3 nw1_4 nw2_5 nw4_7 nw3_6 nw5_8 t_fault t_faultPlace c_tape c_n_f c_n_k c_n_r c_n_d hf_features hf_keys hf_rings hf_doors
    let r_20 : Int64 := w_22.1
    let nw0_12 : Int32 := w_22.2.1
    let nw1_13 : Int32 := w_22.2.2.1
    let nw2_14 : Int32 := w_22.2.2.2.1
    let nw3_15 : Int32 := w_22.2.2.2.2.1
    let nw4_16 : Int32 := w_22.2.2.2.2.2.1
    let nw5_17 : Int64 := w_22.2.2.2.2.2.2.1
    let nw6_18 : Int32 := w_22.2.2.2.2.2.2.2.1
    let nw7_19 : Int32 := w_22.2.2.2.2.2.2.2.2
    if (lg_cmp r_20 0) = 0 then (
      ((0 : Int32), nw0_12, nw1_13, nw2_14, nw3_15, nw4_16, nw5_17, nw6_18, nw7_19, c_n_d, hf_doors, c_hf_wanted, c_hf_openers)) else (
      let w_37 := F_Te_takeWord t_length nw0_12 nw1_13 nw2_14 nw3_15 nw4_16 nw5_17 nw6_18 nw7_19 c_tape 22
      let r_35 : Int32 := w_37.1
      let nw0_27 : Int32 := w_37.2.1
      let nw1_28 : Int32 := w_37.2.2.1
      let nw2_29 : Int32 := w_37.2.2.2.1
      let nw3_30 : Int32 := w_37.2.2.2.2.1
      let nw4_31 : Int32 := w_37.2.2.2.2.2.1
      let nw5_32 : Int64 := w_37.2.2.2.2.2.2.1
      let nw6_33 : Int32 := w_37.2.2.2.2.2.2.2.1
      let nw7_34 : Int32 := w_37.2.2.2.2.2.2.2.2
      if r_35 = 0 then (
        ((0 : Int32), nw0_27, nw1_28, nw2_29, nw3_30, nw4_31, nw5_32, nw6_33, nw7_34, c_n_d, hf_doors, c_hf_wanted, c_hf_openers)) else (
        let w_50 := F_Te_takeNumber t_length nw0_27 nw1_28 nw2_29 nw3_30 nw4_31 nw5_32 nw6_33 nw7_34 c_tape 0 99
        let r_48 : Int32 := w_50.1
        let nw0_40 : Int32 := w_50.2.1
        let nw1_41 : Int32 := w_50.2.2.1
        let nw2_42 : Int32 := w_50.2.2.2.1
        let nw3_43 : Int32 := w_50.2.2.2.2.1
        let nw4_44 : Int32 := w_50.2.2.2.2.2.1
        let nw5_45 : Int32 := w_50.2.2.2.2.2.2.1
        let nw6_46 : Int32 := w_50.2.2.2.2.2.2.2.1
        let nw7_47 : Int64 := w_50.2.2.2.2.2.2.2.2
        if r_48 = (-1) then (
          ((0 : Int32), nw2_42, nw3_43, nw4_44, nw5_45, nw6_46, nw7_47, nw0_40, nw1_41, c_n_d, hf_doors, c_hf_wanted, c_hf_openers)) else (
          let w_65 := F_Te_takeWord t_length nw2_42 nw3_43 nw4_44 nw5_45 nw6_46 nw7_47 nw0_40 nw1_41 c_tape 23
          let r_63 : Int32 := w_65.1
          let nw0_55 : Int32 := w_65.2.1
          let nw1_56 : Int32 := w_65.2.2.1
          let nw2_57 : Int32 := w_65.2.2.2.1
          let nw3_58 : Int32 := w_65.2.2.2.2.1
          let nw4_59 : Int32 := w_65.2.2.2.2.2.1
          let nw5_60 : Int64 := w_65.2.2.2.2.2.2.1
          let nw6_61 : Int32 := w_65.2.2.2.2.2.2.2.1
          let nw7_62 : Int32 := w_65.2.2.2.2.2.2.2.2
          if r_63 = 0 then (
            ((0 : Int32), nw0_55, nw1_56, nw2_57, nw3_58, nw4_59, nw5_60, nw6_61, nw7_62, c_n_d, hf_doors, c_hf_wanted, c_hf_openers)) else (
            let w_71 := F_keepLongAt_5 c_n_d hf_doors r_20
            let nw0_68 : Nat → Int64 := w_71
            let w_77 := F_H_addDoor hf_doors c_hf_wanted c_hf_openers r_48
            let nw0_72 : Int32 := w_77.1
            let nw1_73 : Nat → Int32 := w_77.2.1
            let nw2_74 : Nat → Int32 := w_77.2.2
            F_Ho_readDoor_L113a t_length c_tape c_n_k hf_keys hf_doors nw0_68 nw0_72 nw1_73 ((2147483647 - (0 : Int32).toInt).toNat + 1) (0 : Int32) nw0_55 nw1_56 nw2_57 nw3_58 nw4_59 nw5_60 nw6_61 nw7_62 nw2_74))))) else (
    let w_423 := F_Te_refuse t_kind t_start t_fault t_faultPlace 6
    let r_421 : Int32 := w_423.1
    let nw0_419 : Int32 := w_423.2.1
    let nw1_420 : Int32 := w_423.2.2
    (r_421, t_kind, t_start, t_end, t_number, t_sign, t_letters, nw0_419, nw1_420, c_n_d, hf_doors, c_hf_wanted, c_hf_openers))
theorem F_Ho_readDoor_s (t_length : Int32) (t_kind : Int32) (t_start : Int32) (t_end : Int32) (t_number : Int32) (t_sign : Int32) (t_letters : Int64) (t_fault : Int32) (t_faultPlace : Int32) (c_tape : Nat → Int32) (c_n_f : Nat → Int64) (c_n_k : Nat → Int64) (c_n_r : Nat → Int64) (c_n_d : Nat → Int64) (hf_features : Int32) (hf_keys : Int32) (hf_rings : Int32) (hf_doors : Int32) (c_hf_wanted : Nat → Int32) (c_hf_openers : Nat → Int32) : F_Ho_readDoor t_length t_kind t_start t_end t_number t_sign t_letters t_fault t_faultPlace c_tape c_n_f c_n_k c_n_r c_n_d hf_features hf_keys hf_rings hf_doors c_hf_wanted c_hf_openers = (
  if hf_doors < 5 then (
    let w_11 := F_Te_advance t_length t_end t_number t_sign t_letters c_tape
    let nw0_3 : Int32 := w_11.1
    let nw1_4 : Int32 := w_11.2.1
    let nw2_5 : Int32 := w_11.2.2.1
    let nw3_6 : Int32 := w_11.2.2.2.1
    let nw4_7 : Int32 := w_11.2.2.2.2.1
    let nw5_8 : Int64 := w_11.2.2.2.2.2
    let w_22 := F_Ho_takeNewName t_length nw0_3 nw1_4 nw2_5 nw4_7 nw3_6 nw5_8 t_fault t_faultPlace c_tape c_n_f c_n_k c_n_r c_n_d hf_features hf_keys hf_rings hf_doors
    let r_20 : Int64 := w_22.1
    let nw0_12 : Int32 := w_22.2.1
    let nw1_13 : Int32 := w_22.2.2.1
    let nw2_14 : Int32 := w_22.2.2.2.1
    let nw3_15 : Int32 := w_22.2.2.2.2.1
    let nw4_16 : Int32 := w_22.2.2.2.2.2.1
    let nw5_17 : Int64 := w_22.2.2.2.2.2.2.1
    let nw6_18 : Int32 := w_22.2.2.2.2.2.2.2.1
    let nw7_19 : Int32 := w_22.2.2.2.2.2.2.2.2
    if (lg_cmp r_20 0) = 0 then (
      ((0 : Int32), nw0_12, nw1_13, nw2_14, nw3_15, nw4_16, nw5_17, nw6_18, nw7_19, c_n_d, hf_doors, c_hf_wanted, c_hf_openers)) else (
      let w_37 := F_Te_takeWord t_length nw0_12 nw1_13 nw2_14 nw3_15 nw4_16 nw5_17 nw6_18 nw7_19 c_tape 22
      let r_35 : Int32 := w_37.1
      let nw0_27 : Int32 := w_37.2.1
      let nw1_28 : Int32 := w_37.2.2.1
      let nw2_29 : Int32 := w_37.2.2.2.1
      let nw3_30 : Int32 := w_37.2.2.2.2.1
      let nw4_31 : Int32 := w_37.2.2.2.2.2.1
      let nw5_32 : Int64 := w_37.2.2.2.2.2.2.1
      let nw6_33 : Int32 := w_37.2.2.2.2.2.2.2.1
      let nw7_34 : Int32 := w_37.2.2.2.2.2.2.2.2
      if r_35 = 0 then (
        ((0 : Int32), nw0_27, nw1_28, nw2_29, nw3_30, nw4_31, nw5_32, nw6_33, nw7_34, c_n_d, hf_doors, c_hf_wanted, c_hf_openers)) else (
        let w_50 := F_Te_takeNumber t_length nw0_27 nw1_28 nw2_29 nw3_30 nw4_31 nw5_32 nw6_33 nw7_34 c_tape 0 99
        let r_48 : Int32 := w_50.1
        let nw0_40 : Int32 := w_50.2.1
        let nw1_41 : Int32 := w_50.2.2.1
        let nw2_42 : Int32 := w_50.2.2.2.1
        let nw3_43 : Int32 := w_50.2.2.2.2.1
        let nw4_44 : Int32 := w_50.2.2.2.2.2.1
        let nw5_45 : Int32 := w_50.2.2.2.2.2.2.1
        let nw6_46 : Int32 := w_50.2.2.2.2.2.2.2.1
        let nw7_47 : Int64 := w_50.2.2.2.2.2.2.2.2
        if r_48 = (-1) then (
          ((0 : Int32), nw2_42, nw3_43, nw4_44, nw5_45, nw6_46, nw7_47, nw0_40, nw1_41, c_n_d, hf_doors, c_hf_wanted, c_hf_openers)) else (
          let w_65 := F_Te_takeWord t_length nw2_42 nw3_43 nw4_44 nw5_45 nw6_46 nw7_47 nw0_40 nw1_41 c_tape 23
          let r_63 : Int32 := w_65.1
          let nw0_55 : Int32 := w_65.2.1
          let nw1_56 : Int32 := w_65.2.2.1
          let nw2_57 : Int32 := w_65.2.2.2.1
          let nw3_58 : Int32 := w_65.2.2.2.2.1
          let nw4_59 : Int32 := w_65.2.2.2.2.2.1
          let nw5_60 : Int64 := w_65.2.2.2.2.2.2.1
          let nw6_61 : Int32 := w_65.2.2.2.2.2.2.2.1
          let nw7_62 : Int32 := w_65.2.2.2.2.2.2.2.2
          if r_63 = 0 then (
            ((0 : Int32), nw0_55, nw1_56, nw2_57, nw3_58, nw4_59, nw5_60, nw6_61, nw7_62, c_n_d, hf_doors, c_hf_wanted, c_hf_openers)) else (
            let w_71 := F_keepLongAt_5 c_n_d hf_doors r_20
            let nw0_68 : Nat → Int64 := w_71
            let w_77 := F_H_addDoor hf_doors c_hf_wanted c_hf_openers r_48
            let nw0_72 : Int32 := w_77.1
            let nw1_73 : Nat → Int32 := w_77.2.1
            let nw2_74 : Nat → Int32 := w_77.2.2
            F_Ho_readDoor_L113a t_length c_tape c_n_k hf_keys hf_doors nw0_68 nw0_72 nw1_73 ((2147483647 - (0 : Int32).toInt).toNat + 1) (0 : Int32) nw0_55 nw1_56 nw2_57 nw3_58 nw4_59 nw5_60 nw6_61 nw7_62 nw2_74))))) else (
    let w_423 := F_Te_refuse t_kind t_start t_fault t_faultPlace 6
    let r_421 : Int32 := w_423.1
    let nw0_419 : Int32 := w_423.2.1
    let nw1_420 : Int32 := w_423.2.2
    (r_421, t_kind, t_start, t_end, t_number, t_sign, t_letters, nw0_419, nw1_420, c_n_d, hf_doors, c_hf_wanted, c_hf_openers))) := rfl
noncomputable def F_Ho_readTurned (hr_turnedTold : Int32) (t_length : Int32) (t_kind : Int32) (t_start : Int32) (t_end : Int32) (t_number : Int32) (t_sign : Int32) (t_letters : Int64) (t_fault : Int32) (t_faultPlace : Int32) (c_tape : Nat → Int32) (hf_turned : Int32) : Int32 × Int32 × Int32 × Int32 × Int32 × Int32 × Int32 × Int64 × Int32 × Int32 × Int32 :=
  if hr_turnedTold = 0 then (
    let w_11 := F_Te_advance t_length t_end t_number t_sign t_letters c_tape
    let nw0_3 : Int32 := w_11.1
    let nw1_4 : Int32 := w_11.2.1
    let nw2_5 : Int32 := w_11.2.2.1
    let nw3_6 : Int32 := w_11.2.2.2.1
    let nw4_7 : Int32 := w_11.2.2.2.2.1
    let nw5_8 : Int64 := w_11.2.2.2.2.2
    let w_22 := F_Te_takeNumber t_length nw0_3 nw1_4 nw2_5 nw4_7 nw3_6 nw5_8 t_fault t_faultPlace c_tape 0 16
    let r_20 : Int32 := w_22.1
    let nw0_12 : Int32 := w_22.2.1
    let nw1_13 : Int32 := w_22.2.2.1
    let nw2_14 : Int32 := w_22.2.2.2.1
    let nw3_15 : Int32 := w_22.2.2.2.2.1
    let nw4_16 : Int32 := w_22.2.2.2.2.2.1
    let nw5_17 : Int32 := w_22.2.2.2.2.2.2.1
    let nw6_18 : Int32 := w_22.2.2.2.2.2.2.2.1
    let nw7_19 : Int64 := w_22.2.2.2.2.2.2.2.2
    if r_20 = (-1) then (
      ((0 : Int32), (1 : Int32), nw2_14, nw3_15, nw4_16, nw5_17, nw6_18, nw7_19, nw0_12, nw1_13, hf_turned)) else (
      let w_35 := F_Te_takeSign t_length nw2_14 nw3_15 nw4_16 nw5_17 nw6_18 nw7_19 nw0_12 nw1_13 c_tape 59
      let r_33 : Int32 := w_35.1
      let nw0_25 : Int32 := w_35.2.1
      let nw1_26 : Int32 := w_35.2.2.1
      let nw2_27 : Int32 := w_35.2.2.2.1
      let nw3_28 : Int32 := w_35.2.2.2.2.1
      let nw4_29 : Int32 := w_35.2.2.2.2.2.1
      let nw5_30 : Int64 := w_35.2.2.2.2.2.2.1
      let nw6_31 : Int32 := w_35.2.2.2.2.2.2.2.1
      let nw7_32 : Int32 := w_35.2.2.2.2.2.2.2.2
      (r_33, (1 : Int32), nw0_25, nw1_26, nw2_27, nw3_28, nw4_29, nw5_30, nw6_31, nw7_32, r_20))) else (
    let w_44 := F_Te_refuse t_kind t_start t_fault t_faultPlace 5
    let r_42 : Int32 := w_44.1
    let nw0_40 : Int32 := w_44.2.1
    let nw1_41 : Int32 := w_44.2.2
    (r_42, hr_turnedTold, t_kind, t_start, t_end, t_number, t_sign, t_letters, nw0_40, nw1_41, hf_turned))
theorem F_Ho_readTurned_s (hr_turnedTold : Int32) (t_length : Int32) (t_kind : Int32) (t_start : Int32) (t_end : Int32) (t_number : Int32) (t_sign : Int32) (t_letters : Int64) (t_fault : Int32) (t_faultPlace : Int32) (c_tape : Nat → Int32) (hf_turned : Int32) : F_Ho_readTurned hr_turnedTold t_length t_kind t_start t_end t_number t_sign t_letters t_fault t_faultPlace c_tape hf_turned = (
  if hr_turnedTold = 0 then (
    let w_11 := F_Te_advance t_length t_end t_number t_sign t_letters c_tape
    let nw0_3 : Int32 := w_11.1
    let nw1_4 : Int32 := w_11.2.1
    let nw2_5 : Int32 := w_11.2.2.1
    let nw3_6 : Int32 := w_11.2.2.2.1
    let nw4_7 : Int32 := w_11.2.2.2.2.1
    let nw5_8 : Int64 := w_11.2.2.2.2.2
    let w_22 := F_Te_takeNumber t_length nw0_3 nw1_4 nw2_5 nw4_7 nw3_6 nw5_8 t_fault t_faultPlace c_tape 0 16
    let r_20 : Int32 := w_22.1
    let nw0_12 : Int32 := w_22.2.1
    let nw1_13 : Int32 := w_22.2.2.1
    let nw2_14 : Int32 := w_22.2.2.2.1
    let nw3_15 : Int32 := w_22.2.2.2.2.1
    let nw4_16 : Int32 := w_22.2.2.2.2.2.1
    let nw5_17 : Int32 := w_22.2.2.2.2.2.2.1
    let nw6_18 : Int32 := w_22.2.2.2.2.2.2.2.1
    let nw7_19 : Int64 := w_22.2.2.2.2.2.2.2.2
    if r_20 = (-1) then (
      ((0 : Int32), (1 : Int32), nw2_14, nw3_15, nw4_16, nw5_17, nw6_18, nw7_19, nw0_12, nw1_13, hf_turned)) else (
      let w_35 := F_Te_takeSign t_length nw2_14 nw3_15 nw4_16 nw5_17 nw6_18 nw7_19 nw0_12 nw1_13 c_tape 59
      let r_33 : Int32 := w_35.1
      let nw0_25 : Int32 := w_35.2.1
      let nw1_26 : Int32 := w_35.2.2.1
      let nw2_27 : Int32 := w_35.2.2.2.1
      let nw3_28 : Int32 := w_35.2.2.2.2.1
      let nw4_29 : Int32 := w_35.2.2.2.2.2.1
      let nw5_30 : Int64 := w_35.2.2.2.2.2.2.1
      let nw6_31 : Int32 := w_35.2.2.2.2.2.2.2.1
      let nw7_32 : Int32 := w_35.2.2.2.2.2.2.2.2
      (r_33, (1 : Int32), nw0_25, nw1_26, nw2_27, nw3_28, nw4_29, nw5_30, nw6_31, nw7_32, r_20))) else (
    let w_44 := F_Te_refuse t_kind t_start t_fault t_faultPlace 5
    let r_42 : Int32 := w_44.1
    let nw0_40 : Int32 := w_44.2.1
    let nw1_41 : Int32 := w_44.2.2
    (r_42, hr_turnedTold, t_kind, t_start, t_end, t_number, t_sign, t_letters, nw0_40, nw1_41, hf_turned))) := rfl
noncomputable def F_Ho_readRound_L28a (t_length : Int32) (c_tape : Nat → Int32) (c_n_d : Nat → Int64) (hf_doors : Int32) : Nat → Int32 → Int32 → (Nat → Int32) → Int32 → Int32 → Int32 → Int32 → Int32 → Int64 → Int32 → Int32 → (Int32 × Int32 × Int32 × Int32 × Int32 × Int32 × Int64 × Int32 × Int32 × Int32 × (Nat → Int32)) := fun k9 => Nat.rec (motive := fun _ => Int32 → Int32 → (Nat → Int32) → Int32 → Int32 → Int32 → Int32 → Int32 → Int64 → Int32 → Int32 → (Int32 × Int32 × Int32 × Int32 × Int32 × Int32 × Int64 × Int32 × Int32 × Int32 × (Nat → Int32))) (fun _ _ _ _ _ _ _ _ _ _ _ => default) (fun _ (G_L28a : Int32 → Int32 → (Nat → Int32) → Int32 → Int32 → Int32 → Int32 → Int32 → Int64 → Int32 → Int32 → (Int32 × Int32 × Int32 × Int32 × Int32 × Int32 × Int64 × Int32 × Int32 × Int32 × (Nat → Int32))) => fun (v_117 : Int32) (v_118 : Int32) (g_119 : Nat → Int32) (v_120 : Int32) (v_121 : Int32) (v_122 : Int32) (v_123 : Int32) (v_124 : Int32) (v_125 : Int64) (v_126 : Int32) (v_127 : Int32) =>
    if 12 < v_117 then (
      let w_237 := F_Te_takeSign t_length v_120 v_121 v_122 v_123 v_124 v_125 v_126 v_127 c_tape 59
      let r_235 : Int32 := w_237.1
      let nw0_227 : Int32 := w_237.2.1
      let nw1_228 : Int32 := w_237.2.2.1
      let nw2_229 : Int32 := w_237.2.2.2.1
      let nw3_230 : Int32 := w_237.2.2.2.2.1
      let nw4_231 : Int32 := w_237.2.2.2.2.2.1
      let nw5_232 : Int64 := w_237.2.2.2.2.2.2.1
      let nw6_233 : Int32 := w_237.2.2.2.2.2.2.2.1
      let nw7_234 : Int32 := w_237.2.2.2.2.2.2.2.2
      (r_235, nw0_227, nw1_228, nw2_229, nw3_230, nw4_231, nw5_232, nw6_233, nw7_234, v_118, g_119)) else (
      if v_117 = 0 then (
        let w_246 := F_HR_thing_d t_length v_120 v_121 v_122 v_125 v_126 v_127 c_tape c_n_d hf_doors
        let r_244 : Int32 := w_246.1
        let nw0_242 : Int32 := w_246.2.1
        let nw1_243 : Int32 := w_246.2.2
        if r_244 = (-1) then (
          ((0 : Int32), v_120, v_121, v_122, v_123, v_124, v_125, nw0_242, nw1_243, v_118, g_119)) else (
          if v_117 < 12 then (
            let w_255 := F_H_addToRound v_118 g_119 r_244
            let nw0_251 : Int32 := w_255.1
            let nw1_252 : Nat → Int32 := w_255.2
            let w_264 := F_Te_advance t_length v_122 v_123 v_124 v_125 c_tape
            let nw0_256 : Int32 := w_264.1
            let nw1_257 : Int32 := w_264.2.1
            let nw2_258 : Int32 := w_264.2.2.1
            let nw3_259 : Int32 := w_264.2.2.2.1
            let nw4_260 : Int32 := w_264.2.2.2.2.1
            let nw5_261 : Int64 := w_264.2.2.2.2.2
            G_L28a (v_117 + 1) nw0_251 nw1_252 nw0_256 nw1_257 nw2_258 nw4_260 nw3_259 nw5_261 nw0_242 nw1_243) else (
            let w_271 := F_Te_refuse v_120 v_121 nw0_242 nw1_243 6
            let r_269 : Int32 := w_271.1
            let nw0_267 : Int32 := w_271.2.1
            let nw1_268 : Int32 := w_271.2.2
            (r_269, v_120, v_121, v_122, v_123, v_124, v_125, nw0_267, nw1_268, v_118, g_119)))) else (
        let w_278 := F_Te_isSign v_120 v_124 59
        let r_276 : Int32 := w_278
        if r_276 = 0 then (
          let w_298 := F_HR_thing_d t_length v_120 v_121 v_122 v_125 v_126 v_127 c_tape c_n_d hf_doors
          let r_296 : Int32 := w_298.1
          let nw0_294 : Int32 := w_298.2.1
          let nw1_295 : Int32 := w_298.2.2
          if r_296 = (-1) then (
            ((0 : Int32), v_120, v_121, v_122, v_123, v_124, v_125, nw0_294, nw1_295, v_118, g_119)) else (
            if v_117 < 12 then (
              let w_307 := F_H_addToRound v_118 g_119 r_296
              let nw0_303 : Int32 := w_307.1
              let nw1_304 : Nat → Int32 := w_307.2
              let w_316 := F_Te_advance t_length v_122 v_123 v_124 v_125 c_tape
              let nw0_308 : Int32 := w_316.1
              let nw1_309 : Int32 := w_316.2.1
              let nw2_310 : Int32 := w_316.2.2.1
              let nw3_311 : Int32 := w_316.2.2.2.1
              let nw4_312 : Int32 := w_316.2.2.2.2.1
              let nw5_313 : Int64 := w_316.2.2.2.2.2
              G_L28a (v_117 + 1) nw0_303 nw1_304 nw0_308 nw1_309 nw2_310 nw4_312 nw3_311 nw5_313 nw0_294 nw1_295) else (
              let w_323 := F_Te_refuse v_120 v_121 nw0_294 nw1_295 6
              let r_321 : Int32 := w_323.1
              let nw0_319 : Int32 := w_323.2.1
              let nw1_320 : Int32 := w_323.2.2
              (r_321, v_120, v_121, v_122, v_123, v_124, v_125, nw0_319, nw1_320, v_118, g_119)))) else (
          let w_291 := F_Te_takeSign t_length v_120 v_121 v_122 v_123 v_124 v_125 v_126 v_127 c_tape 59
          let r_289 : Int32 := w_291.1
          let nw0_281 : Int32 := w_291.2.1
          let nw1_282 : Int32 := w_291.2.2.1
          let nw2_283 : Int32 := w_291.2.2.2.1
          let nw3_284 : Int32 := w_291.2.2.2.2.1
          let nw4_285 : Int32 := w_291.2.2.2.2.2.1
          let nw5_286 : Int64 := w_291.2.2.2.2.2.2.1
          let nw6_287 : Int32 := w_291.2.2.2.2.2.2.2.1
          let nw7_288 : Int32 := w_291.2.2.2.2.2.2.2.2
          (r_289, nw0_281, nw1_282, nw2_283, nw3_284, nw4_285, nw5_286, nw6_287, nw7_288, v_118, g_119))))) k9
theorem F_Ho_readRound_L28a_s (t_length : Int32) (c_tape : Nat → Int32) (c_n_d : Nat → Int64) (hf_doors : Int32) (n9 : Nat) (v_117 : Int32) (v_118 : Int32) (g_119 : Nat → Int32) (v_120 : Int32) (v_121 : Int32) (v_122 : Int32) (v_123 : Int32) (v_124 : Int32) (v_125 : Int64) (v_126 : Int32) (v_127 : Int32) : F_Ho_readRound_L28a t_length c_tape c_n_d hf_doors (n9 + 1) v_117 v_118 g_119 v_120 v_121 v_122 v_123 v_124 v_125 v_126 v_127 = (
    if 12 < v_117 then (
      let w_237 := F_Te_takeSign t_length v_120 v_121 v_122 v_123 v_124 v_125 v_126 v_127 c_tape 59
      let r_235 : Int32 := w_237.1
      let nw0_227 : Int32 := w_237.2.1
      let nw1_228 : Int32 := w_237.2.2.1
      let nw2_229 : Int32 := w_237.2.2.2.1
      let nw3_230 : Int32 := w_237.2.2.2.2.1
      let nw4_231 : Int32 := w_237.2.2.2.2.2.1
      let nw5_232 : Int64 := w_237.2.2.2.2.2.2.1
      let nw6_233 : Int32 := w_237.2.2.2.2.2.2.2.1
      let nw7_234 : Int32 := w_237.2.2.2.2.2.2.2.2
      (r_235, nw0_227, nw1_228, nw2_229, nw3_230, nw4_231, nw5_232, nw6_233, nw7_234, v_118, g_119)) else (
      if v_117 = 0 then (
        let w_246 := F_HR_thing_d t_length v_120 v_121 v_122 v_125 v_126 v_127 c_tape c_n_d hf_doors
        let r_244 : Int32 := w_246.1
        let nw0_242 : Int32 := w_246.2.1
        let nw1_243 : Int32 := w_246.2.2
        if r_244 = (-1) then (
          ((0 : Int32), v_120, v_121, v_122, v_123, v_124, v_125, nw0_242, nw1_243, v_118, g_119)) else (
          if v_117 < 12 then (
            let w_255 := F_H_addToRound v_118 g_119 r_244
            let nw0_251 : Int32 := w_255.1
            let nw1_252 : Nat → Int32 := w_255.2
            let w_264 := F_Te_advance t_length v_122 v_123 v_124 v_125 c_tape
            let nw0_256 : Int32 := w_264.1
            let nw1_257 : Int32 := w_264.2.1
            let nw2_258 : Int32 := w_264.2.2.1
            let nw3_259 : Int32 := w_264.2.2.2.1
            let nw4_260 : Int32 := w_264.2.2.2.2.1
            let nw5_261 : Int64 := w_264.2.2.2.2.2
            (F_Ho_readRound_L28a t_length c_tape c_n_d hf_doors n9) (v_117 + 1) nw0_251 nw1_252 nw0_256 nw1_257 nw2_258 nw4_260 nw3_259 nw5_261 nw0_242 nw1_243) else (
            let w_271 := F_Te_refuse v_120 v_121 nw0_242 nw1_243 6
            let r_269 : Int32 := w_271.1
            let nw0_267 : Int32 := w_271.2.1
            let nw1_268 : Int32 := w_271.2.2
            (r_269, v_120, v_121, v_122, v_123, v_124, v_125, nw0_267, nw1_268, v_118, g_119)))) else (
        let w_278 := F_Te_isSign v_120 v_124 59
        let r_276 : Int32 := w_278
        if r_276 = 0 then (
          let w_298 := F_HR_thing_d t_length v_120 v_121 v_122 v_125 v_126 v_127 c_tape c_n_d hf_doors
          let r_296 : Int32 := w_298.1
          let nw0_294 : Int32 := w_298.2.1
          let nw1_295 : Int32 := w_298.2.2
          if r_296 = (-1) then (
            ((0 : Int32), v_120, v_121, v_122, v_123, v_124, v_125, nw0_294, nw1_295, v_118, g_119)) else (
            if v_117 < 12 then (
              let w_307 := F_H_addToRound v_118 g_119 r_296
              let nw0_303 : Int32 := w_307.1
              let nw1_304 : Nat → Int32 := w_307.2
              let w_316 := F_Te_advance t_length v_122 v_123 v_124 v_125 c_tape
              let nw0_308 : Int32 := w_316.1
              let nw1_309 : Int32 := w_316.2.1
              let nw2_310 : Int32 := w_316.2.2.1
              let nw3_311 : Int32 := w_316.2.2.2.1
              let nw4_312 : Int32 := w_316.2.2.2.2.1
              let nw5_313 : Int64 := w_316.2.2.2.2.2
              (F_Ho_readRound_L28a t_length c_tape c_n_d hf_doors n9) (v_117 + 1) nw0_303 nw1_304 nw0_308 nw1_309 nw2_310 nw4_312 nw3_311 nw5_313 nw0_294 nw1_295) else (
              let w_323 := F_Te_refuse v_120 v_121 nw0_294 nw1_295 6
              let r_321 : Int32 := w_323.1
              let nw0_319 : Int32 := w_323.2.1
              let nw1_320 : Int32 := w_323.2.2
              (r_321, v_120, v_121, v_122, v_123, v_124, v_125, nw0_319, nw1_320, v_118, g_119)))) else (
          let w_291 := F_Te_takeSign t_length v_120 v_121 v_122 v_123 v_124 v_125 v_126 v_127 c_tape 59
          let r_289 : Int32 := w_291.1
          let nw0_281 : Int32 := w_291.2.1
          let nw1_282 : Int32 := w_291.2.2.1
          let nw2_283 : Int32 := w_291.2.2.2.1
          let nw3_284 : Int32 := w_291.2.2.2.2.1
          let nw4_285 : Int32 := w_291.2.2.2.2.2.1
          let nw5_286 : Int64 := w_291.2.2.2.2.2.2.1
          let nw6_287 : Int32 := w_291.2.2.2.2.2.2.2.1
          let nw7_288 : Int32 := w_291.2.2.2.2.2.2.2.2
          (r_289, nw0_281, nw1_282, nw2_283, nw3_284, nw4_285, nw5_286, nw6_287, nw7_288, v_118, g_119))))) := rfl
noncomputable def F_Ho_readRound (t_length : Int32) (t_kind : Int32) (t_start : Int32) (t_end : Int32) (t_number : Int32) (t_sign : Int32) (t_letters : Int64) (t_fault : Int32) (t_faultPlace : Int32) (c_tape : Nat → Int32) (c_n_d : Nat → Int64) (hf_doors : Int32) (hf_roundMany : Int32) (c_hf_roundDoors : Nat → Int32) : Int32 × Int32 × Int32 × Int32 × Int32 × Int32 × Int64 × Int32 × Int32 × Int32 × (Nat → Int32) :=
  if hf_roundMany ≤ 0 then (
    let w_11 := F_Te_advance t_length t_end t_number t_sign t_letters c_tape
    let nw0_3 : Int32 := w_11.1
    let nw1_4 : Int32 := w_11.2.1
    let nw2_5 : Int32 := w_11.2.2.1
    let nw3_6 : Int32 := w_11.2.2.2.1
    let nw4_7 : Int32 := w_11.2.2.2.2.1
    let nw5_8 : Int64 := w_11.2.2.2.2.2
    F_Ho_readRound_L28a t_length c_tape c_n_d hf_doors ((2147483647 - (0 : Int32).toInt).toNat + 1) (0 : Int32) hf_roundMany c_hf_roundDoors nw0_3 nw1_4 nw2_5 nw4_7 nw3_6 nw5_8 t_fault t_faultPlace) else (
    let w_333 := F_Te_refuse t_kind t_start t_fault t_faultPlace 5
    let r_331 : Int32 := w_333.1
    let nw0_329 : Int32 := w_333.2.1
    let nw1_330 : Int32 := w_333.2.2
    (r_331, t_kind, t_start, t_end, t_number, t_sign, t_letters, nw0_329, nw1_330, hf_roundMany, c_hf_roundDoors))
theorem F_Ho_readRound_s (t_length : Int32) (t_kind : Int32) (t_start : Int32) (t_end : Int32) (t_number : Int32) (t_sign : Int32) (t_letters : Int64) (t_fault : Int32) (t_faultPlace : Int32) (c_tape : Nat → Int32) (c_n_d : Nat → Int64) (hf_doors : Int32) (hf_roundMany : Int32) (c_hf_roundDoors : Nat → Int32) : F_Ho_readRound t_length t_kind t_start t_end t_number t_sign t_letters t_fault t_faultPlace c_tape c_n_d hf_doors hf_roundMany c_hf_roundDoors = (
  if hf_roundMany ≤ 0 then (
    let w_11 := F_Te_advance t_length t_end t_number t_sign t_letters c_tape
    let nw0_3 : Int32 := w_11.1
    let nw1_4 : Int32 := w_11.2.1
    let nw2_5 : Int32 := w_11.2.2.1
    let nw3_6 : Int32 := w_11.2.2.2.1
    let nw4_7 : Int32 := w_11.2.2.2.2.1
    let nw5_8 : Int64 := w_11.2.2.2.2.2
    F_Ho_readRound_L28a t_length c_tape c_n_d hf_doors ((2147483647 - (0 : Int32).toInt).toNat + 1) (0 : Int32) hf_roundMany c_hf_roundDoors nw0_3 nw1_4 nw2_5 nw4_7 nw3_6 nw5_8 t_fault t_faultPlace) else (
    let w_333 := F_Te_refuse t_kind t_start t_fault t_faultPlace 5
    let r_331 : Int32 := w_333.1
    let nw0_329 : Int32 := w_333.2.1
    let nw1_330 : Int32 := w_333.2.2
    (r_331, t_kind, t_start, t_end, t_number, t_sign, t_letters, nw0_329, nw1_330, hf_roundMany, c_hf_roundDoors))) := rfl
noncomputable def F_Ho_readSeconds_L30a (t_length : Int32) (c_tape : Nat → Int32) : Nat → Int32 → (Nat → Int32) → Int32 → Int32 → Int32 → Int32 → Int32 → Int64 → Int32 → Int32 → (Int32 × Int32 × Int32 × Int32 × Int32 × Int32 × Int32 × Int64 × Int32 × Int32 × (Nat → Int32)) := fun k9 => Nat.rec (motive := fun _ => Int32 → (Nat → Int32) → Int32 → Int32 → Int32 → Int32 → Int32 → Int64 → Int32 → Int32 → (Int32 × Int32 × Int32 × Int32 × Int32 × Int32 × Int32 × Int64 × Int32 × Int32 × (Nat → Int32))) (fun _ _ _ _ _ _ _ _ _ _ => default) (fun _ (G_L30a : Int32 → (Nat → Int32) → Int32 → Int32 → Int32 → Int32 → Int32 → Int64 → Int32 → Int32 → (Int32 × Int32 × Int32 × Int32 × Int32 × Int32 × Int32 × Int64 × Int32 × Int32 × (Nat → Int32))) => fun (v_285 : Int32) (g_286 : Nat → Int32) (v_287 : Int32) (v_288 : Int32) (v_289 : Int32) (v_290 : Int32) (v_291 : Int32) (v_292 : Int64) (v_293 : Int32) (v_294 : Int32) =>
    if 3 < v_285 then (
      let w_454 := F_Te_takeSign t_length v_287 v_288 v_289 v_290 v_291 v_292 v_293 v_294 c_tape 59
      let r_452 : Int32 := w_454.1
      let nw0_444 : Int32 := w_454.2.1
      let nw1_445 : Int32 := w_454.2.2.1
      let nw2_446 : Int32 := w_454.2.2.2.1
      let nw3_447 : Int32 := w_454.2.2.2.2.1
      let nw4_448 : Int32 := w_454.2.2.2.2.2.1
      let nw5_449 : Int64 := w_454.2.2.2.2.2.2.1
      let nw6_450 : Int32 := w_454.2.2.2.2.2.2.2.1
      let nw7_451 : Int32 := w_454.2.2.2.2.2.2.2.2
      (r_452, (1 : Int32), nw0_444, nw1_445, nw2_446, nw3_447, nw4_448, nw5_449, nw6_450, nw7_451, g_286)) else (
      if v_285.toInt = 0 then (
        let w_469 := F_Te_takeWord t_length v_287 v_288 v_289 v_290 v_291 v_292 v_293 v_294 c_tape 25
        let r_467 : Int32 := w_469.1
        let nw0_459 : Int32 := w_469.2.1
        let nw1_460 : Int32 := w_469.2.2.1
        let nw2_461 : Int32 := w_469.2.2.2.1
        let nw3_462 : Int32 := w_469.2.2.2.2.1
        let nw4_463 : Int32 := w_469.2.2.2.2.2.1
        let nw5_464 : Int64 := w_469.2.2.2.2.2.2.1
        let nw6_465 : Int32 := w_469.2.2.2.2.2.2.2.1
        let nw7_466 : Int32 := w_469.2.2.2.2.2.2.2.2
        if r_467 = 0 then (
          ((0 : Int32), (1 : Int32), nw0_459, nw1_460, nw2_461, nw3_462, nw4_463, nw5_464, nw6_465, nw7_466, g_286)) else (
          let w_482 := F_Te_takeNumber t_length nw0_459 nw1_460 nw2_461 nw3_462 nw4_463 nw5_464 nw6_465 nw7_466 c_tape 1 99
          let r_480 : Int32 := w_482.1
          let nw0_472 : Int32 := w_482.2.1
          let nw1_473 : Int32 := w_482.2.2.1
          let nw2_474 : Int32 := w_482.2.2.2.1
          let nw3_475 : Int32 := w_482.2.2.2.2.1
          let nw4_476 : Int32 := w_482.2.2.2.2.2.1
          let nw5_477 : Int32 := w_482.2.2.2.2.2.2.1
          let nw6_478 : Int32 := w_482.2.2.2.2.2.2.2.1
          let nw7_479 : Int64 := w_482.2.2.2.2.2.2.2.2
          if r_480 = (-1) then (
            ((0 : Int32), (1 : Int32), nw2_474, nw3_475, nw4_476, nw5_477, nw6_478, nw7_479, nw0_472, nw1_473, g_286)) else (
            let w_488 := F_H_setSeconds g_286 v_285 r_480
            let nw0_485 : Nat → Int32 := w_488
            G_L30a (v_285 + 1) nw0_485 nw2_474 nw3_475 nw4_476 nw5_477 nw6_478 nw7_479 nw0_472 nw1_473))) else
      if v_285.toInt = 1 then (
        let w_504 := F_Te_takeWord t_length v_287 v_288 v_289 v_290 v_291 v_292 v_293 v_294 c_tape 26
        let r_502 : Int32 := w_504.1
        let nw0_494 : Int32 := w_504.2.1
        let nw1_495 : Int32 := w_504.2.2.1
        let nw2_496 : Int32 := w_504.2.2.2.1
        let nw3_497 : Int32 := w_504.2.2.2.2.1
        let nw4_498 : Int32 := w_504.2.2.2.2.2.1
        let nw5_499 : Int64 := w_504.2.2.2.2.2.2.1
        let nw6_500 : Int32 := w_504.2.2.2.2.2.2.2.1
        let nw7_501 : Int32 := w_504.2.2.2.2.2.2.2.2
        if r_502 = 0 then (
          ((0 : Int32), (1 : Int32), nw0_494, nw1_495, nw2_496, nw3_497, nw4_498, nw5_499, nw6_500, nw7_501, g_286)) else (
          let w_517 := F_Te_takeNumber t_length nw0_494 nw1_495 nw2_496 nw3_497 nw4_498 nw5_499 nw6_500 nw7_501 c_tape 1 99
          let r_515 : Int32 := w_517.1
          let nw0_507 : Int32 := w_517.2.1
          let nw1_508 : Int32 := w_517.2.2.1
          let nw2_509 : Int32 := w_517.2.2.2.1
          let nw3_510 : Int32 := w_517.2.2.2.2.1
          let nw4_511 : Int32 := w_517.2.2.2.2.2.1
          let nw5_512 : Int32 := w_517.2.2.2.2.2.2.1
          let nw6_513 : Int32 := w_517.2.2.2.2.2.2.2.1
          let nw7_514 : Int64 := w_517.2.2.2.2.2.2.2.2
          if r_515 = (-1) then (
            ((0 : Int32), (1 : Int32), nw2_509, nw3_510, nw4_511, nw5_512, nw6_513, nw7_514, nw0_507, nw1_508, g_286)) else (
            let w_523 := F_H_setSeconds g_286 v_285 r_515
            let nw0_520 : Nat → Int32 := w_523
            G_L30a (v_285 + 1) nw0_520 nw2_509 nw3_510 nw4_511 nw5_512 nw6_513 nw7_514 nw0_507 nw1_508))) else
      if v_285.toInt = 2 then (
        let w_539 := F_Te_takeWord t_length v_287 v_288 v_289 v_290 v_291 v_292 v_293 v_294 c_tape 27
        let r_537 : Int32 := w_539.1
        let nw0_529 : Int32 := w_539.2.1
        let nw1_530 : Int32 := w_539.2.2.1
        let nw2_531 : Int32 := w_539.2.2.2.1
        let nw3_532 : Int32 := w_539.2.2.2.2.1
        let nw4_533 : Int32 := w_539.2.2.2.2.2.1
        let nw5_534 : Int64 := w_539.2.2.2.2.2.2.1
        let nw6_535 : Int32 := w_539.2.2.2.2.2.2.2.1
        let nw7_536 : Int32 := w_539.2.2.2.2.2.2.2.2
        if r_537 = 0 then (
          ((0 : Int32), (1 : Int32), nw0_529, nw1_530, nw2_531, nw3_532, nw4_533, nw5_534, nw6_535, nw7_536, g_286)) else (
          let w_552 := F_Te_takeNumber t_length nw0_529 nw1_530 nw2_531 nw3_532 nw4_533 nw5_534 nw6_535 nw7_536 c_tape 1 99
          let r_550 : Int32 := w_552.1
          let nw0_542 : Int32 := w_552.2.1
          let nw1_543 : Int32 := w_552.2.2.1
          let nw2_544 : Int32 := w_552.2.2.2.1
          let nw3_545 : Int32 := w_552.2.2.2.2.1
          let nw4_546 : Int32 := w_552.2.2.2.2.2.1
          let nw5_547 : Int32 := w_552.2.2.2.2.2.2.1
          let nw6_548 : Int32 := w_552.2.2.2.2.2.2.2.1
          let nw7_549 : Int64 := w_552.2.2.2.2.2.2.2.2
          if r_550 = (-1) then (
            ((0 : Int32), (1 : Int32), nw2_544, nw3_545, nw4_546, nw5_547, nw6_548, nw7_549, nw0_542, nw1_543, g_286)) else (
            let w_558 := F_H_setSeconds g_286 v_285 r_550
            let nw0_555 : Nat → Int32 := w_558
            G_L30a (v_285 + 1) nw0_555 nw2_544 nw3_545 nw4_546 nw5_547 nw6_548 nw7_549 nw0_542 nw1_543))) else
      (
        let w_574 := F_Te_takeWord t_length v_287 v_288 v_289 v_290 v_291 v_292 v_293 v_294 c_tape 28
        let r_572 : Int32 := w_574.1
        let nw0_564 : Int32 := w_574.2.1
        let nw1_565 : Int32 := w_574.2.2.1
        let nw2_566 : Int32 := w_574.2.2.2.1
        let nw3_567 : Int32 := w_574.2.2.2.2.1
        let nw4_568 : Int32 := w_574.2.2.2.2.2.1
        let nw5_569 : Int64 := w_574.2.2.2.2.2.2.1
        let nw6_570 : Int32 := w_574.2.2.2.2.2.2.2.1
        let nw7_571 : Int32 := w_574.2.2.2.2.2.2.2.2
        if r_572 = 0 then (
          ((0 : Int32), (1 : Int32), nw0_564, nw1_565, nw2_566, nw3_567, nw4_568, nw5_569, nw6_570, nw7_571, g_286)) else (
          let w_587 := F_Te_takeNumber t_length nw0_564 nw1_565 nw2_566 nw3_567 nw4_568 nw5_569 nw6_570 nw7_571 c_tape 1 99
          let r_585 : Int32 := w_587.1
          let nw0_577 : Int32 := w_587.2.1
          let nw1_578 : Int32 := w_587.2.2.1
          let nw2_579 : Int32 := w_587.2.2.2.1
          let nw3_580 : Int32 := w_587.2.2.2.2.1
          let nw4_581 : Int32 := w_587.2.2.2.2.2.1
          let nw5_582 : Int32 := w_587.2.2.2.2.2.2.1
          let nw6_583 : Int32 := w_587.2.2.2.2.2.2.2.1
          let nw7_584 : Int64 := w_587.2.2.2.2.2.2.2.2
          if r_585 = (-1) then (
            ((0 : Int32), (1 : Int32), nw2_579, nw3_580, nw4_581, nw5_582, nw6_583, nw7_584, nw0_577, nw1_578, g_286)) else (
            let w_593 := F_H_setSeconds g_286 v_285 r_585
            let nw0_590 : Nat → Int32 := w_593
            G_L30a (v_285 + 1) nw0_590 nw2_579 nw3_580 nw4_581 nw5_582 nw6_583 nw7_584 nw0_577 nw1_578))))) k9
theorem F_Ho_readSeconds_L30a_s (t_length : Int32) (c_tape : Nat → Int32) (n9 : Nat) (v_285 : Int32) (g_286 : Nat → Int32) (v_287 : Int32) (v_288 : Int32) (v_289 : Int32) (v_290 : Int32) (v_291 : Int32) (v_292 : Int64) (v_293 : Int32) (v_294 : Int32) : F_Ho_readSeconds_L30a t_length c_tape (n9 + 1) v_285 g_286 v_287 v_288 v_289 v_290 v_291 v_292 v_293 v_294 = (
    if 3 < v_285 then (
      let w_454 := F_Te_takeSign t_length v_287 v_288 v_289 v_290 v_291 v_292 v_293 v_294 c_tape 59
      let r_452 : Int32 := w_454.1
      let nw0_444 : Int32 := w_454.2.1
      let nw1_445 : Int32 := w_454.2.2.1
      let nw2_446 : Int32 := w_454.2.2.2.1
      let nw3_447 : Int32 := w_454.2.2.2.2.1
      let nw4_448 : Int32 := w_454.2.2.2.2.2.1
      let nw5_449 : Int64 := w_454.2.2.2.2.2.2.1
      let nw6_450 : Int32 := w_454.2.2.2.2.2.2.2.1
      let nw7_451 : Int32 := w_454.2.2.2.2.2.2.2.2
      (r_452, (1 : Int32), nw0_444, nw1_445, nw2_446, nw3_447, nw4_448, nw5_449, nw6_450, nw7_451, g_286)) else (
      if v_285.toInt = 0 then (
        let w_469 := F_Te_takeWord t_length v_287 v_288 v_289 v_290 v_291 v_292 v_293 v_294 c_tape 25
        let r_467 : Int32 := w_469.1
        let nw0_459 : Int32 := w_469.2.1
        let nw1_460 : Int32 := w_469.2.2.1
        let nw2_461 : Int32 := w_469.2.2.2.1
        let nw3_462 : Int32 := w_469.2.2.2.2.1
        let nw4_463 : Int32 := w_469.2.2.2.2.2.1
        let nw5_464 : Int64 := w_469.2.2.2.2.2.2.1
        let nw6_465 : Int32 := w_469.2.2.2.2.2.2.2.1
        let nw7_466 : Int32 := w_469.2.2.2.2.2.2.2.2
        if r_467 = 0 then (
          ((0 : Int32), (1 : Int32), nw0_459, nw1_460, nw2_461, nw3_462, nw4_463, nw5_464, nw6_465, nw7_466, g_286)) else (
          let w_482 := F_Te_takeNumber t_length nw0_459 nw1_460 nw2_461 nw3_462 nw4_463 nw5_464 nw6_465 nw7_466 c_tape 1 99
          let r_480 : Int32 := w_482.1
          let nw0_472 : Int32 := w_482.2.1
          let nw1_473 : Int32 := w_482.2.2.1
          let nw2_474 : Int32 := w_482.2.2.2.1
          let nw3_475 : Int32 := w_482.2.2.2.2.1
          let nw4_476 : Int32 := w_482.2.2.2.2.2.1
          let nw5_477 : Int32 := w_482.2.2.2.2.2.2.1
          let nw6_478 : Int32 := w_482.2.2.2.2.2.2.2.1
          let nw7_479 : Int64 := w_482.2.2.2.2.2.2.2.2
          if r_480 = (-1) then (
            ((0 : Int32), (1 : Int32), nw2_474, nw3_475, nw4_476, nw5_477, nw6_478, nw7_479, nw0_472, nw1_473, g_286)) else (
            let w_488 := F_H_setSeconds g_286 v_285 r_480
            let nw0_485 : Nat → Int32 := w_488
            (F_Ho_readSeconds_L30a t_length c_tape n9) (v_285 + 1) nw0_485 nw2_474 nw3_475 nw4_476 nw5_477 nw6_478 nw7_479 nw0_472 nw1_473))) else
      if v_285.toInt = 1 then (
        let w_504 := F_Te_takeWord t_length v_287 v_288 v_289 v_290 v_291 v_292 v_293 v_294 c_tape 26
        let r_502 : Int32 := w_504.1
        let nw0_494 : Int32 := w_504.2.1
        let nw1_495 : Int32 := w_504.2.2.1
        let nw2_496 : Int32 := w_504.2.2.2.1
        let nw3_497 : Int32 := w_504.2.2.2.2.1
        let nw4_498 : Int32 := w_504.2.2.2.2.2.1
        let nw5_499 : Int64 := w_504.2.2.2.2.2.2.1
        let nw6_500 : Int32 := w_504.2.2.2.2.2.2.2.1
        let nw7_501 : Int32 := w_504.2.2.2.2.2.2.2.2
        if r_502 = 0 then (
          ((0 : Int32), (1 : Int32), nw0_494, nw1_495, nw2_496, nw3_497, nw4_498, nw5_499, nw6_500, nw7_501, g_286)) else (
          let w_517 := F_Te_takeNumber t_length nw0_494 nw1_495 nw2_496 nw3_497 nw4_498 nw5_499 nw6_500 nw7_501 c_tape 1 99
          let r_515 : Int32 := w_517.1
          let nw0_507 : Int32 := w_517.2.1
          let nw1_508 : Int32 := w_517.2.2.1
          let nw2_509 : Int32 := w_517.2.2.2.1
          let nw3_510 : Int32 := w_517.2.2.2.2.1
          let nw4_511 : Int32 := w_517.2.2.2.2.2.1
          let nw5_512 : Int32 := w_517.2.2.2.2.2.2.1
          let nw6_513 : Int32 := w_517.2.2.2.2.2.2.2.1
          let nw7_514 : Int64 := w_517.2.2.2.2.2.2.2.2
          if r_515 = (-1) then (
            ((0 : Int32), (1 : Int32), nw2_509, nw3_510, nw4_511, nw5_512, nw6_513, nw7_514, nw0_507, nw1_508, g_286)) else (
            let w_523 := F_H_setSeconds g_286 v_285 r_515
            let nw0_520 : Nat → Int32 := w_523
            (F_Ho_readSeconds_L30a t_length c_tape n9) (v_285 + 1) nw0_520 nw2_509 nw3_510 nw4_511 nw5_512 nw6_513 nw7_514 nw0_507 nw1_508))) else
      if v_285.toInt = 2 then (
        let w_539 := F_Te_takeWord t_length v_287 v_288 v_289 v_290 v_291 v_292 v_293 v_294 c_tape 27
        let r_537 : Int32 := w_539.1
        let nw0_529 : Int32 := w_539.2.1
        let nw1_530 : Int32 := w_539.2.2.1
        let nw2_531 : Int32 := w_539.2.2.2.1
        let nw3_532 : Int32 := w_539.2.2.2.2.1
        let nw4_533 : Int32 := w_539.2.2.2.2.2.1
        let nw5_534 : Int64 := w_539.2.2.2.2.2.2.1
        let nw6_535 : Int32 := w_539.2.2.2.2.2.2.2.1
        let nw7_536 : Int32 := w_539.2.2.2.2.2.2.2.2
        if r_537 = 0 then (
          ((0 : Int32), (1 : Int32), nw0_529, nw1_530, nw2_531, nw3_532, nw4_533, nw5_534, nw6_535, nw7_536, g_286)) else (
          let w_552 := F_Te_takeNumber t_length nw0_529 nw1_530 nw2_531 nw3_532 nw4_533 nw5_534 nw6_535 nw7_536 c_tape 1 99
          let r_550 : Int32 := w_552.1
          let nw0_542 : Int32 := w_552.2.1
          let nw1_543 : Int32 := w_552.2.2.1
          let nw2_544 : Int32 := w_552.2.2.2.1
          let nw3_545 : Int32 := w_552.2.2.2.2.1
          let nw4_546 : Int32 := w_552.2.2.2.2.2.1
          let nw5_547 : Int32 := w_552.2.2.2.2.2.2.1
          let nw6_548 : Int32 := w_552.2.2.2.2.2.2.2.1
          let nw7_549 : Int64 := w_552.2.2.2.2.2.2.2.2
          if r_550 = (-1) then (
            ((0 : Int32), (1 : Int32), nw2_544, nw3_545, nw4_546, nw5_547, nw6_548, nw7_549, nw0_542, nw1_543, g_286)) else (
            let w_558 := F_H_setSeconds g_286 v_285 r_550
            let nw0_555 : Nat → Int32 := w_558
            (F_Ho_readSeconds_L30a t_length c_tape n9) (v_285 + 1) nw0_555 nw2_544 nw3_545 nw4_546 nw5_547 nw6_548 nw7_549 nw0_542 nw1_543))) else
      (
        let w_574 := F_Te_takeWord t_length v_287 v_288 v_289 v_290 v_291 v_292 v_293 v_294 c_tape 28
        let r_572 : Int32 := w_574.1
        let nw0_564 : Int32 := w_574.2.1
        let nw1_565 : Int32 := w_574.2.2.1
        let nw2_566 : Int32 := w_574.2.2.2.1
        let nw3_567 : Int32 := w_574.2.2.2.2.1
        let nw4_568 : Int32 := w_574.2.2.2.2.2.1
        let nw5_569 : Int64 := w_574.2.2.2.2.2.2.1
        let nw6_570 : Int32 := w_574.2.2.2.2.2.2.2.1
        let nw7_571 : Int32 := w_574.2.2.2.2.2.2.2.2
        if r_572 = 0 then (
          ((0 : Int32), (1 : Int32), nw0_564, nw1_565, nw2_566, nw3_567, nw4_568, nw5_569, nw6_570, nw7_571, g_286)) else (
          let w_587 := F_Te_takeNumber t_length nw0_564 nw1_565 nw2_566 nw3_567 nw4_568 nw5_569 nw6_570 nw7_571 c_tape 1 99
          let r_585 : Int32 := w_587.1
          let nw0_577 : Int32 := w_587.2.1
          let nw1_578 : Int32 := w_587.2.2.1
          let nw2_579 : Int32 := w_587.2.2.2.1
          let nw3_580 : Int32 := w_587.2.2.2.2.1
          let nw4_581 : Int32 := w_587.2.2.2.2.2.1
          let nw5_582 : Int32 := w_587.2.2.2.2.2.2.1
          let nw6_583 : Int32 := w_587.2.2.2.2.2.2.2.1
          let nw7_584 : Int64 := w_587.2.2.2.2.2.2.2.2
          if r_585 = (-1) then (
            ((0 : Int32), (1 : Int32), nw2_579, nw3_580, nw4_581, nw5_582, nw6_583, nw7_584, nw0_577, nw1_578, g_286)) else (
            let w_593 := F_H_setSeconds g_286 v_285 r_585
            let nw0_590 : Nat → Int32 := w_593
            (F_Ho_readSeconds_L30a t_length c_tape n9) (v_285 + 1) nw0_590 nw2_579 nw3_580 nw4_581 nw5_582 nw6_583 nw7_584 nw0_577 nw1_578))))) := rfl
noncomputable def F_Ho_readSeconds (hr_secondsTold : Int32) (t_length : Int32) (t_kind : Int32) (t_start : Int32) (t_end : Int32) (t_number : Int32) (t_sign : Int32) (t_letters : Int64) (t_fault : Int32) (t_faultPlace : Int32) (c_tape : Nat → Int32) (c_hf_seconds : Nat → Int32) : Int32 × Int32 × Int32 × Int32 × Int32 × Int32 × Int32 × Int64 × Int32 × Int32 × (Nat → Int32) :=
  if hr_secondsTold = 0 then (
    let w_11 := F_Te_advance t_length t_end t_number t_sign t_letters c_tape
    let nw0_3 : Int32 := w_11.1
    let nw1_4 : Int32 := w_11.2.1
    let nw2_5 : Int32 := w_11.2.2.1
    let nw3_6 : Int32 := w_11.2.2.2.1
    let nw4_7 : Int32 := w_11.2.2.2.2.1
    let nw5_8 : Int64 := w_11.2.2.2.2.2
    F_Ho_readSeconds_L30a t_length c_tape ((2147483647 - (0 : Int32).toInt).toNat + 1) (0 : Int32) c_hf_seconds nw0_3 nw1_4 nw2_5 nw4_7 nw3_6 nw5_8 t_fault t_faultPlace) else (
    let w_605 := F_Te_refuse t_kind t_start t_fault t_faultPlace 5
    let r_603 : Int32 := w_605.1
    let nw0_601 : Int32 := w_605.2.1
    let nw1_602 : Int32 := w_605.2.2
    (r_603, hr_secondsTold, t_kind, t_start, t_end, t_number, t_sign, t_letters, nw0_601, nw1_602, c_hf_seconds))
theorem F_Ho_readSeconds_s (hr_secondsTold : Int32) (t_length : Int32) (t_kind : Int32) (t_start : Int32) (t_end : Int32) (t_number : Int32) (t_sign : Int32) (t_letters : Int64) (t_fault : Int32) (t_faultPlace : Int32) (c_tape : Nat → Int32) (c_hf_seconds : Nat → Int32) : F_Ho_readSeconds hr_secondsTold t_length t_kind t_start t_end t_number t_sign t_letters t_fault t_faultPlace c_tape c_hf_seconds = (
  if hr_secondsTold = 0 then (
    let w_11 := F_Te_advance t_length t_end t_number t_sign t_letters c_tape
    let nw0_3 : Int32 := w_11.1
    let nw1_4 : Int32 := w_11.2.1
    let nw2_5 : Int32 := w_11.2.2.1
    let nw3_6 : Int32 := w_11.2.2.2.1
    let nw4_7 : Int32 := w_11.2.2.2.2.1
    let nw5_8 : Int64 := w_11.2.2.2.2.2
    F_Ho_readSeconds_L30a t_length c_tape ((2147483647 - (0 : Int32).toInt).toNat + 1) (0 : Int32) c_hf_seconds nw0_3 nw1_4 nw2_5 nw4_7 nw3_6 nw5_8 t_fault t_faultPlace) else (
    let w_605 := F_Te_refuse t_kind t_start t_fault t_faultPlace 5
    let r_603 : Int32 := w_605.1
    let nw0_601 : Int32 := w_605.2.1
    let nw1_602 : Int32 := w_605.2.2
    (r_603, hr_secondsTold, t_kind, t_start, t_end, t_number, t_sign, t_letters, nw0_601, nw1_602, c_hf_seconds))) := rfl
noncomputable def F_Ho_readPart (hr_keysOnRings : Int32) (hr_feelsTold : Int32) (hr_secondsTold : Int32) (hr_turnedTold : Int32) (t_length : Int32) (t_kind : Int32) (t_start : Int32) (t_end : Int32) (t_number : Int32) (t_sign : Int32) (t_letters : Int64) (t_fault : Int32) (t_faultPlace : Int32) (c_tape : Nat → Int32) (c_n_f : Nat → Int64) (c_n_k : Nat → Int64) (c_n_r : Nat → Int64) (c_n_d : Nat → Int64) (hf_features : Int32) (hf_keys : Int32) (hf_rings : Int32) (hf_doors : Int32) (hf_turned : Int32) (hf_roundMany : Int32) (c_hf_featureNames : Nat → Int64) (c_hf_steps : Nat → Int32) (c_hf_turnedFeatures : Nat → Int32) (c_hf_sixteenths : Nat → Int32) (c_hf_keySteps : Nat → Int32) (c_hf_on : Nat → Int32) (c_hf_onMany : Nat → Int32) (c_hf_wanted : Nat → Int32) (c_hf_openers : Nat → Int32) (c_hf_seconds : Nat → Int32) (c_hf_roundDoors : Nat → Int32) : Int32 × Int32 × Int32 × Int32 × Int32 × Int32 × Int32 × Int32 × Int64 × Int32 × (Nat → Int32) × Int32 × Int32 × Int32 × (Nat → Int32) × (Nat → Int64) × Int32 × (Nat → Int32) × (Nat → Int32) × Int32 × (Nat → Int64) × Int32 × (Nat → Int32) × (Nat → Int32) × (Nat → Int64) × Int32 × (Nat → Int32) × Int32 × (Nat → Int32) × (Nat → Int64) × Int32 × (Nat → Int64) × (Nat → Int32) × (Nat → Int32) :=
  let w_3 := F_Te_is t_length t_kind t_start t_end c_tape 0
  let r_1 : Int32 := w_3
  if r_1 = 0 then (
    let w_8 := F_Te_is t_length t_kind t_start t_end c_tape 18
    let r_6 : Int32 := w_8
    if r_6 = 0 then (
      let w_13 := F_Te_is t_length t_kind t_start t_end c_tape 19
      let r_11 : Int32 := w_13
      if r_11 = 0 then (
        let w_18 := F_Te_is t_length t_kind t_start t_end c_tape 20
        let r_16 : Int32 := w_18
        if r_16 = 0 then (
          let w_23 := F_Te_is t_length t_kind t_start t_end c_tape 21
          let r_21 : Int32 := w_23
          if r_21 = 0 then (
            let w_28 := F_Te_is t_length t_kind t_start t_end c_tape 24
            let r_26 : Int32 := w_28
            if r_26 = 0 then (
              let w_33 := F_Te_is t_length t_kind t_start t_end c_tape 17
              let r_31 : Int32 := w_33
              if r_31 = 0 then (
                let w_38 := F_Te_is t_length t_kind t_start t_end c_tape 29
                let r_36 : Int32 := w_38
                if r_36 = 0 then (
                  let w_45 := F_Te_refuse t_kind t_start t_fault t_faultPlace 2
                  let r_43 : Int32 := w_45.1
                  let nw0_41 : Int32 := w_45.2.1
                  let nw1_42 : Int32 := w_45.2.2
                  (r_43, nw0_41, nw1_42, t_kind, t_start, t_end, t_number, t_sign, t_letters, hf_roundMany, c_hf_roundDoors, hr_turnedTold, hf_turned, hr_secondsTold, c_hf_seconds, c_n_d, hf_doors, c_hf_wanted, c_hf_openers, hr_keysOnRings, c_n_r, hf_rings, c_hf_on, c_hf_onMany, c_n_k, hf_keys, c_hf_keySteps, hr_feelsTold, c_hf_sixteenths, c_n_f, hf_features, c_hf_featureNames, c_hf_steps, c_hf_turnedFeatures)) else (
                  let w_60 := F_Ho_readRound t_length t_kind t_start t_end t_number t_sign t_letters t_fault t_faultPlace c_tape c_n_d hf_doors hf_roundMany c_hf_roundDoors
                  let r_58 : Int32 := w_60.1
                  let nw0_48 : Int32 := w_60.2.1
                  let nw1_49 : Int32 := w_60.2.2.1
                  let nw2_50 : Int32 := w_60.2.2.2.1
                  let nw3_51 : Int32 := w_60.2.2.2.2.1
                  let nw4_52 : Int32 := w_60.2.2.2.2.2.1
                  let nw5_53 : Int64 := w_60.2.2.2.2.2.2.1
                  let nw6_54 : Int32 := w_60.2.2.2.2.2.2.2.1
                  let nw7_55 : Int32 := w_60.2.2.2.2.2.2.2.2.1
                  let nw8_56 : Int32 := w_60.2.2.2.2.2.2.2.2.2.1
                  let nw9_57 : Nat → Int32 := w_60.2.2.2.2.2.2.2.2.2.2
                  (r_58, nw6_54, nw7_55, nw0_48, nw1_49, nw2_50, nw3_51, nw4_52, nw5_53, nw8_56, nw9_57, hr_turnedTold, hf_turned, hr_secondsTold, c_hf_seconds, c_n_d, hf_doors, c_hf_wanted, c_hf_openers, hr_keysOnRings, c_n_r, hf_rings, c_hf_on, c_hf_onMany, c_n_k, hf_keys, c_hf_keySteps, hr_feelsTold, c_hf_sixteenths, c_n_f, hf_features, c_hf_featureNames, c_hf_steps, c_hf_turnedFeatures))) else (
                let w_75 := F_Ho_readTurned hr_turnedTold t_length t_kind t_start t_end t_number t_sign t_letters t_fault t_faultPlace c_tape hf_turned
                let r_73 : Int32 := w_75.1
                let nw0_63 : Int32 := w_75.2.1
                let nw1_64 : Int32 := w_75.2.2.1
                let nw2_65 : Int32 := w_75.2.2.2.1
                let nw3_66 : Int32 := w_75.2.2.2.2.1
                let nw4_67 : Int32 := w_75.2.2.2.2.2.1
                let nw5_68 : Int32 := w_75.2.2.2.2.2.2.1
                let nw6_69 : Int64 := w_75.2.2.2.2.2.2.2.1
                let nw7_70 : Int32 := w_75.2.2.2.2.2.2.2.2.1
                let nw8_71 : Int32 := w_75.2.2.2.2.2.2.2.2.2.1
                let nw9_72 : Int32 := w_75.2.2.2.2.2.2.2.2.2.2
                (r_73, nw7_70, nw8_71, nw1_64, nw2_65, nw3_66, nw4_67, nw5_68, nw6_69, hf_roundMany, c_hf_roundDoors, nw0_63, nw9_72, hr_secondsTold, c_hf_seconds, c_n_d, hf_doors, c_hf_wanted, c_hf_openers, hr_keysOnRings, c_n_r, hf_rings, c_hf_on, c_hf_onMany, c_n_k, hf_keys, c_hf_keySteps, hr_feelsTold, c_hf_sixteenths, c_n_f, hf_features, c_hf_featureNames, c_hf_steps, c_hf_turnedFeatures))) else (
              let w_90 := F_Ho_readSeconds hr_secondsTold t_length t_kind t_start t_end t_number t_sign t_letters t_fault t_faultPlace c_tape c_hf_seconds
              let r_88 : Int32 := w_90.1
              let nw0_78 : Int32 := w_90.2.1
              let nw1_79 : Int32 := w_90.2.2.1
              let nw2_80 : Int32 := w_90.2.2.2.1
              let nw3_81 : Int32 := w_90.2.2.2.2.1
              let nw4_82 : Int32 := w_90.2.2.2.2.2.1
              let nw5_83 : Int32 := w_90.2.2.2.2.2.2.1
              let nw6_84 : Int64 := w_90.2.2.2.2.2.2.2.1
              let nw7_85 : Int32 := w_90.2.2.2.2.2.2.2.2.1
              let nw8_86 : Int32 := w_90.2.2.2.2.2.2.2.2.2.1
              let nw9_87 : Nat → Int32 := w_90.2.2.2.2.2.2.2.2.2.2
              (r_88, nw7_85, nw8_86, nw1_79, nw2_80, nw3_81, nw4_82, nw5_83, nw6_84, hf_roundMany, c_hf_roundDoors, hr_turnedTold, hf_turned, nw0_78, nw9_87, c_n_d, hf_doors, c_hf_wanted, c_hf_openers, hr_keysOnRings, c_n_r, hf_rings, c_hf_on, c_hf_onMany, c_n_k, hf_keys, c_hf_keySteps, hr_feelsTold, c_hf_sixteenths, c_n_f, hf_features, c_hf_featureNames, c_hf_steps, c_hf_turnedFeatures))) else (
            let w_107 := F_Ho_readDoor t_length t_kind t_start t_end t_number t_sign t_letters t_fault t_faultPlace c_tape c_n_f c_n_k c_n_r c_n_d hf_features hf_keys hf_rings hf_doors c_hf_wanted c_hf_openers
            let r_105 : Int32 := w_107.1
            let nw0_93 : Int32 := w_107.2.1
            let nw1_94 : Int32 := w_107.2.2.1
            let nw2_95 : Int32 := w_107.2.2.2.1
            let nw3_96 : Int32 := w_107.2.2.2.2.1
            let nw4_97 : Int32 := w_107.2.2.2.2.2.1
            let nw5_98 : Int64 := w_107.2.2.2.2.2.2.1
            let nw6_99 : Int32 := w_107.2.2.2.2.2.2.2.1
            let nw7_100 : Int32 := w_107.2.2.2.2.2.2.2.2.1
            let nw8_101 : Nat → Int64 := w_107.2.2.2.2.2.2.2.2.2.1
            let nw9_102 : Int32 := w_107.2.2.2.2.2.2.2.2.2.2.1
            let nw10_103 : Nat → Int32 := w_107.2.2.2.2.2.2.2.2.2.2.2.1
            let nw11_104 : Nat → Int32 := w_107.2.2.2.2.2.2.2.2.2.2.2.2
            (r_105, nw6_99, nw7_100, nw0_93, nw1_94, nw2_95, nw3_96, nw4_97, nw5_98, hf_roundMany, c_hf_roundDoors, hr_turnedTold, hf_turned, hr_secondsTold, c_hf_seconds, nw8_101, nw9_102, nw10_103, nw11_104, hr_keysOnRings, c_n_r, hf_rings, c_hf_on, c_hf_onMany, c_n_k, hf_keys, c_hf_keySteps, hr_feelsTold, c_hf_sixteenths, c_n_f, hf_features, c_hf_featureNames, c_hf_steps, c_hf_turnedFeatures))) else (
          let w_125 := F_Ho_readRing hr_keysOnRings t_length t_kind t_start t_end t_number t_sign t_letters t_fault t_faultPlace c_tape c_n_f c_n_k c_n_r c_n_d hf_features hf_keys hf_rings hf_doors c_hf_on c_hf_onMany
          let r_123 : Int32 := w_125.1
          let nw0_110 : Int32 := w_125.2.1
          let nw1_111 : Int32 := w_125.2.2.1
          let nw2_112 : Int32 := w_125.2.2.2.1
          let nw3_113 : Int32 := w_125.2.2.2.2.1
          let nw4_114 : Int32 := w_125.2.2.2.2.2.1
          let nw5_115 : Int64 := w_125.2.2.2.2.2.2.1
          let nw6_116 : Int32 := w_125.2.2.2.2.2.2.2.1
          let nw7_117 : Int32 := w_125.2.2.2.2.2.2.2.2.1
          let nw8_118 : Nat → Int64 := w_125.2.2.2.2.2.2.2.2.2.1
          let nw9_119 : Int32 := w_125.2.2.2.2.2.2.2.2.2.2.1
          let nw10_120 : Nat → Int32 := w_125.2.2.2.2.2.2.2.2.2.2.2.1
          let nw11_121 : Int32 := w_125.2.2.2.2.2.2.2.2.2.2.2.2.1
          let nw12_122 : Nat → Int32 := w_125.2.2.2.2.2.2.2.2.2.2.2.2.2
          (r_123, nw6_116, nw7_117, nw0_110, nw1_111, nw2_112, nw3_113, nw4_114, nw5_115, hf_roundMany, c_hf_roundDoors, hr_turnedTold, hf_turned, hr_secondsTold, c_hf_seconds, c_n_d, hf_doors, c_hf_wanted, c_hf_openers, nw11_121, nw8_118, nw9_119, nw12_122, nw10_120, c_n_k, hf_keys, c_hf_keySteps, hr_feelsTold, c_hf_sixteenths, c_n_f, hf_features, c_hf_featureNames, c_hf_steps, c_hf_turnedFeatures))) else (
        let w_141 := F_Ho_readKey t_length t_kind t_start t_end t_number t_sign t_letters t_fault t_faultPlace c_tape c_n_f c_n_k c_n_r c_n_d hf_features hf_keys hf_rings hf_doors c_hf_steps c_hf_keySteps
        let r_139 : Int32 := w_141.1
        let nw0_128 : Int32 := w_141.2.1
        let nw1_129 : Int32 := w_141.2.2.1
        let nw2_130 : Int32 := w_141.2.2.2.1
        let nw3_131 : Int32 := w_141.2.2.2.2.1
        let nw4_132 : Int32 := w_141.2.2.2.2.2.1
        let nw5_133 : Int64 := w_141.2.2.2.2.2.2.1
        let nw6_134 : Int32 := w_141.2.2.2.2.2.2.2.1
        let nw7_135 : Int32 := w_141.2.2.2.2.2.2.2.2.1
        let nw8_136 : Nat → Int32 := w_141.2.2.2.2.2.2.2.2.2.1
        let nw9_137 : Nat → Int64 := w_141.2.2.2.2.2.2.2.2.2.2.1
        let nw10_138 : Int32 := w_141.2.2.2.2.2.2.2.2.2.2.2
        (r_139, nw6_134, nw7_135, nw0_128, nw1_129, nw2_130, nw3_131, nw4_132, nw5_133, hf_roundMany, c_hf_roundDoors, hr_turnedTold, hf_turned, hr_secondsTold, c_hf_seconds, c_n_d, hf_doors, c_hf_wanted, c_hf_openers, hr_keysOnRings, c_n_r, hf_rings, c_hf_on, c_hf_onMany, nw9_137, nw10_138, nw8_136, hr_feelsTold, c_hf_sixteenths, c_n_f, hf_features, c_hf_featureNames, c_hf_steps, c_hf_turnedFeatures))) else (
      let w_156 := F_Ho_readFeels hr_feelsTold t_length t_end t_number t_sign t_letters t_fault t_faultPlace c_tape c_n_f hf_features c_hf_steps c_hf_sixteenths
      let r_154 : Int32 := w_156.1
      let nw0_144 : Int32 := w_156.2.1
      let nw1_145 : Int32 := w_156.2.2.1
      let nw2_146 : Int32 := w_156.2.2.2.1
      let nw3_147 : Int32 := w_156.2.2.2.2.1
      let nw4_148 : Int32 := w_156.2.2.2.2.2.1
      let nw5_149 : Int32 := w_156.2.2.2.2.2.2.1
      let nw6_150 : Int64 := w_156.2.2.2.2.2.2.2.1
      let nw7_151 : Int32 := w_156.2.2.2.2.2.2.2.2.1
      let nw8_152 : Int32 := w_156.2.2.2.2.2.2.2.2.2.1
      let nw9_153 : Nat → Int32 := w_156.2.2.2.2.2.2.2.2.2.2
      (r_154, nw7_151, nw8_152, nw1_145, nw2_146, nw3_147, nw4_148, nw5_149, nw6_150, hf_roundMany, c_hf_roundDoors, hr_turnedTold, hf_turned, hr_secondsTold, c_hf_seconds, c_n_d, hf_doors, c_hf_wanted, c_hf_openers, hr_keysOnRings, c_n_r, hf_rings, c_hf_on, c_hf_onMany, c_n_k, hf_keys, c_hf_keySteps, nw0_144, nw9_153, c_n_f, hf_features, c_hf_featureNames, c_hf_steps, c_hf_turnedFeatures))) else (
    let w_175 := F_Ho_readFeature t_length t_kind t_start t_end t_number t_sign t_letters t_fault t_faultPlace c_tape c_n_f c_n_k c_n_r c_n_d hf_features hf_keys hf_rings hf_doors c_hf_featureNames c_hf_steps c_hf_turnedFeatures c_hf_sixteenths
    let r_173 : Int32 := w_175.1
    let nw0_159 : Int32 := w_175.2.1
    let nw1_160 : Int32 := w_175.2.2.1
    let nw2_161 : Int32 := w_175.2.2.2.1
    let nw3_162 : Int32 := w_175.2.2.2.2.1
    let nw4_163 : Int32 := w_175.2.2.2.2.2.1
    let nw5_164 : Int64 := w_175.2.2.2.2.2.2.1
    let nw6_165 : Int32 := w_175.2.2.2.2.2.2.2.1
    let nw7_166 : Int32 := w_175.2.2.2.2.2.2.2.2.1
    let nw8_167 : Nat → Int64 := w_175.2.2.2.2.2.2.2.2.2.1
    let nw9_168 : Int32 := w_175.2.2.2.2.2.2.2.2.2.2.1
    let nw10_169 : Nat → Int64 := w_175.2.2.2.2.2.2.2.2.2.2.2.1
    let nw11_170 : Nat → Int32 := w_175.2.2.2.2.2.2.2.2.2.2.2.2.1
    let nw12_171 : Nat → Int32 := w_175.2.2.2.2.2.2.2.2.2.2.2.2.2.1
    let nw13_172 : Nat → Int32 := w_175.2.2.2.2.2.2.2.2.2.2.2.2.2.2
    (r_173, nw6_165, nw7_166, nw0_159, nw1_160, nw2_161, nw3_162, nw4_163, nw5_164, hf_roundMany, c_hf_roundDoors, hr_turnedTold, hf_turned, hr_secondsTold, c_hf_seconds, c_n_d, hf_doors, c_hf_wanted, c_hf_openers, hr_keysOnRings, c_n_r, hf_rings, c_hf_on, c_hf_onMany, c_n_k, hf_keys, c_hf_keySteps, hr_feelsTold, nw13_172, nw8_167, nw9_168, nw10_169, nw11_170, nw12_171))
theorem F_Ho_readPart_s (hr_keysOnRings : Int32) (hr_feelsTold : Int32) (hr_secondsTold : Int32) (hr_turnedTold : Int32) (t_length : Int32) (t_kind : Int32) (t_start : Int32) (t_end : Int32) (t_number : Int32) (t_sign : Int32) (t_letters : Int64) (t_fault : Int32) (t_faultPlace : Int32) (c_tape : Nat → Int32) (c_n_f : Nat → Int64) (c_n_k : Nat → Int64) (c_n_r : Nat → Int64) (c_n_d : Nat → Int64) (hf_features : Int32) (hf_keys : Int32) (hf_rings : Int32) (hf_doors : Int32) (hf_turned : Int32) (hf_roundMany : Int32) (c_hf_featureNames : Nat → Int64) (c_hf_steps : Nat → Int32) (c_hf_turnedFeatures : Nat → Int32) (c_hf_sixteenths : Nat → Int32) (c_hf_keySteps : Nat → Int32) (c_hf_on : Nat → Int32) (c_hf_onMany : Nat → Int32) (c_hf_wanted : Nat → Int32) (c_hf_openers : Nat → Int32) (c_hf_seconds : Nat → Int32) (c_hf_roundDoors : Nat → Int32) : F_Ho_readPart hr_keysOnRings hr_feelsTold hr_secondsTold hr_turnedTold t_length t_kind t_start t_end t_number t_sign t_letters t_fault t_faultPlace c_tape c_n_f c_n_k c_n_r c_n_d hf_features hf_keys hf_rings hf_doors hf_turned hf_roundMany c_hf_featureNames c_hf_steps c_hf_turnedFeatures c_hf_sixteenths c_hf_keySteps c_hf_on c_hf_onMany c_hf_wanted c_hf_openers c_hf_seconds c_hf_roundDoors = (
  let w_3 := F_Te_is t_length t_kind t_start t_end c_tape 0
  let r_1 : Int32 := w_3
  if r_1 = 0 then (
    let w_8 := F_Te_is t_length t_kind t_start t_end c_tape 18
    let r_6 : Int32 := w_8
    if r_6 = 0 then (
      let w_13 := F_Te_is t_length t_kind t_start t_end c_tape 19
      let r_11 : Int32 := w_13
      if r_11 = 0 then (
        let w_18 := F_Te_is t_length t_kind t_start t_end c_tape 20
        let r_16 : Int32 := w_18
        if r_16 = 0 then (
          let w_23 := F_Te_is t_length t_kind t_start t_end c_tape 21
          let r_21 : Int32 := w_23
          if r_21 = 0 then (
            let w_28 := F_Te_is t_length t_kind t_start t_end c_tape 24
            let r_26 : Int32 := w_28
            if r_26 = 0 then (
              let w_33 := F_Te_is t_length t_kind t_start t_end c_tape 17
              let r_31 : Int32 := w_33
              if r_31 = 0 then (
                let w_38 := F_Te_is t_length t_kind t_start t_end c_tape 29
                let r_36 : Int32 := w_38
                if r_36 = 0 then (
                  let w_45 := F_Te_refuse t_kind t_start t_fault t_faultPlace 2
                  let r_43 : Int32 := w_45.1
                  let nw0_41 : Int32 := w_45.2.1
                  let nw1_42 : Int32 := w_45.2.2
                  (r_43, nw0_41, nw1_42, t_kind, t_start, t_end, t_number, t_sign, t_letters, hf_roundMany, c_hf_roundDoors, hr_turnedTold, hf_turned, hr_secondsTold, c_hf_seconds, c_n_d, hf_doors, c_hf_wanted, c_hf_openers, hr_keysOnRings, c_n_r, hf_rings, c_hf_on, c_hf_onMany, c_n_k, hf_keys, c_hf_keySteps, hr_feelsTold, c_hf_sixteenths, c_n_f, hf_features, c_hf_featureNames, c_hf_steps, c_hf_turnedFeatures)) else (
                  let w_60 := F_Ho_readRound t_length t_kind t_start t_end t_number t_sign t_letters t_fault t_faultPlace c_tape c_n_d hf_doors hf_roundMany c_hf_roundDoors
                  let r_58 : Int32 := w_60.1
                  let nw0_48 : Int32 := w_60.2.1
                  let nw1_49 : Int32 := w_60.2.2.1
                  let nw2_50 : Int32 := w_60.2.2.2.1
                  let nw3_51 : Int32 := w_60.2.2.2.2.1
                  let nw4_52 : Int32 := w_60.2.2.2.2.2.1
                  let nw5_53 : Int64 := w_60.2.2.2.2.2.2.1
                  let nw6_54 : Int32 := w_60.2.2.2.2.2.2.2.1
                  let nw7_55 : Int32 := w_60.2.2.2.2.2.2.2.2.1
                  let nw8_56 : Int32 := w_60.2.2.2.2.2.2.2.2.2.1
                  let nw9_57 : Nat → Int32 := w_60.2.2.2.2.2.2.2.2.2.2
                  (r_58, nw6_54, nw7_55, nw0_48, nw1_49, nw2_50, nw3_51, nw4_52, nw5_53, nw8_56, nw9_57, hr_turnedTold, hf_turned, hr_secondsTold, c_hf_seconds, c_n_d, hf_doors, c_hf_wanted, c_hf_openers, hr_keysOnRings, c_n_r, hf_rings, c_hf_on, c_hf_onMany, c_n_k, hf_keys, c_hf_keySteps, hr_feelsTold, c_hf_sixteenths, c_n_f, hf_features, c_hf_featureNames, c_hf_steps, c_hf_turnedFeatures))) else (
                let w_75 := F_Ho_readTurned hr_turnedTold t_length t_kind t_start t_end t_number t_sign t_letters t_fault t_faultPlace c_tape hf_turned
                let r_73 : Int32 := w_75.1
                let nw0_63 : Int32 := w_75.2.1
                let nw1_64 : Int32 := w_75.2.2.1
                let nw2_65 : Int32 := w_75.2.2.2.1
                let nw3_66 : Int32 := w_75.2.2.2.2.1
                let nw4_67 : Int32 := w_75.2.2.2.2.2.1
                let nw5_68 : Int32 := w_75.2.2.2.2.2.2.1
                let nw6_69 : Int64 := w_75.2.2.2.2.2.2.2.1
                let nw7_70 : Int32 := w_75.2.2.2.2.2.2.2.2.1
                let nw8_71 : Int32 := w_75.2.2.2.2.2.2.2.2.2.1
                let nw9_72 : Int32 := w_75.2.2.2.2.2.2.2.2.2.2
                (r_73, nw7_70, nw8_71, nw1_64, nw2_65, nw3_66, nw4_67, nw5_68, nw6_69, hf_roundMany, c_hf_roundDoors, nw0_63, nw9_72, hr_secondsTold, c_hf_seconds, c_n_d, hf_doors, c_hf_wanted, c_hf_openers, hr_keysOnRings, c_n_r, hf_rings, c_hf_on, c_hf_onMany, c_n_k, hf_keys, c_hf_keySteps, hr_feelsTold, c_hf_sixteenths, c_n_f, hf_features, c_hf_featureNames, c_hf_steps, c_hf_turnedFeatures))) else (
              let w_90 := F_Ho_readSeconds hr_secondsTold t_length t_kind t_start t_end t_number t_sign t_letters t_fault t_faultPlace c_tape c_hf_seconds
              let r_88 : Int32 := w_90.1
              let nw0_78 : Int32 := w_90.2.1
              let nw1_79 : Int32 := w_90.2.2.1
              let nw2_80 : Int32 := w_90.2.2.2.1
              let nw3_81 : Int32 := w_90.2.2.2.2.1
              let nw4_82 : Int32 := w_90.2.2.2.2.2.1
              let nw5_83 : Int32 := w_90.2.2.2.2.2.2.1
              let nw6_84 : Int64 := w_90.2.2.2.2.2.2.2.1
              let nw7_85 : Int32 := w_90.2.2.2.2.2.2.2.2.1
              let nw8_86 : Int32 := w_90.2.2.2.2.2.2.2.2.2.1
              let nw9_87 : Nat → Int32 := w_90.2.2.2.2.2.2.2.2.2.2
              (r_88, nw7_85, nw8_86, nw1_79, nw2_80, nw3_81, nw4_82, nw5_83, nw6_84, hf_roundMany, c_hf_roundDoors, hr_turnedTold, hf_turned, nw0_78, nw9_87, c_n_d, hf_doors, c_hf_wanted, c_hf_openers, hr_keysOnRings, c_n_r, hf_rings, c_hf_on, c_hf_onMany, c_n_k, hf_keys, c_hf_keySteps, hr_feelsTold, c_hf_sixteenths, c_n_f, hf_features, c_hf_featureNames, c_hf_steps, c_hf_turnedFeatures))) else (
            let w_107 := F_Ho_readDoor t_length t_kind t_start t_end t_number t_sign t_letters t_fault t_faultPlace c_tape c_n_f c_n_k c_n_r c_n_d hf_features hf_keys hf_rings hf_doors c_hf_wanted c_hf_openers
            let r_105 : Int32 := w_107.1
            let nw0_93 : Int32 := w_107.2.1
            let nw1_94 : Int32 := w_107.2.2.1
            let nw2_95 : Int32 := w_107.2.2.2.1
            let nw3_96 : Int32 := w_107.2.2.2.2.1
            let nw4_97 : Int32 := w_107.2.2.2.2.2.1
            let nw5_98 : Int64 := w_107.2.2.2.2.2.2.1
            let nw6_99 : Int32 := w_107.2.2.2.2.2.2.2.1
            let nw7_100 : Int32 := w_107.2.2.2.2.2.2.2.2.1
            let nw8_101 : Nat → Int64 := w_107.2.2.2.2.2.2.2.2.2.1
            let nw9_102 : Int32 := w_107.2.2.2.2.2.2.2.2.2.2.1
            let nw10_103 : Nat → Int32 := w_107.2.2.2.2.2.2.2.2.2.2.2.1
            let nw11_104 : Nat → Int32 := w_107.2.2.2.2.2.2.2.2.2.2.2.2
            (r_105, nw6_99, nw7_100, nw0_93, nw1_94, nw2_95, nw3_96, nw4_97, nw5_98, hf_roundMany, c_hf_roundDoors, hr_turnedTold, hf_turned, hr_secondsTold, c_hf_seconds, nw8_101, nw9_102, nw10_103, nw11_104, hr_keysOnRings, c_n_r, hf_rings, c_hf_on, c_hf_onMany, c_n_k, hf_keys, c_hf_keySteps, hr_feelsTold, c_hf_sixteenths, c_n_f, hf_features, c_hf_featureNames, c_hf_steps, c_hf_turnedFeatures))) else (
          let w_125 := F_Ho_readRing hr_keysOnRings t_length t_kind t_start t_end t_number t_sign t_letters t_fault t_faultPlace c_tape c_n_f c_n_k c_n_r c_n_d hf_features hf_keys hf_rings hf_doors c_hf_on c_hf_onMany
          let r_123 : Int32 := w_125.1
          let nw0_110 : Int32 := w_125.2.1
          let nw1_111 : Int32 := w_125.2.2.1
          let nw2_112 : Int32 := w_125.2.2.2.1
          let nw3_113 : Int32 := w_125.2.2.2.2.1
          let nw4_114 : Int32 := w_125.2.2.2.2.2.1
          let nw5_115 : Int64 := w_125.2.2.2.2.2.2.1
          let nw6_116 : Int32 := w_125.2.2.2.2.2.2.2.1
          let nw7_117 : Int32 := w_125.2.2.2.2.2.2.2.2.1
          let nw8_118 : Nat → Int64 := w_125.2.2.2.2.2.2.2.2.2.1
          let nw9_119 : Int32 := w_125.2.2.2.2.2.2.2.2.2.2.1
          let nw10_120 : Nat → Int32 := w_125.2.2.2.2.2.2.2.2.2.2.2.1
          let nw11_121 : Int32 := w_125.2.2.2.2.2.2.2.2.2.2.2.2.1
          let nw12_122 : Nat → Int32 := w_125.2.2.2.2.2.2.2.2.2.2.2.2.2
          (r_123, nw6_116, nw7_117, nw0_110, nw1_111, nw2_112, nw3_113, nw4_114, nw5_115, hf_roundMany, c_hf_roundDoors, hr_turnedTold, hf_turned, hr_secondsTold, c_hf_seconds, c_n_d, hf_doors, c_hf_wanted, c_hf_openers, nw11_121, nw8_118, nw9_119, nw12_122, nw10_120, c_n_k, hf_keys, c_hf_keySteps, hr_feelsTold, c_hf_sixteenths, c_n_f, hf_features, c_hf_featureNames, c_hf_steps, c_hf_turnedFeatures))) else (
        let w_141 := F_Ho_readKey t_length t_kind t_start t_end t_number t_sign t_letters t_fault t_faultPlace c_tape c_n_f c_n_k c_n_r c_n_d hf_features hf_keys hf_rings hf_doors c_hf_steps c_hf_keySteps
        let r_139 : Int32 := w_141.1
        let nw0_128 : Int32 := w_141.2.1
        let nw1_129 : Int32 := w_141.2.2.1
        let nw2_130 : Int32 := w_141.2.2.2.1
        let nw3_131 : Int32 := w_141.2.2.2.2.1
        let nw4_132 : Int32 := w_141.2.2.2.2.2.1
        let nw5_133 : Int64 := w_141.2.2.2.2.2.2.1
        let nw6_134 : Int32 := w_141.2.2.2.2.2.2.2.1
        let nw7_135 : Int32 := w_141.2.2.2.2.2.2.2.2.1
        let nw8_136 : Nat → Int32 := w_141.2.2.2.2.2.2.2.2.2.1
        let nw9_137 : Nat → Int64 := w_141.2.2.2.2.2.2.2.2.2.2.1
        let nw10_138 : Int32 := w_141.2.2.2.2.2.2.2.2.2.2.2
        (r_139, nw6_134, nw7_135, nw0_128, nw1_129, nw2_130, nw3_131, nw4_132, nw5_133, hf_roundMany, c_hf_roundDoors, hr_turnedTold, hf_turned, hr_secondsTold, c_hf_seconds, c_n_d, hf_doors, c_hf_wanted, c_hf_openers, hr_keysOnRings, c_n_r, hf_rings, c_hf_on, c_hf_onMany, nw9_137, nw10_138, nw8_136, hr_feelsTold, c_hf_sixteenths, c_n_f, hf_features, c_hf_featureNames, c_hf_steps, c_hf_turnedFeatures))) else (
      let w_156 := F_Ho_readFeels hr_feelsTold t_length t_end t_number t_sign t_letters t_fault t_faultPlace c_tape c_n_f hf_features c_hf_steps c_hf_sixteenths
      let r_154 : Int32 := w_156.1
      let nw0_144 : Int32 := w_156.2.1
      let nw1_145 : Int32 := w_156.2.2.1
      let nw2_146 : Int32 := w_156.2.2.2.1
      let nw3_147 : Int32 := w_156.2.2.2.2.1
      let nw4_148 : Int32 := w_156.2.2.2.2.2.1
      let nw5_149 : Int32 := w_156.2.2.2.2.2.2.1
      let nw6_150 : Int64 := w_156.2.2.2.2.2.2.2.1
      let nw7_151 : Int32 := w_156.2.2.2.2.2.2.2.2.1
      let nw8_152 : Int32 := w_156.2.2.2.2.2.2.2.2.2.1
      let nw9_153 : Nat → Int32 := w_156.2.2.2.2.2.2.2.2.2.2
      (r_154, nw7_151, nw8_152, nw1_145, nw2_146, nw3_147, nw4_148, nw5_149, nw6_150, hf_roundMany, c_hf_roundDoors, hr_turnedTold, hf_turned, hr_secondsTold, c_hf_seconds, c_n_d, hf_doors, c_hf_wanted, c_hf_openers, hr_keysOnRings, c_n_r, hf_rings, c_hf_on, c_hf_onMany, c_n_k, hf_keys, c_hf_keySteps, nw0_144, nw9_153, c_n_f, hf_features, c_hf_featureNames, c_hf_steps, c_hf_turnedFeatures))) else (
    let w_175 := F_Ho_readFeature t_length t_kind t_start t_end t_number t_sign t_letters t_fault t_faultPlace c_tape c_n_f c_n_k c_n_r c_n_d hf_features hf_keys hf_rings hf_doors c_hf_featureNames c_hf_steps c_hf_turnedFeatures c_hf_sixteenths
    let r_173 : Int32 := w_175.1
    let nw0_159 : Int32 := w_175.2.1
    let nw1_160 : Int32 := w_175.2.2.1
    let nw2_161 : Int32 := w_175.2.2.2.1
    let nw3_162 : Int32 := w_175.2.2.2.2.1
    let nw4_163 : Int32 := w_175.2.2.2.2.2.1
    let nw5_164 : Int64 := w_175.2.2.2.2.2.2.1
    let nw6_165 : Int32 := w_175.2.2.2.2.2.2.2.1
    let nw7_166 : Int32 := w_175.2.2.2.2.2.2.2.2.1
    let nw8_167 : Nat → Int64 := w_175.2.2.2.2.2.2.2.2.2.1
    let nw9_168 : Int32 := w_175.2.2.2.2.2.2.2.2.2.2.1
    let nw10_169 : Nat → Int64 := w_175.2.2.2.2.2.2.2.2.2.2.2.1
    let nw11_170 : Nat → Int32 := w_175.2.2.2.2.2.2.2.2.2.2.2.2.1
    let nw12_171 : Nat → Int32 := w_175.2.2.2.2.2.2.2.2.2.2.2.2.2.1
    let nw13_172 : Nat → Int32 := w_175.2.2.2.2.2.2.2.2.2.2.2.2.2.2
    (r_173, nw6_165, nw7_166, nw0_159, nw1_160, nw2_161, nw3_162, nw4_163, nw5_164, hf_roundMany, c_hf_roundDoors, hr_turnedTold, hf_turned, hr_secondsTold, c_hf_seconds, c_n_d, hf_doors, c_hf_wanted, c_hf_openers, hr_keysOnRings, c_n_r, hf_rings, c_hf_on, c_hf_onMany, c_n_k, hf_keys, c_hf_keySteps, hr_feelsTold, nw13_172, nw8_167, nw9_168, nw10_169, nw11_170, nw12_171))) := rfl
noncomputable def F_Ho_readAll_L29a (t_length : Int32) (c_tape : Nat → Int32) (nw2_3 : Int32) : Nat → Int32 → Int32 → Int32 → Int32 → Int32 → Int32 → Int32 → Int32 → Int32 → Int32 → Int64 → Int32 → Int32 → (Nat → Int64) → (Nat → Int64) → (Nat → Int64) → (Nat → Int64) → (Nat → Int64) → (Nat → Int32) → (Nat → Int32) → (Nat → Int32) → (Nat → Int32) → (Nat → Int32) → (Nat → Int32) → (Nat → Int32) → (Nat → Int32) → (Nat → Int32) → Int32 → Int32 → Int32 → Int32 → Int32 → Int32 → (Nat → Int32) → (Int32 × Int32 × Int32 × Int32 × Int32 × Int32 × Int32 × Int32 × Int32 × Int32 × Int64 × Int32 × Int32 × (Nat → Int64) × (Nat → Int64) × (Nat → Int64) × (Nat → Int64) × Int32 × Int32 × Int32 × Int32 × Int32 × Int32 × Int32 × (Nat → Int64) × (Nat → Int32) × (Nat → Int32) × (Nat → Int32) × (Nat → Int32) × (Nat → Int32) × (Nat → Int32) × (Nat → Int32) × (Nat → Int32) × (Nat → Int32) × (Nat → Int32)) := fun k9 => Nat.rec (motive := fun _ => Int32 → Int32 → Int32 → Int32 → Int32 → Int32 → Int32 → Int32 → Int32 → Int32 → Int64 → Int32 → Int32 → (Nat → Int64) → (Nat → Int64) → (Nat → Int64) → (Nat → Int64) → (Nat → Int64) → (Nat → Int32) → (Nat → Int32) → (Nat → Int32) → (Nat → Int32) → (Nat → Int32) → (Nat → Int32) → (Nat → Int32) → (Nat → Int32) → (Nat → Int32) → Int32 → Int32 → Int32 → Int32 → Int32 → Int32 → (Nat → Int32) → (Int32 × Int32 × Int32 × Int32 × Int32 × Int32 × Int32 × Int32 × Int32 × Int32 × Int64 × Int32 × Int32 × (Nat → Int64) × (Nat → Int64) × (Nat → Int64) × (Nat → Int64) × Int32 × Int32 × Int32 × Int32 × Int32 × Int32 × Int32 × (Nat → Int64) × (Nat → Int32) × (Nat → Int32) × (Nat → Int32) × (Nat → Int32) × (Nat → Int32) × (Nat → Int32) × (Nat → Int32) × (Nat → Int32) × (Nat → Int32) × (Nat → Int32))) (fun _ _ _ _ _ _ _ _ _ _ _ _ _ _ _ _ _ _ _ _ _ _ _ _ _ _ _ _ _ _ _ _ _ _ => default) (fun _ (G_L29a : Int32 → Int32 → Int32 → Int32 → Int32 → Int32 → Int32 → Int32 → Int32 → Int32 → Int64 → Int32 → Int32 → (Nat → Int64) → (Nat → Int64) → (Nat → Int64) → (Nat → Int64) → (Nat → Int64) → (Nat → Int32) → (Nat → Int32) → (Nat → Int32) → (Nat → Int32) → (Nat → Int32) → (Nat → Int32) → (Nat → Int32) → (Nat → Int32) → (Nat → Int32) → Int32 → Int32 → Int32 → Int32 → Int32 → Int32 → (Nat → Int32) → (Int32 × Int32 × Int32 × Int32 × Int32 × Int32 × Int32 × Int32 × Int32 × Int32 × Int64 × Int32 × Int32 × (Nat → Int64) × (Nat → Int64) × (Nat → Int64) × (Nat → Int64) × Int32 × Int32 × Int32 × Int32 × Int32 × Int32 × Int32 × (Nat → Int64) × (Nat → Int32) × (Nat → Int32) × (Nat → Int32) × (Nat → Int32) × (Nat → Int32) × (Nat → Int32) × (Nat → Int32) × (Nat → Int32) × (Nat → Int32) × (Nat → Int32))) => fun (v_133 : Int32) (v_134 : Int32) (v_135 : Int32) (v_136 : Int32) (v_137 : Int32) (v_138 : Int32) (v_139 : Int32) (v_140 : Int32) (v_141 : Int32) (v_142 : Int32) (v_143 : Int64) (v_144 : Int32) (v_145 : Int32) (g_146 : Nat → Int64) (g_147 : Nat → Int64) (g_148 : Nat → Int64) (g_149 : Nat → Int64) (g_150 : Nat → Int64) (g_151 : Nat → Int32) (g_152 : Nat → Int32) (g_153 : Nat → Int32) (g_154 : Nat → Int32) (g_155 : Nat → Int32) (g_156 : Nat → Int32) (g_157 : Nat → Int32) (g_158 : Nat → Int32) (g_159 : Nat → Int32) (v_160 : Int32) (v_161 : Int32) (v_162 : Int32) (v_163 : Int32) (v_164 : Int32) (v_165 : Int32) (g_166 : Nat → Int32) =>
    if 900 ≤ v_133 then (
      if v_144 = 0 then (
        ((1 : Int32), v_134, v_135, v_136, v_137, v_138, v_139, v_140, v_141, v_142, v_143, v_144, v_145, g_146, g_147, g_148, g_149, v_160, v_161, nw2_3, v_162, v_163, v_164, v_165, g_150, g_151, g_152, g_153, g_154, g_155, g_156, g_157, g_158, g_166, g_159)) else (
        ((0 : Int32), v_134, v_135, v_136, v_137, v_138, v_139, v_140, v_141, v_142, v_143, v_144, v_145, g_146, g_147, g_148, g_149, v_160, v_161, nw2_3, v_162, v_163, v_164, v_165, g_150, g_151, g_152, g_153, g_154, g_155, g_156, g_157, g_158, g_166, g_159))) else (
      let w_231 := F_Te_goesOn v_138 v_144
      let r_229 : Int32 := w_231
      if r_229 = 0 then (
        if v_144 = 0 then (
          ((1 : Int32), v_134, v_135, v_136, v_137, v_138, v_139, v_140, v_141, v_142, v_143, v_144, v_145, g_146, g_147, g_148, g_149, v_160, v_161, nw2_3, v_162, v_163, v_164, v_165, g_150, g_151, g_152, g_153, g_154, g_155, g_156, g_157, g_158, g_166, g_159)) else (
          ((0 : Int32), v_134, v_135, v_136, v_137, v_138, v_139, v_140, v_141, v_142, v_143, v_144, v_145, g_146, g_147, g_148, g_149, v_160, v_161, nw2_3, v_162, v_163, v_164, v_165, g_150, g_151, g_152, g_153, g_154, g_155, g_156, g_157, g_158, g_166, g_159))) else (
        let w_275 := F_Ho_readPart v_134 v_135 v_136 v_137 t_length v_138 v_139 v_140 v_141 v_142 v_143 v_144 v_145 c_tape g_146 g_147 g_148 g_149 v_160 v_161 v_162 v_163 v_164 v_165 g_150 g_151 g_152 g_153 g_154 g_155 g_156 g_157 g_158 g_166 g_159
        let r_273 : Int32 := w_275.1
        let nw0_240 : Int32 := w_275.2.1
        let nw1_241 : Int32 := w_275.2.2.1
        let nw2_242 : Int32 := w_275.2.2.2.1
        let nw3_243 : Int32 := w_275.2.2.2.2.1
        let nw4_244 : Int32 := w_275.2.2.2.2.2.1
        let nw5_245 : Int32 := w_275.2.2.2.2.2.2.1
        let nw6_246 : Int32 := w_275.2.2.2.2.2.2.2.1
        let nw7_247 : Int64 := w_275.2.2.2.2.2.2.2.2.1
        let nw8_248 : Int32 := w_275.2.2.2.2.2.2.2.2.2.1
        let nw9_249 : Nat → Int32 := w_275.2.2.2.2.2.2.2.2.2.2.1
        let nw10_250 : Int32 := w_275.2.2.2.2.2.2.2.2.2.2.2.1
        let nw11_251 : Int32 := w_275.2.2.2.2.2.2.2.2.2.2.2.2.1
        let nw12_252 : Int32 := w_275.2.2.2.2.2.2.2.2.2.2.2.2.2.1
        let nw13_253 : Nat → Int32 := w_275.2.2.2.2.2.2.2.2.2.2.2.2.2.2.1
        let nw14_254 : Nat → Int64 := w_275.2.2.2.2.2.2.2.2.2.2.2.2.2.2.2.1
        let nw15_255 : Int32 := w_275.2.2.2.2.2.2.2.2.2.2.2.2.2.2.2.2.1
        let nw16_256 : Nat → Int32 := w_275.2.2.2.2.2.2.2.2.2.2.2.2.2.2.2.2.2.1
        let nw17_257 : Nat → Int32 := w_275.2.2.2.2.2.2.2.2.2.2.2.2.2.2.2.2.2.2.1
        let nw18_258 : Int32 := w_275.2.2.2.2.2.2.2.2.2.2.2.2.2.2.2.2.2.2.2.1
        let nw19_259 : Nat → Int64 := w_275.2.2.2.2.2.2.2.2.2.2.2.2.2.2.2.2.2.2.2.2.1
        let nw20_260 : Int32 := w_275.2.2.2.2.2.2.2.2.2.2.2.2.2.2.2.2.2.2.2.2.2.1
        let nw21_261 : Nat → Int32 := w_275.2.2.2.2.2.2.2.2.2.2.2.2.2.2.2.2.2.2.2.2.2.2.1
        let nw22_262 : Nat → Int32 := w_275.2.2.2.2.2.2.2.2.2.2.2.2.2.2.2.2.2.2.2.2.2.2.2.1
        let nw23_263 : Nat → Int64 := w_275.2.2.2.2.2.2.2.2.2.2.2.2.2.2.2.2.2.2.2.2.2.2.2.2.1
        let nw24_264 : Int32 := w_275.2.2.2.2.2.2.2.2.2.2.2.2.2.2.2.2.2.2.2.2.2.2.2.2.2.1
        let nw25_265 : Nat → Int32 := w_275.2.2.2.2.2.2.2.2.2.2.2.2.2.2.2.2.2.2.2.2.2.2.2.2.2.2.1
        let nw26_266 : Int32 := w_275.2.2.2.2.2.2.2.2.2.2.2.2.2.2.2.2.2.2.2.2.2.2.2.2.2.2.2.1
        let nw27_267 : Nat → Int32 := w_275.2.2.2.2.2.2.2.2.2.2.2.2.2.2.2.2.2.2.2.2.2.2.2.2.2.2.2.2.1
        let nw28_268 : Nat → Int64 := w_275.2.2.2.2.2.2.2.2.2.2.2.2.2.2.2.2.2.2.2.2.2.2.2.2.2.2.2.2.2.1
        let nw29_269 : Int32 := w_275.2.2.2.2.2.2.2.2.2.2.2.2.2.2.2.2.2.2.2.2.2.2.2.2.2.2.2.2.2.2.1
        let nw30_270 : Nat → Int64 := w_275.2.2.2.2.2.2.2.2.2.2.2.2.2.2.2.2.2.2.2.2.2.2.2.2.2.2.2.2.2.2.2.1
        let nw31_271 : Nat → Int32 := w_275.2.2.2.2.2.2.2.2.2.2.2.2.2.2.2.2.2.2.2.2.2.2.2.2.2.2.2.2.2.2.2.2.1
        let nw32_272 : Nat → Int32 := w_275.2.2.2.2.2.2.2.2.2.2.2.2.2.2.2.2.2.2.2.2.2.2.2.2.2.2.2.2.2.2.2.2.2
        G_L29a (v_133 + 1) nw18_258 nw26_266 nw12_252 nw10_250 nw2_242 nw3_243 nw4_244 nw5_245 nw6_246 nw7_247 nw0_240 nw1_241 nw28_268 nw23_263 nw19_259 nw14_254 nw30_270 nw31_271 nw32_272 nw27_267 nw25_265 nw21_261 nw22_262 nw16_256 nw17_257 nw9_249 nw29_269 nw24_264 nw20_260 nw15_255 nw11_251 nw8_248 nw13_253))) k9
theorem F_Ho_readAll_L29a_s (t_length : Int32) (c_tape : Nat → Int32) (nw2_3 : Int32) (n9 : Nat) (v_133 : Int32) (v_134 : Int32) (v_135 : Int32) (v_136 : Int32) (v_137 : Int32) (v_138 : Int32) (v_139 : Int32) (v_140 : Int32) (v_141 : Int32) (v_142 : Int32) (v_143 : Int64) (v_144 : Int32) (v_145 : Int32) (g_146 : Nat → Int64) (g_147 : Nat → Int64) (g_148 : Nat → Int64) (g_149 : Nat → Int64) (g_150 : Nat → Int64) (g_151 : Nat → Int32) (g_152 : Nat → Int32) (g_153 : Nat → Int32) (g_154 : Nat → Int32) (g_155 : Nat → Int32) (g_156 : Nat → Int32) (g_157 : Nat → Int32) (g_158 : Nat → Int32) (g_159 : Nat → Int32) (v_160 : Int32) (v_161 : Int32) (v_162 : Int32) (v_163 : Int32) (v_164 : Int32) (v_165 : Int32) (g_166 : Nat → Int32) : F_Ho_readAll_L29a t_length c_tape nw2_3 (n9 + 1) v_133 v_134 v_135 v_136 v_137 v_138 v_139 v_140 v_141 v_142 v_143 v_144 v_145 g_146 g_147 g_148 g_149 g_150 g_151 g_152 g_153 g_154 g_155 g_156 g_157 g_158 g_159 v_160 v_161 v_162 v_163 v_164 v_165 g_166 = (
    if 900 ≤ v_133 then (
      if v_144 = 0 then (
        ((1 : Int32), v_134, v_135, v_136, v_137, v_138, v_139, v_140, v_141, v_142, v_143, v_144, v_145, g_146, g_147, g_148, g_149, v_160, v_161, nw2_3, v_162, v_163, v_164, v_165, g_150, g_151, g_152, g_153, g_154, g_155, g_156, g_157, g_158, g_166, g_159)) else (
        ((0 : Int32), v_134, v_135, v_136, v_137, v_138, v_139, v_140, v_141, v_142, v_143, v_144, v_145, g_146, g_147, g_148, g_149, v_160, v_161, nw2_3, v_162, v_163, v_164, v_165, g_150, g_151, g_152, g_153, g_154, g_155, g_156, g_157, g_158, g_166, g_159))) else (
      let w_231 := F_Te_goesOn v_138 v_144
      let r_229 : Int32 := w_231
      if r_229 = 0 then (
        if v_144 = 0 then (
          ((1 : Int32), v_134, v_135, v_136, v_137, v_138, v_139, v_140, v_141, v_142, v_143, v_144, v_145, g_146, g_147, g_148, g_149, v_160, v_161, nw2_3, v_162, v_163, v_164, v_165, g_150, g_151, g_152, g_153, g_154, g_155, g_156, g_157, g_158, g_166, g_159)) else (
          ((0 : Int32), v_134, v_135, v_136, v_137, v_138, v_139, v_140, v_141, v_142, v_143, v_144, v_145, g_146, g_147, g_148, g_149, v_160, v_161, nw2_3, v_162, v_163, v_164, v_165, g_150, g_151, g_152, g_153, g_154, g_155, g_156, g_157, g_158, g_166, g_159))) else (
        let w_275 := F_Ho_readPart v_134 v_135 v_136 v_137 t_length v_138 v_139 v_140 v_141 v_142 v_143 v_144 v_145 c_tape g_146 g_147 g_148 g_149 v_160 v_161 v_162 v_163 v_164 v_165 g_150 g_151 g_152 g_153 g_154 g_155 g_156 g_157 g_158 g_166 g_159
        let r_273 : Int32 := w_275.1
        let nw0_240 : Int32 := w_275.2.1
        let nw1_241 : Int32 := w_275.2.2.1
        let nw2_242 : Int32 := w_275.2.2.2.1
        let nw3_243 : Int32 := w_275.2.2.2.2.1
        let nw4_244 : Int32 := w_275.2.2.2.2.2.1
        let nw5_245 : Int32 := w_275.2.2.2.2.2.2.1
        let nw6_246 : Int32 := w_275.2.2.2.2.2.2.2.1
        let nw7_247 : Int64 := w_275.2.2.2.2.2.2.2.2.1
        let nw8_248 : Int32 := w_275.2.2.2.2.2.2.2.2.2.1
        let nw9_249 : Nat → Int32 := w_275.2.2.2.2.2.2.2.2.2.2.1
        let nw10_250 : Int32 := w_275.2.2.2.2.2.2.2.2.2.2.2.1
        let nw11_251 : Int32 := w_275.2.2.2.2.2.2.2.2.2.2.2.2.1
        let nw12_252 : Int32 := w_275.2.2.2.2.2.2.2.2.2.2.2.2.2.1
        let nw13_253 : Nat → Int32 := w_275.2.2.2.2.2.2.2.2.2.2.2.2.2.2.1
        let nw14_254 : Nat → Int64 := w_275.2.2.2.2.2.2.2.2.2.2.2.2.2.2.2.1
        let nw15_255 : Int32 := w_275.2.2.2.2.2.2.2.2.2.2.2.2.2.2.2.2.1
        let nw16_256 : Nat → Int32 := w_275.2.2.2.2.2.2.2.2.2.2.2.2.2.2.2.2.2.1
        let nw17_257 : Nat → Int32 := w_275.2.2.2.2.2.2.2.2.2.2.2.2.2.2.2.2.2.2.1
        let nw18_258 : Int32 := w_275.2.2.2.2.2.2.2.2.2.2.2.2.2.2.2.2.2.2.2.1
        let nw19_259 : Nat → Int64 := w_275.2.2.2.2.2.2.2.2.2.2.2.2.2.2.2.2.2.2.2.2.1
        let nw20_260 : Int32 := w_275.2.2.2.2.2.2.2.2.2.2.2.2.2.2.2.2.2.2.2.2.2.1
        let nw21_261 : Nat → Int32 := w_275.2.2.2.2.2.2.2.2.2.2.2.2.2.2.2.2.2.2.2.2.2.2.1
        let nw22_262 : Nat → Int32 := w_275.2.2.2.2.2.2.2.2.2.2.2.2.2.2.2.2.2.2.2.2.2.2.2.1
        let nw23_263 : Nat → Int64 := w_275.2.2.2.2.2.2.2.2.2.2.2.2.2.2.2.2.2.2.2.2.2.2.2.2.1
        let nw24_264 : Int32 := w_275.2.2.2.2.2.2.2.2.2.2.2.2.2.2.2.2.2.2.2.2.2.2.2.2.2.1
        let nw25_265 : Nat → Int32 := w_275.2.2.2.2.2.2.2.2.2.2.2.2.2.2.2.2.2.2.2.2.2.2.2.2.2.2.1
        let nw26_266 : Int32 := w_275.2.2.2.2.2.2.2.2.2.2.2.2.2.2.2.2.2.2.2.2.2.2.2.2.2.2.2.1
        let nw27_267 : Nat → Int32 := w_275.2.2.2.2.2.2.2.2.2.2.2.2.2.2.2.2.2.2.2.2.2.2.2.2.2.2.2.2.1
        let nw28_268 : Nat → Int64 := w_275.2.2.2.2.2.2.2.2.2.2.2.2.2.2.2.2.2.2.2.2.2.2.2.2.2.2.2.2.2.1
        let nw29_269 : Int32 := w_275.2.2.2.2.2.2.2.2.2.2.2.2.2.2.2.2.2.2.2.2.2.2.2.2.2.2.2.2.2.2.1
        let nw30_270 : Nat → Int64 := w_275.2.2.2.2.2.2.2.2.2.2.2.2.2.2.2.2.2.2.2.2.2.2.2.2.2.2.2.2.2.2.2.1
        let nw31_271 : Nat → Int32 := w_275.2.2.2.2.2.2.2.2.2.2.2.2.2.2.2.2.2.2.2.2.2.2.2.2.2.2.2.2.2.2.2.2.1
        let nw32_272 : Nat → Int32 := w_275.2.2.2.2.2.2.2.2.2.2.2.2.2.2.2.2.2.2.2.2.2.2.2.2.2.2.2.2.2.2.2.2.2
        (F_Ho_readAll_L29a t_length c_tape nw2_3 n9) (v_133 + 1) nw18_258 nw26_266 nw12_252 nw10_250 nw2_242 nw3_243 nw4_244 nw5_245 nw6_246 nw7_247 nw0_240 nw1_241 nw28_268 nw23_263 nw19_259 nw14_254 nw30_270 nw31_271 nw32_272 nw27_267 nw25_265 nw21_261 nw22_262 nw16_256 nw17_257 nw9_249 nw29_269 nw24_264 nw20_260 nw15_255 nw11_251 nw8_248 nw13_253))) := rfl
noncomputable def F_Ho_readAll (t_length : Int32) (t_kind : Int32) (t_start : Int32) (t_end : Int32) (t_number : Int32) (t_sign : Int32) (t_letters : Int64) (t_fault : Int32) (t_faultPlace : Int32) (c_tape : Nat → Int32) (c_n_f : Nat → Int64) (c_n_k : Nat → Int64) (c_n_r : Nat → Int64) (c_n_d : Nat → Int64) (c_hf_featureNames : Nat → Int64) (c_hf_steps : Nat → Int32) (c_hf_turnedFeatures : Nat → Int32) (c_hf_sixteenths : Nat → Int32) (c_hf_keySteps : Nat → Int32) (c_hf_on : Nat → Int32) (c_hf_onMany : Nat → Int32) (c_hf_wanted : Nat → Int32) (c_hf_openers : Nat → Int32) (c_hf_seconds : Nat → Int32) (c_hf_roundDoors : Nat → Int32) : Int32 × Int32 × Int32 × Int32 × Int32 × Int32 × Int32 × Int32 × Int32 × Int32 × Int64 × Int32 × Int32 × (Nat → Int64) × (Nat → Int64) × (Nat → Int64) × (Nat → Int64) × Int32 × Int32 × Int32 × Int32 × Int32 × Int32 × Int32 × (Nat → Int64) × (Nat → Int32) × (Nat → Int32) × (Nat → Int32) × (Nat → Int32) × (Nat → Int32) × (Nat → Int32) × (Nat → Int32) × (Nat → Int32) × (Nat → Int32) × (Nat → Int32) :=
  let w_11 := F_Ho_clear c_hf_seconds
  let nw0_1 : Int32 := w_11.1
  let nw1_2 : Int32 := w_11.2.1
  let nw2_3 : Int32 := w_11.2.2.1
  let nw3_4 : Int32 := w_11.2.2.2.1
  let nw4_5 : Int32 := w_11.2.2.2.2.1
  let nw5_6 : Int32 := w_11.2.2.2.2.2.1
  let nw6_7 : Int32 := w_11.2.2.2.2.2.2.1
  let nw7_8 : Nat → Int32 := w_11.2.2.2.2.2.2.2
  F_Ho_readAll_L29a t_length c_tape nw2_3 ((2147483647 - (0 : Int32).toInt).toNat + 1) (0 : Int32) (0 : Int32) (0 : Int32) (0 : Int32) (0 : Int32) t_kind t_start t_end t_number t_sign t_letters t_fault t_faultPlace c_n_f c_n_k c_n_r c_n_d c_hf_featureNames c_hf_steps c_hf_turnedFeatures c_hf_sixteenths c_hf_keySteps c_hf_on c_hf_onMany c_hf_wanted c_hf_openers c_hf_roundDoors nw0_1 nw1_2 nw3_4 nw4_5 nw5_6 nw6_7 nw7_8
theorem F_Ho_readAll_s (t_length : Int32) (t_kind : Int32) (t_start : Int32) (t_end : Int32) (t_number : Int32) (t_sign : Int32) (t_letters : Int64) (t_fault : Int32) (t_faultPlace : Int32) (c_tape : Nat → Int32) (c_n_f : Nat → Int64) (c_n_k : Nat → Int64) (c_n_r : Nat → Int64) (c_n_d : Nat → Int64) (c_hf_featureNames : Nat → Int64) (c_hf_steps : Nat → Int32) (c_hf_turnedFeatures : Nat → Int32) (c_hf_sixteenths : Nat → Int32) (c_hf_keySteps : Nat → Int32) (c_hf_on : Nat → Int32) (c_hf_onMany : Nat → Int32) (c_hf_wanted : Nat → Int32) (c_hf_openers : Nat → Int32) (c_hf_seconds : Nat → Int32) (c_hf_roundDoors : Nat → Int32) : F_Ho_readAll t_length t_kind t_start t_end t_number t_sign t_letters t_fault t_faultPlace c_tape c_n_f c_n_k c_n_r c_n_d c_hf_featureNames c_hf_steps c_hf_turnedFeatures c_hf_sixteenths c_hf_keySteps c_hf_on c_hf_onMany c_hf_wanted c_hf_openers c_hf_seconds c_hf_roundDoors = (
  let w_11 := F_Ho_clear c_hf_seconds
  let nw0_1 : Int32 := w_11.1
  let nw1_2 : Int32 := w_11.2.1
  let nw2_3 : Int32 := w_11.2.2.1
  let nw3_4 : Int32 := w_11.2.2.2.1
  let nw4_5 : Int32 := w_11.2.2.2.2.1
  let nw5_6 : Int32 := w_11.2.2.2.2.2.1
  let nw6_7 : Int32 := w_11.2.2.2.2.2.2.1
  let nw7_8 : Nat → Int32 := w_11.2.2.2.2.2.2.2
  F_Ho_readAll_L29a t_length c_tape nw2_3 ((2147483647 - (0 : Int32).toInt).toNat + 1) (0 : Int32) (0 : Int32) (0 : Int32) (0 : Int32) (0 : Int32) t_kind t_start t_end t_number t_sign t_letters t_fault t_faultPlace c_n_f c_n_k c_n_r c_n_d c_hf_featureNames c_hf_steps c_hf_turnedFeatures c_hf_sixteenths c_hf_keySteps c_hf_on c_hf_onMany c_hf_wanted c_hf_openers c_hf_roundDoors nw0_1 nw1_2 nw3_4 nw4_5 nw5_6 nw6_7 nw7_8) := rfl
noncomputable def F_Da_refused (k : Int32) : Int32 :=
  k
theorem F_Da_refused_s (k : Int32) : F_Da_refused k = (
  k) := rfl
noncomputable def F_Da_done : Int32 :=
  (0 : Int32)
theorem F_Da_done_s : F_Da_done = (
  (0 : Int32)) := rfl
noncomputable def F_Da_none (k : Int32) : Int32 :=
  k
theorem F_Da_none_s (k : Int32) : F_Da_none k = (
  k) := rfl
noncomputable def F_Da_told : Int32 :=
  (0 : Int32)
theorem F_Da_told_s : F_Da_told = (
  (0 : Int32)) := rfl
noncomputable def F_X_feed (t_fed : Int32) (c_tape : Nat → Int32) (k1 : Int32) (k2 : Int32) (k3 : Int32) (k4 : Int32) (k5 : Int32) : Int32 × Int32 × (Nat → Int32) :=
  let w_3 := F_Te_hasRoom t_fed
  let r_1 : Int32 := w_3
  if r_1 = 0 then (
    ((-1 : Int32), t_fed, c_tape)) else (
    let w_10 := F_Te_append t_fed c_tape k1
    let nw0_6 : Int32 := w_10.1
    let nw1_7 : Nat → Int32 := w_10.2
    let w_15 := F_Te_append nw0_6 nw1_7 k2
    let nw0_11 : Int32 := w_15.1
    let nw1_12 : Nat → Int32 := w_15.2
    let w_20 := F_Te_append nw0_11 nw1_12 k3
    let nw0_16 : Int32 := w_20.1
    let nw1_17 : Nat → Int32 := w_20.2
    let w_25 := F_Te_append nw0_16 nw1_17 k4
    let nw0_21 : Int32 := w_25.1
    let nw1_22 : Nat → Int32 := w_25.2
    let w_30 := F_Te_append nw0_21 nw1_22 k5
    let nw0_26 : Int32 := w_30.1
    let nw1_27 : Nat → Int32 := w_30.2
    (nw0_26, nw0_26, nw1_27))
theorem F_X_feed_s (t_fed : Int32) (c_tape : Nat → Int32) (k1 : Int32) (k2 : Int32) (k3 : Int32) (k4 : Int32) (k5 : Int32) : F_X_feed t_fed c_tape k1 k2 k3 k4 k5 = (
  let w_3 := F_Te_hasRoom t_fed
  let r_1 : Int32 := w_3
  if r_1 = 0 then (
    ((-1 : Int32), t_fed, c_tape)) else (
    let w_10 := F_Te_append t_fed c_tape k1
    let nw0_6 : Int32 := w_10.1
    let nw1_7 : Nat → Int32 := w_10.2
    let w_15 := F_Te_append nw0_6 nw1_7 k2
    let nw0_11 : Int32 := w_15.1
    let nw1_12 : Nat → Int32 := w_15.2
    let w_20 := F_Te_append nw0_11 nw1_12 k3
    let nw0_16 : Int32 := w_20.1
    let nw1_17 : Nat → Int32 := w_20.2
    let w_25 := F_Te_append nw0_16 nw1_17 k4
    let nw0_21 : Int32 := w_25.1
    let nw1_22 : Nat → Int32 := w_25.2
    let w_30 := F_Te_append nw0_21 nw1_22 k5
    let nw0_26 : Int32 := w_30.1
    let nw1_27 : Nat → Int32 := w_30.2
    (nw0_26, nw0_26, nw1_27))) := rfl
noncomputable def F_X_house (h_features : Int32) (h_keys : Int32) (h_lent : Int32) (h_rings : Int32) (h_doors : Int32) (h_turned : Int32) (h_roundMany : Int32) (c_h_featureNames : Nat → Int64) (c_h_steps : Nat → Int32) (c_h_turnedFeatures : Nat → Int32) (c_h_sixteenths : Nat → Int32) (c_h_keySteps : Nat → Int32) (c_h_on : Nat → Int32) (c_h_onMany : Nat → Int32) (c_h_wanted : Nat → Int32) (c_h_openers : Nat → Int32) (c_h_seconds : Nat → Int32) (c_h_roundDoors : Nat → Int32) (o_held : Int32) (t_fed : Int32) (t_length : Int32) (t_kind : Int32) (t_start : Int32) (t_end : Int32) (t_number : Int32) (t_sign : Int32) (t_letters : Int64) (t_fault : Int32) (t_faultPlace : Int32) (c_tape : Nat → Int32) (hr_keysOnRings : Int32) (hr_feelsTold : Int32) (hr_secondsTold : Int32) (hr_turnedTold : Int32) (c_n_f : Nat → Int64) (c_n_k : Nat → Int64) (c_n_r : Nat → Int64) (c_n_d : Nat → Int64) (hf_features : Int32) (hf_keys : Int32) (hf_lent : Int32) (hf_rings : Int32) (hf_doors : Int32) (hf_turned : Int32) (hf_roundMany : Int32) (c_hf_featureNames : Nat → Int64) (c_hf_steps : Nat → Int32) (c_hf_turnedFeatures : Nat → Int32) (c_hf_sixteenths : Nat → Int32) (c_hf_keySteps : Nat → Int32) (c_hf_on : Nat → Int32) (c_hf_onMany : Nat → Int32) (c_hf_wanted : Nat → Int32) (c_hf_openers : Nat → Int32) (c_hf_seconds : Nat → Int32) (c_hf_roundDoors : Nat → Int32) (k1 : Int32) : Int32 × Int32 × Int32 × Int32 × Int32 × Int32 × Int32 × Int32 × Int32 × (Nat → Int64) × (Nat → Int32) × (Nat → Int32) × (Nat → Int32) × (Nat → Int32) × (Nat → Int32) × (Nat → Int32) × (Nat → Int32) × (Nat → Int32) × (Nat → Int32) × (Nat → Int32) × Int32 × Int32 × Int32 × Int32 × Int32 × Int32 × Int32 × Int32 × Int64 × Int32 × Int32 × Int32 × Int32 × Int32 × Int32 × (Nat → Int64) × (Nat → Int64) × (Nat → Int64) × (Nat → Int64) × Int32 × Int32 × Int32 × Int32 × Int32 × Int32 × Int32 × (Nat → Int64) × (Nat → Int32) × (Nat → Int32) × (Nat → Int32) × (Nat → Int32) × (Nat → Int32) × (Nat → Int32) × (Nat → Int32) × (Nat → Int32) × (Nat → Int32) × (Nat → Int32) :=
  if k1 < 0 then (
    let w_6 := F_Da_none 5
    let nw0_3 : Int32 := w_6
    ((-1 : Int32), nw0_3, h_features, h_keys, h_lent, h_rings, h_doors, h_turned, h_roundMany, c_h_featureNames, c_h_steps, c_h_turnedFeatures, c_h_sixteenths, c_h_keySteps, c_h_on, c_h_onMany, c_h_wanted, c_h_openers, c_h_seconds, c_h_roundDoors, o_held, t_fed, t_length, t_kind, t_start, t_end, t_number, t_sign, t_letters, t_fault, t_faultPlace, hr_keysOnRings, hr_feelsTold, hr_secondsTold, hr_turnedTold, c_n_f, c_n_k, c_n_r, c_n_d, hf_features, hf_keys, hf_lent, hf_rings, hf_doors, hf_turned, hf_roundMany, c_hf_featureNames, c_hf_steps, c_hf_turnedFeatures, c_hf_sixteenths, c_hf_keySteps, c_hf_on, c_hf_onMany, c_hf_wanted, c_hf_openers, c_hf_seconds, c_hf_roundDoors)) else (
    if k1 ≤ t_fed then (
      let w_23 := F_Te_begin t_number t_sign t_letters c_tape k1
      let nw0_11 : Int32 := w_23.1
      let nw1_12 : Int32 := w_23.2.1
      let nw2_13 : Int32 := w_23.2.2.1
      let nw3_14 : Int32 := w_23.2.2.2.1
      let nw4_15 : Int32 := w_23.2.2.2.2.1
      let nw5_16 : Int32 := w_23.2.2.2.2.2.1
      let nw6_17 : Int32 := w_23.2.2.2.2.2.2.1
      let nw7_18 : Int64 := w_23.2.2.2.2.2.2.2.1
      let nw8_19 : Int32 := w_23.2.2.2.2.2.2.2.2.1
      let nw9_20 : Int32 := w_23.2.2.2.2.2.2.2.2.2
      let w_60 := F_Ho_readAll nw1_12 nw2_13 nw3_14 nw4_15 nw5_16 nw6_17 nw7_18 nw8_19 nw9_20 c_tape c_n_f c_n_k c_n_r c_n_d c_hf_featureNames c_hf_steps c_hf_turnedFeatures c_hf_sixteenths c_hf_keySteps c_hf_on c_hf_onMany c_hf_wanted c_hf_openers c_hf_seconds c_hf_roundDoors
      let r_58 : Int32 := w_60.1
      let nw0_24 : Int32 := w_60.2.1
      let nw1_25 : Int32 := w_60.2.2.1
      let nw2_26 : Int32 := w_60.2.2.2.1
      let nw3_27 : Int32 := w_60.2.2.2.2.1
      let nw4_28 : Int32 := w_60.2.2.2.2.2.1
      let nw5_29 : Int32 := w_60.2.2.2.2.2.2.1
      let nw6_30 : Int32 := w_60.2.2.2.2.2.2.2.1
      let nw7_31 : Int32 := w_60.2.2.2.2.2.2.2.2.1
      let nw8_32 : Int32 := w_60.2.2.2.2.2.2.2.2.2.1
      let nw9_33 : Int64 := w_60.2.2.2.2.2.2.2.2.2.2.1
      let nw10_34 : Int32 := w_60.2.2.2.2.2.2.2.2.2.2.2.1
      let nw11_35 : Int32 := w_60.2.2.2.2.2.2.2.2.2.2.2.2.1
      let nw12_36 : Nat → Int64 := w_60.2.2.2.2.2.2.2.2.2.2.2.2.2.1
      let nw13_37 : Nat → Int64 := w_60.2.2.2.2.2.2.2.2.2.2.2.2.2.2.1
      let nw14_38 : Nat → Int64 := w_60.2.2.2.2.2.2.2.2.2.2.2.2.2.2.2.1
      let nw15_39 : Nat → Int64 := w_60.2.2.2.2.2.2.2.2.2.2.2.2.2.2.2.2.1
      let nw16_40 : Int32 := w_60.2.2.2.2.2.2.2.2.2.2.2.2.2.2.2.2.2.1
      let nw17_41 : Int32 := w_60.2.2.2.2.2.2.2.2.2.2.2.2.2.2.2.2.2.2.1
      let nw18_42 : Int32 := w_60.2.2.2.2.2.2.2.2.2.2.2.2.2.2.2.2.2.2.2.1
      let nw19_43 : Int32 := w_60.2.2.2.2.2.2.2.2.2.2.2.2.2.2.2.2.2.2.2.2.1
      let nw20_44 : Int32 := w_60.2.2.2.2.2.2.2.2.2.2.2.2.2.2.2.2.2.2.2.2.2.1
      let nw21_45 : Int32 := w_60.2.2.2.2.2.2.2.2.2.2.2.2.2.2.2.2.2.2.2.2.2.2.1
      let nw22_46 : Int32 := w_60.2.2.2.2.2.2.2.2.2.2.2.2.2.2.2.2.2.2.2.2.2.2.2.1
      let nw23_47 : Nat → Int64 := w_60.2.2.2.2.2.2.2.2.2.2.2.2.2.2.2.2.2.2.2.2.2.2.2.2.1
      let nw24_48 : Nat → Int32 := w_60.2.2.2.2.2.2.2.2.2.2.2.2.2.2.2.2.2.2.2.2.2.2.2.2.2.1
      let nw25_49 : Nat → Int32 := w_60.2.2.2.2.2.2.2.2.2.2.2.2.2.2.2.2.2.2.2.2.2.2.2.2.2.2.1
      let nw26_50 : Nat → Int32 := w_60.2.2.2.2.2.2.2.2.2.2.2.2.2.2.2.2.2.2.2.2.2.2.2.2.2.2.2.1
      let nw27_51 : Nat → Int32 := w_60.2.2.2.2.2.2.2.2.2.2.2.2.2.2.2.2.2.2.2.2.2.2.2.2.2.2.2.2.1
      let nw28_52 : Nat → Int32 := w_60.2.2.2.2.2.2.2.2.2.2.2.2.2.2.2.2.2.2.2.2.2.2.2.2.2.2.2.2.2.1
      let nw29_53 : Nat → Int32 := w_60.2.2.2.2.2.2.2.2.2.2.2.2.2.2.2.2.2.2.2.2.2.2.2.2.2.2.2.2.2.2.1
      let nw30_54 : Nat → Int32 := w_60.2.2.2.2.2.2.2.2.2.2.2.2.2.2.2.2.2.2.2.2.2.2.2.2.2.2.2.2.2.2.2.1
      let nw31_55 : Nat → Int32 := w_60.2.2.2.2.2.2.2.2.2.2.2.2.2.2.2.2.2.2.2.2.2.2.2.2.2.2.2.2.2.2.2.2.1
      let nw32_56 : Nat → Int32 := w_60.2.2.2.2.2.2.2.2.2.2.2.2.2.2.2.2.2.2.2.2.2.2.2.2.2.2.2.2.2.2.2.2.2.1
      let nw33_57 : Nat → Int32 := w_60.2.2.2.2.2.2.2.2.2.2.2.2.2.2.2.2.2.2.2.2.2.2.2.2.2.2.2.2.2.2.2.2.2.2
      if r_58 = 0 then (
        let w_97 := F_Da_none 10
        let nw0_94 : Int32 := w_97
        ((-1 : Int32), nw0_94, h_features, h_keys, h_lent, h_rings, h_doors, h_turned, h_roundMany, c_h_featureNames, c_h_steps, c_h_turnedFeatures, c_h_sixteenths, c_h_keySteps, c_h_on, c_h_onMany, c_h_wanted, c_h_openers, c_h_seconds, c_h_roundDoors, o_held, nw0_11, nw1_12, nw4_28, nw5_29, nw6_30, nw7_31, nw8_32, nw9_33, nw10_34, nw11_35, nw0_24, nw1_25, nw2_26, nw3_27, nw12_36, nw13_37, nw14_38, nw15_39, nw16_40, nw17_41, nw18_42, nw19_43, nw20_44, nw21_45, nw22_46, nw23_47, nw24_48, nw25_49, nw26_50, nw27_51, nw28_52, nw29_53, nw30_54, nw31_55, nw32_56, nw33_57)) else (
        let w_83 := F_Ho_copy c_h_featureNames c_h_steps c_h_turnedFeatures c_h_sixteenths c_h_keySteps c_h_on c_h_onMany c_h_wanted c_h_openers c_h_seconds c_h_roundDoors nw16_40 nw17_41 nw18_42 nw19_43 nw20_44 nw21_45 nw22_46 nw23_47 nw24_48 nw25_49 nw26_50 nw27_51 nw28_52 nw29_53 nw30_54 nw31_55 nw32_56 nw33_57
        let nw0_63 : Int32 := w_83.1
        let nw1_64 : Int32 := w_83.2.1
        let nw2_65 : Int32 := w_83.2.2.1
        let nw3_66 : Int32 := w_83.2.2.2.1
        let nw4_67 : Int32 := w_83.2.2.2.2.1
        let nw5_68 : Int32 := w_83.2.2.2.2.2.1
        let nw6_69 : Int32 := w_83.2.2.2.2.2.2.1
        let nw7_70 : Nat → Int64 := w_83.2.2.2.2.2.2.2.1
        let nw8_71 : Nat → Int32 := w_83.2.2.2.2.2.2.2.2.1
        let nw9_72 : Nat → Int32 := w_83.2.2.2.2.2.2.2.2.2.1
        let nw10_73 : Nat → Int32 := w_83.2.2.2.2.2.2.2.2.2.2.1
        let nw11_74 : Nat → Int32 := w_83.2.2.2.2.2.2.2.2.2.2.2.1
        let nw12_75 : Nat → Int32 := w_83.2.2.2.2.2.2.2.2.2.2.2.2.1
        let nw13_76 : Nat → Int32 := w_83.2.2.2.2.2.2.2.2.2.2.2.2.2.1
        let nw14_77 : Nat → Int32 := w_83.2.2.2.2.2.2.2.2.2.2.2.2.2.2.1
        let nw15_78 : Nat → Int32 := w_83.2.2.2.2.2.2.2.2.2.2.2.2.2.2.2.1
        let nw16_79 : Nat → Int32 := w_83.2.2.2.2.2.2.2.2.2.2.2.2.2.2.2.2.1
        let nw17_80 : Nat → Int32 := w_83.2.2.2.2.2.2.2.2.2.2.2.2.2.2.2.2.2
        let w_87 := F_Th_letGo
        let nw0_84 : Int32 := w_87
        let w_91 := F_Da_told
        let nw0_88 : Int32 := w_91
        (nw1_64, nw0_88, nw0_63, nw1_64, nw2_65, nw3_66, nw4_67, nw5_68, nw6_69, nw7_70, nw8_71, nw9_72, nw10_73, nw11_74, nw12_75, nw13_76, nw14_77, nw15_78, nw16_79, nw17_80, nw0_84, nw0_11, nw1_12, nw4_28, nw5_29, nw6_30, nw7_31, nw8_32, nw9_33, nw10_34, nw11_35, nw0_24, nw1_25, nw2_26, nw3_27, nw12_36, nw13_37, nw14_38, nw15_39, nw16_40, nw17_41, nw18_42, nw19_43, nw20_44, nw21_45, nw22_46, nw23_47, nw24_48, nw25_49, nw26_50, nw27_51, nw28_52, nw29_53, nw30_54, nw31_55, nw32_56, nw33_57))) else (
      let w_103 := F_Da_none 5
      let nw0_100 : Int32 := w_103
      ((-1 : Int32), nw0_100, h_features, h_keys, h_lent, h_rings, h_doors, h_turned, h_roundMany, c_h_featureNames, c_h_steps, c_h_turnedFeatures, c_h_sixteenths, c_h_keySteps, c_h_on, c_h_onMany, c_h_wanted, c_h_openers, c_h_seconds, c_h_roundDoors, o_held, t_fed, t_length, t_kind, t_start, t_end, t_number, t_sign, t_letters, t_fault, t_faultPlace, hr_keysOnRings, hr_feelsTold, hr_secondsTold, hr_turnedTold, c_n_f, c_n_k, c_n_r, c_n_d, hf_features, hf_keys, hf_lent, hf_rings, hf_doors, hf_turned, hf_roundMany, c_hf_featureNames, c_hf_steps, c_hf_turnedFeatures, c_hf_sixteenths, c_hf_keySteps, c_hf_on, c_hf_onMany, c_hf_wanted, c_hf_openers, c_hf_seconds, c_hf_roundDoors)))
theorem F_X_house_s (h_features : Int32) (h_keys : Int32) (h_lent : Int32) (h_rings : Int32) (h_doors : Int32) (h_turned : Int32) (h_roundMany : Int32) (c_h_featureNames : Nat → Int64) (c_h_steps : Nat → Int32) (c_h_turnedFeatures : Nat → Int32) (c_h_sixteenths : Nat → Int32) (c_h_keySteps : Nat → Int32) (c_h_on : Nat → Int32) (c_h_onMany : Nat → Int32) (c_h_wanted : Nat → Int32) (c_h_openers : Nat → Int32) (c_h_seconds : Nat → Int32) (c_h_roundDoors : Nat → Int32) (o_held : Int32) (t_fed : Int32) (t_length : Int32) (t_kind : Int32) (t_start : Int32) (t_end : Int32) (t_number : Int32) (t_sign : Int32) (t_letters : Int64) (t_fault : Int32) (t_faultPlace : Int32) (c_tape : Nat → Int32) (hr_keysOnRings : Int32) (hr_feelsTold : Int32) (hr_secondsTold : Int32) (hr_turnedTold : Int32) (c_n_f : Nat → Int64) (c_n_k : Nat → Int64) (c_n_r : Nat → Int64) (c_n_d : Nat → Int64) (hf_features : Int32) (hf_keys : Int32) (hf_lent : Int32) (hf_rings : Int32) (hf_doors : Int32) (hf_turned : Int32) (hf_roundMany : Int32) (c_hf_featureNames : Nat → Int64) (c_hf_steps : Nat → Int32) (c_hf_turnedFeatures : Nat → Int32) (c_hf_sixteenths : Nat → Int32) (c_hf_keySteps : Nat → Int32) (c_hf_on : Nat → Int32) (c_hf_onMany : Nat → Int32) (c_hf_wanted : Nat → Int32) (c_hf_openers : Nat → Int32) (c_hf_seconds : Nat → Int32) (c_hf_roundDoors : Nat → Int32) (k1 : Int32) : F_X_house h_features h_keys h_lent h_rings h_doors h_turned h_roundMany c_h_featureNames c_h_steps c_h_turnedFeatures c_h_sixteenths c_h_keySteps c_h_on c_h_onMany c_h_wanted c_h_openers c_h_seconds c_h_roundDoors o_held t_fed t_length t_kind t_start t_end t_number t_sign t_letters t_fault t_faultPlace c_tape hr_keysOnRings hr_feelsTold hr_secondsTold hr_turnedTold c_n_f c_n_k c_n_r c_n_d hf_features hf_keys hf_lent hf_rings hf_doors hf_turned hf_roundMany c_hf_featureNames c_hf_steps c_hf_turnedFeatures c_hf_sixteenths c_hf_keySteps c_hf_on c_hf_onMany c_hf_wanted c_hf_openers c_hf_seconds c_hf_roundDoors k1 = (
  if k1 < 0 then (
    let w_6 := F_Da_none 5
    let nw0_3 : Int32 := w_6
    ((-1 : Int32), nw0_3, h_features, h_keys, h_lent, h_rings, h_doors, h_turned, h_roundMany, c_h_featureNames, c_h_steps, c_h_turnedFeatures, c_h_sixteenths, c_h_keySteps, c_h_on, c_h_onMany, c_h_wanted, c_h_openers, c_h_seconds, c_h_roundDoors, o_held, t_fed, t_length, t_kind, t_start, t_end, t_number, t_sign, t_letters, t_fault, t_faultPlace, hr_keysOnRings, hr_feelsTold, hr_secondsTold, hr_turnedTold, c_n_f, c_n_k, c_n_r, c_n_d, hf_features, hf_keys, hf_lent, hf_rings, hf_doors, hf_turned, hf_roundMany, c_hf_featureNames, c_hf_steps, c_hf_turnedFeatures, c_hf_sixteenths, c_hf_keySteps, c_hf_on, c_hf_onMany, c_hf_wanted, c_hf_openers, c_hf_seconds, c_hf_roundDoors)) else (
    if k1 ≤ t_fed then (
      let w_23 := F_Te_begin t_number t_sign t_letters c_tape k1
      let nw0_11 : Int32 := w_23.1
      let nw1_12 : Int32 := w_23.2.1
      let nw2_13 : Int32 := w_23.2.2.1
      let nw3_14 : Int32 := w_23.2.2.2.1
      let nw4_15 : Int32 := w_23.2.2.2.2.1
      let nw5_16 : Int32 := w_23.2.2.2.2.2.1
      let nw6_17 : Int32 := w_23.2.2.2.2.2.2.1
      let nw7_18 : Int64 := w_23.2.2.2.2.2.2.2.1
      let nw8_19 : Int32 := w_23.2.2.2.2.2.2.2.2.1
      let nw9_20 : Int32 := w_23.2.2.2.2.2.2.2.2.2
      let w_60 := F_Ho_readAll nw1_12 nw2_13 nw3_14 nw4_15 nw5_16 nw6_17 nw7_18 nw8_19 nw9_20 c_tape c_n_f c_n_k c_n_r c_n_d c_hf_featureNames c_hf_steps c_hf_turnedFeatures c_hf_sixteenths c_hf_keySteps c_hf_on c_hf_onMany c_hf_wanted c_hf_openers c_hf_seconds c_hf_roundDoors
      let r_58 : Int32 := w_60.1
      let nw0_24 : Int32 := w_60.2.1
      let nw1_25 : Int32 := w_60.2.2.1
      let nw2_26 : Int32 := w_60.2.2.2.1
      let nw3_27 : Int32 := w_60.2.2.2.2.1
      let nw4_28 : Int32 := w_60.2.2.2.2.2.1
      let nw5_29 : Int32 := w_60.2.2.2.2.2.2.1
      let nw6_30 : Int32 := w_60.2.2.2.2.2.2.2.1
      let nw7_31 : Int32 := w_60.2.2.2.2.2.2.2.2.1
      let nw8_32 : Int32 := w_60.2.2.2.2.2.2.2.2.2.1
      let nw9_33 : Int64 := w_60.2.2.2.2.2.2.2.2.2.2.1
      let nw10_34 : Int32 := w_60.2.2.2.2.2.2.2.2.2.2.2.1
      let nw11_35 : Int32 := w_60.2.2.2.2.2.2.2.2.2.2.2.2.1
      let nw12_36 : Nat → Int64 := w_60.2.2.2.2.2.2.2.2.2.2.2.2.2.1
      let nw13_37 : Nat → Int64 := w_60.2.2.2.2.2.2.2.2.2.2.2.2.2.2.1
      let nw14_38 : Nat → Int64 := w_60.2.2.2.2.2.2.2.2.2.2.2.2.2.2.2.1
      let nw15_39 : Nat → Int64 := w_60.2.2.2.2.2.2.2.2.2.2.2.2.2.2.2.2.1
      let nw16_40 : Int32 := w_60.2.2.2.2.2.2.2.2.2.2.2.2.2.2.2.2.2.1
      let nw17_41 : Int32 := w_60.2.2.2.2.2.2.2.2.2.2.2.2.2.2.2.2.2.2.1
      let nw18_42 : Int32 := w_60.2.2.2.2.2.2.2.2.2.2.2.2.2.2.2.2.2.2.2.1
      let nw19_43 : Int32 := w_60.2.2.2.2.2.2.2.2.2.2.2.2.2.2.2.2.2.2.2.2.1
      let nw20_44 : Int32 := w_60.2.2.2.2.2.2.2.2.2.2.2.2.2.2.2.2.2.2.2.2.2.1
      let nw21_45 : Int32 := w_60.2.2.2.2.2.2.2.2.2.2.2.2.2.2.2.2.2.2.2.2.2.2.1
      let nw22_46 : Int32 := w_60.2.2.2.2.2.2.2.2.2.2.2.2.2.2.2.2.2.2.2.2.2.2.2.1
      let nw23_47 : Nat → Int64 := w_60.2.2.2.2.2.2.2.2.2.2.2.2.2.2.2.2.2.2.2.2.2.2.2.2.1
      let nw24_48 : Nat → Int32 := w_60.2.2.2.2.2.2.2.2.2.2.2.2.2.2.2.2.2.2.2.2.2.2.2.2.2.1
      let nw25_49 : Nat → Int32 := w_60.2.2.2.2.2.2.2.2.2.2.2.2.2.2.2.2.2.2.2.2.2.2.2.2.2.2.1
      let nw26_50 : Nat → Int32 := w_60.2.2.2.2.2.2.2.2.2.2.2.2.2.2.2.2.2.2.2.2.2.2.2.2.2.2.2.1
      let nw27_51 : Nat → Int32 := w_60.2.2.2.2.2.2.2.2.2.2.2.2.2.2.2.2.2.2.2.2.2.2.2.2.2.2.2.2.1
      let nw28_52 : Nat → Int32 := w_60.2.2.2.2.2.2.2.2.2.2.2.2.2.2.2.2.2.2.2.2.2.2.2.2.2.2.2.2.2.1
      let nw29_53 : Nat → Int32 := w_60.2.2.2.2.2.2.2.2.2.2.2.2.2.2.2.2.2.2.2.2.2.2.2.2.2.2.2.2.2.2.1
      let nw30_54 : Nat → Int32 := w_60.2.2.2.2.2.2.2.2.2.2.2.2.2.2.2.2.2.2.2.2.2.2.2.2.2.2.2.2.2.2.2.1
      let nw31_55 : Nat → Int32 := w_60.2.2.2.2.2.2.2.2.2.2.2.2.2.2.2.2.2.2.2.2.2.2.2.2.2.2.2.2.2.2.2.2.1
      let nw32_56 : Nat → Int32 := w_60.2.2.2.2.2.2.2.2.2.2.2.2.2.2.2.2.2.2.2.2.2.2.2.2.2.2.2.2.2.2.2.2.2.1
      let nw33_57 : Nat → Int32 := w_60.2.2.2.2.2.2.2.2.2.2.2.2.2.2.2.2.2.2.2.2.2.2.2.2.2.2.2.2.2.2.2.2.2.2
      if r_58 = 0 then (
        let w_97 := F_Da_none 10
        let nw0_94 : Int32 := w_97
        ((-1 : Int32), nw0_94, h_features, h_keys, h_lent, h_rings, h_doors, h_turned, h_roundMany, c_h_featureNames, c_h_steps, c_h_turnedFeatures, c_h_sixteenths, c_h_keySteps, c_h_on, c_h_onMany, c_h_wanted, c_h_openers, c_h_seconds, c_h_roundDoors, o_held, nw0_11, nw1_12, nw4_28, nw5_29, nw6_30, nw7_31, nw8_32, nw9_33, nw10_34, nw11_35, nw0_24, nw1_25, nw2_26, nw3_27, nw12_36, nw13_37, nw14_38, nw15_39, nw16_40, nw17_41, nw18_42, nw19_43, nw20_44, nw21_45, nw22_46, nw23_47, nw24_48, nw25_49, nw26_50, nw27_51, nw28_52, nw29_53, nw30_54, nw31_55, nw32_56, nw33_57)) else (
        let w_83 := F_Ho_copy c_h_featureNames c_h_steps c_h_turnedFeatures c_h_sixteenths c_h_keySteps c_h_on c_h_onMany c_h_wanted c_h_openers c_h_seconds c_h_roundDoors nw16_40 nw17_41 nw18_42 nw19_43 nw20_44 nw21_45 nw22_46 nw23_47 nw24_48 nw25_49 nw26_50 nw27_51 nw28_52 nw29_53 nw30_54 nw31_55 nw32_56 nw33_57
        let nw0_63 : Int32 := w_83.1
        let nw1_64 : Int32 := w_83.2.1
        let nw2_65 : Int32 := w_83.2.2.1
        let nw3_66 : Int32 := w_83.2.2.2.1
        let nw4_67 : Int32 := w_83.2.2.2.2.1
        let nw5_68 : Int32 := w_83.2.2.2.2.2.1
        let nw6_69 : Int32 := w_83.2.2.2.2.2.2.1
        let nw7_70 : Nat → Int64 := w_83.2.2.2.2.2.2.2.1
        let nw8_71 : Nat → Int32 := w_83.2.2.2.2.2.2.2.2.1
        let nw9_72 : Nat → Int32 := w_83.2.2.2.2.2.2.2.2.2.1
        let nw10_73 : Nat → Int32 := w_83.2.2.2.2.2.2.2.2.2.2.1
        let nw11_74 : Nat → Int32 := w_83.2.2.2.2.2.2.2.2.2.2.2.1
        let nw12_75 : Nat → Int32 := w_83.2.2.2.2.2.2.2.2.2.2.2.2.1
        let nw13_76 : Nat → Int32 := w_83.2.2.2.2.2.2.2.2.2.2.2.2.2.1
        let nw14_77 : Nat → Int32 := w_83.2.2.2.2.2.2.2.2.2.2.2.2.2.2.1
        let nw15_78 : Nat → Int32 := w_83.2.2.2.2.2.2.2.2.2.2.2.2.2.2.2.1
        let nw16_79 : Nat → Int32 := w_83.2.2.2.2.2.2.2.2.2.2.2.2.2.2.2.2.1
        let nw17_80 : Nat → Int32 := w_83.2.2.2.2.2.2.2.2.2.2.2.2.2.2.2.2.2
        let w_87 := F_Th_letGo
        let nw0_84 : Int32 := w_87
        let w_91 := F_Da_told
        let nw0_88 : Int32 := w_91
        (nw1_64, nw0_88, nw0_63, nw1_64, nw2_65, nw3_66, nw4_67, nw5_68, nw6_69, nw7_70, nw8_71, nw9_72, nw10_73, nw11_74, nw12_75, nw13_76, nw14_77, nw15_78, nw16_79, nw17_80, nw0_84, nw0_11, nw1_12, nw4_28, nw5_29, nw6_30, nw7_31, nw8_32, nw9_33, nw10_34, nw11_35, nw0_24, nw1_25, nw2_26, nw3_27, nw12_36, nw13_37, nw14_38, nw15_39, nw16_40, nw17_41, nw18_42, nw19_43, nw20_44, nw21_45, nw22_46, nw23_47, nw24_48, nw25_49, nw26_50, nw27_51, nw28_52, nw29_53, nw30_54, nw31_55, nw32_56, nw33_57))) else (
      let w_103 := F_Da_none 5
      let nw0_100 : Int32 := w_103
      ((-1 : Int32), nw0_100, h_features, h_keys, h_lent, h_rings, h_doors, h_turned, h_roundMany, c_h_featureNames, c_h_steps, c_h_turnedFeatures, c_h_sixteenths, c_h_keySteps, c_h_on, c_h_onMany, c_h_wanted, c_h_openers, c_h_seconds, c_h_roundDoors, o_held, t_fed, t_length, t_kind, t_start, t_end, t_number, t_sign, t_letters, t_fault, t_faultPlace, hr_keysOnRings, hr_feelsTold, hr_secondsTold, hr_turnedTold, c_n_f, c_n_k, c_n_r, c_n_d, hf_features, hf_keys, hf_lent, hf_rings, hf_doors, hf_turned, hf_roundMany, c_hf_featureNames, c_hf_steps, c_hf_turnedFeatures, c_hf_sixteenths, c_hf_keySteps, c_hf_on, c_hf_onMany, c_hf_wanted, c_hf_openers, c_hf_seconds, c_hf_roundDoors)))) := rfl
