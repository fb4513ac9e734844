noncomputable def F_r_readKey_L11a (m_textEnd : Int32) (g_tape : Nat → Int32) (g_isOn : Nat → Int32) (r_10 : Int32) (n_1 : Int32) (n_2 : Int32) (n_9 : Nat → Int64) : Nat → Int32 → Int32 → Int32 → Int32 → Int32 → Int32 → Int64 → (Nat → Int32) → (Int32 × Int32 × Int32 × Int32 × Int32 × Int32 × Int32 × Int64 × (Nat → Int64) × (Nat → Int32) × (Nat → Int32)) := fun k9 => Nat.rec (motive := fun _ => Int32 → Int32 → Int32 → Int32 → Int32 → Int32 → Int64 → (Nat → Int32) → (Int32 × Int32 × Int32 × Int32 × Int32 × Int32 × Int32 × Int64 × (Nat → Int64) × (Nat → Int32) × (Nat → Int32))) (fun _ _ _ _ _ _ _ _ => default) (fun _ (G_L11a : Int32 → Int32 → Int32 → Int32 → Int32 → Int32 → Int64 → (Nat → Int32) → (Int32 × Int32 × Int32 × Int32 × Int32 × Int32 × Int32 × Int64 × (Nat → Int64) × (Nat → Int32) × (Nat → Int32))) => fun (v_182 : Int32) (v_183 : Int32) (v_184 : Int32) (v_185 : Int32) (v_186 : Int32) (v_187 : Int32) (v_188 : Int64) (g_189 : Nat → Int32) =>
    if n_1 = 0 then (
      if v_183 = 2 then (
        let x_497 : Int32 := (g_189 (1460 : Int32).toNatClampNeg)
        if x_497 ≤ v_182 then (
          let x_502 : Int32 := (g_189 (1460 : Int32).toNatClampNeg)
          if v_182 = x_502 then (
            let w_532 := F_r_fail n_1 n_2 8 v_184
            let n_528 : Int32 := w_532.1
            let n_529 : Int32 := w_532.2
            (n_528, n_529, v_183, v_184, v_185, v_186, v_187, v_188, n_9, g_189, g_isOn)) else (
            let x_508 : Int32 := ((3 : Int32) * r_10)
            let x_509 : Int32 := ((1525 : Int32) + x_508)
            let x_510 : Int32 := (x_509 + v_182)
            let g_511 : Nat → Int32 := (upd g_189 (x_510 : Int32).toNatClampNeg v_186)
            let x_514 : Int32 := (v_182 + 1)
            let w_523 := F_r_next2 m_textEnd v_185 v_186 v_187 v_188 g_tape
            let n_515 : Int32 := w_523.1
            let n_516 : Int32 := w_523.2.1
            let n_517 : Int32 := w_523.2.2.1
            let n_518 : Int32 := w_523.2.2.2.1
            let n_519 : Int32 := w_523.2.2.2.2.1
            let n_520 : Int64 := w_523.2.2.2.2.2
            G_L11a x_514 n_515 n_516 n_517 n_518 n_519 n_520 g_511)) else (
          let x_538 : Int32 := ((1471 : Int32) + v_182)
          let x_539 : Int32 := (g_189 (x_538 : Int32).toNatClampNeg)
          if v_186 < x_539 then (
            let x_544 : Int32 := (g_189 (1460 : Int32).toNatClampNeg)
            if v_182 = x_544 then (
              let w_574 := F_r_fail n_1 n_2 8 v_184
              let n_570 : Int32 := w_574.1
              let n_571 : Int32 := w_574.2
              (n_570, n_571, v_183, v_184, v_185, v_186, v_187, v_188, n_9, g_189, g_isOn)) else (
              let x_550 : Int32 := ((3 : Int32) * r_10)
              let x_551 : Int32 := ((1525 : Int32) + x_550)
              let x_552 : Int32 := (x_551 + v_182)
              let g_553 : Nat → Int32 := (upd g_189 (x_552 : Int32).toNatClampNeg v_186)
              let x_556 : Int32 := (v_182 + 1)
              let w_565 := F_r_next2 m_textEnd v_185 v_186 v_187 v_188 g_tape
              let n_557 : Int32 := w_565.1
              let n_558 : Int32 := w_565.2.1
              let n_559 : Int32 := w_565.2.2.1
              let n_560 : Int32 := w_565.2.2.2.1
              let n_561 : Int32 := w_565.2.2.2.2.1
              let n_562 : Int64 := w_565.2.2.2.2.2
              G_L11a x_556 n_557 n_558 n_559 n_560 n_561 n_562 g_553)) else (
            let w_584 := F_r_fail n_1 n_2 4 v_184
            let n_580 : Int32 := w_584.1
            let n_581 : Int32 := w_584.2
            (n_580, n_581, v_183, v_184, v_185, v_186, v_187, v_188, n_9, g_189, g_isOn)))) else (
        let w_452 := F_r_isSign v_183 v_186 59
        let r_450 : Int32 := w_452
        if r_450 = 0 then (
          let g_457 : Nat → Int32 := (upd g_isOn (r_10 : Int32).toNatClampNeg (vp_nar .boolean 0))
          let x_459 : Int32 := ((1610 : Int32) + r_10)
          let g_460 : Nat → Int32 := (upd g_189 (x_459 : Int32).toNatClampNeg 0)
          let x_463 : Int32 := (g_460 (1461 : Int32).toNatClampNeg)
          let x_464 : Int32 := (x_463 + 1)
          let g_465 : Nat → Int32 := (upd g_460 (1461 : Int32).toNatClampNeg x_464)
          (n_1, n_2, v_183, v_184, v_185, v_186, v_187, v_188, n_9, g_465, g_457)) else
        (
          let x_469 : Int32 := (g_189 (1460 : Int32).toNatClampNeg)
          if x_469 ≤ v_182 then (
            let g_474 : Nat → Int32 := (upd g_isOn (r_10 : Int32).toNatClampNeg (vp_nar .boolean 0))
            let x_476 : Int32 := ((1610 : Int32) + r_10)
            let g_477 : Nat → Int32 := (upd g_189 (x_476 : Int32).toNatClampNeg 0)
            let x_480 : Int32 := (g_477 (1461 : Int32).toNatClampNeg)
            let x_481 : Int32 := (x_480 + 1)
            let g_482 : Nat → Int32 := (upd g_477 (1461 : Int32).toNatClampNeg x_481)
            (n_1, n_2, v_183, v_184, v_185, v_186, v_187, v_188, n_9, g_482, g_474)) else (
            let w_491 := F_r_fail n_1 n_2 8 v_184
            let n_487 : Int32 := w_491.1
            let n_488 : Int32 := w_491.2
            (n_487, n_488, v_183, v_184, v_185, v_186, v_187, v_188, n_9, g_189, g_isOn))))) else (
      (n_1, n_2, v_183, v_184, v_185, v_186, v_187, v_188, n_9, g_189, g_isOn))) k9
theorem F_r_readKey_L11a_s (m_textEnd : Int32) (g_tape : Nat → Int32) (g_isOn : Nat → Int32) (r_10 : Int32) (n_1 : Int32) (n_2 : Int32) (n_9 : Nat → Int64) (n9 : Nat) (v_182 : Int32) (v_183 : Int32) (v_184 : Int32) (v_185 : Int32) (v_186 : Int32) (v_187 : Int32) (v_188 : Int64) (g_189 : Nat → Int32) : F_r_readKey_L11a m_textEnd g_tape g_isOn r_10 n_1 n_2 n_9 (n9 + 1) v_182 v_183 v_184 v_185 v_186 v_187 v_188 g_189 = (
    if n_1 = 0 then (
      if v_183 = 2 then (
        let x_497 : Int32 := (g_189 (1460 : Int32).toNatClampNeg)
        if x_497 ≤ v_182 then (
          let x_502 : Int32 := (g_189 (1460 : Int32).toNatClampNeg)
          if v_182 = x_502 then (
            let w_532 := F_r_fail n_1 n_2 8 v_184
            let n_528 : Int32 := w_532.1
            let n_529 : Int32 := w_532.2
            (n_528, n_529, v_183, v_184, v_185, v_186, v_187, v_188, n_9, g_189, g_isOn)) else (
            let x_508 : Int32 := ((3 : Int32) * r_10)
            let x_509 : Int32 := ((1525 : Int32) + x_508)
            let x_510 : Int32 := (x_509 + v_182)
            let g_511 : Nat → Int32 := (upd g_189 (x_510 : Int32).toNatClampNeg v_186)
            let x_514 : Int32 := (v_182 + 1)
            let w_523 := F_r_next2 m_textEnd v_185 v_186 v_187 v_188 g_tape
            let n_515 : Int32 := w_523.1
            let n_516 : Int32 := w_523.2.1
            let n_517 : Int32 := w_523.2.2.1
            let n_518 : Int32 := w_523.2.2.2.1
            let n_519 : Int32 := w_523.2.2.2.2.1
            let n_520 : Int64 := w_523.2.2.2.2.2
            (F_r_readKey_L11a m_textEnd g_tape g_isOn r_10 n_1 n_2 n_9 n9) x_514 n_515 n_516 n_517 n_518 n_519 n_520 g_511)) else (
          let x_538 : Int32 := ((1471 : Int32) + v_182)
          let x_539 : Int32 := (g_189 (x_538 : Int32).toNatClampNeg)
          if v_186 < x_539 then (
            let x_544 : Int32 := (g_189 (1460 : Int32).toNatClampNeg)
            if v_182 = x_544 then (
              let w_574 := F_r_fail n_1 n_2 8 v_184
              let n_570 : Int32 := w_574.1
              let n_571 : Int32 := w_574.2
              (n_570, n_571, v_183, v_184, v_185, v_186, v_187, v_188, n_9, g_189, g_isOn)) else (
              let x_550 : Int32 := ((3 : Int32) * r_10)
              let x_551 : Int32 := ((1525 : Int32) + x_550)
              let x_552 : Int32 := (x_551 + v_182)
              let g_553 : Nat → Int32 := (upd g_189 (x_552 : Int32).toNatClampNeg v_186)
              let x_556 : Int32 := (v_182 + 1)
              let w_565 := F_r_next2 m_textEnd v_185 v_186 v_187 v_188 g_tape
              let n_557 : Int32 := w_565.1
              let n_558 : Int32 := w_565.2.1
              let n_559 : Int32 := w_565.2.2.1
              let n_560 : Int32 := w_565.2.2.2.1
              let n_561 : Int32 := w_565.2.2.2.2.1
              let n_562 : Int64 := w_565.2.2.2.2.2
              (F_r_readKey_L11a m_textEnd g_tape g_isOn r_10 n_1 n_2 n_9 n9) x_556 n_557 n_558 n_559 n_560 n_561 n_562 g_553)) else (
            let w_584 := F_r_fail n_1 n_2 4 v_184
            let n_580 : Int32 := w_584.1
            let n_581 : Int32 := w_584.2
            (n_580, n_581, v_183, v_184, v_185, v_186, v_187, v_188, n_9, g_189, g_isOn)))) else (
        let w_452 := F_r_isSign v_183 v_186 59
        let r_450 : Int32 := w_452
        if r_450 = 0 then (
          let g_457 : Nat → Int32 := (upd g_isOn (r_10 : Int32).toNatClampNeg (vp_nar .boolean 0))
          let x_459 : Int32 := ((1610 : Int32) + r_10)
          let g_460 : Nat → Int32 := (upd g_189 (x_459 : Int32).toNatClampNeg 0)
          let x_463 : Int32 := (g_460 (1461 : Int32).toNatClampNeg)
          let x_464 : Int32 := (x_463 + 1)
          let g_465 : Nat → Int32 := (upd g_460 (1461 : Int32).toNatClampNeg x_464)
          (n_1, n_2, v_183, v_184, v_185, v_186, v_187, v_188, n_9, g_465, g_457)) else
        (
          let x_469 : Int32 := (g_189 (1460 : Int32).toNatClampNeg)
          if x_469 ≤ v_182 then (
            let g_474 : Nat → Int32 := (upd g_isOn (r_10 : Int32).toNatClampNeg (vp_nar .boolean 0))
            let x_476 : Int32 := ((1610 : Int32) + r_10)
            let g_477 : Nat → Int32 := (upd g_189 (x_476 : Int32).toNatClampNeg 0)
            let x_480 : Int32 := (g_477 (1461 : Int32).toNatClampNeg)
            let x_481 : Int32 := (x_480 + 1)
            let g_482 : Nat → Int32 := (upd g_477 (1461 : Int32).toNatClampNeg x_481)
            (n_1, n_2, v_183, v_184, v_185, v_186, v_187, v_188, n_9, g_482, g_474)) else (
            let w_491 := F_r_fail n_1 n_2 8 v_184
            let n_487 : Int32 := w_491.1
            let n_488 : Int32 := w_491.2
            (n_487, n_488, v_183, v_184, v_185, v_186, v_187, v_188, n_9, g_189, g_isOn))))) else (
      (n_1, n_2, v_183, v_184, v_185, v_186, v_187, v_188, n_9, g_189, g_isOn))) := rfl
noncomputable def F_r_readKey (m_textEnd : Int32) (m_bad : Int32) (m_badAt : Int32) (m_token : Int32) (m_at : Int32) (m_behind : Int32) (m_number : Int32) (m_letters : Int32) (m_word : Int64) (g_tape : Nat → Int32) (g_c : Nat → Int32) (g_words : Nat → Int64) (g_isOn : Nat → Int32) : Int32 × Int32 × Int32 × Int32 × Int32 × Int32 × Int32 × Int64 × (Nat → Int64) × (Nat → Int32) × (Nat → Int32) :=
  let w_12 := F_r_readNew_1 m_textEnd m_bad m_badAt m_token m_at m_behind m_number m_letters m_word g_tape g_c g_words
  let r_10 : Int32 := w_12.1
  let n_1 : Int32 := w_12.2.1
  let n_2 : Int32 := w_12.2.2.1
  let n_3 : Int32 := w_12.2.2.2.1
  let n_4 : Int32 := w_12.2.2.2.2.1
  let n_5 : Int32 := w_12.2.2.2.2.2.1
  let n_6 : Int32 := w_12.2.2.2.2.2.2.1
  let n_7 : Int32 := w_12.2.2.2.2.2.2.2.1
  let n_8 : Int64 := w_12.2.2.2.2.2.2.2.2.1
  let n_9 : Nat → Int64 := w_12.2.2.2.2.2.2.2.2.2
  F_r_readKey_L11a m_textEnd g_tape g_isOn r_10 n_1 n_2 n_9 ((4600 - 5 * n_5.toInt + n_3.toInt - 5 * n_1.toInt).toNat + 1) (0 : Int32) n_3 n_4 n_5 n_6 n_7 n_8 g_c
theorem F_r_readKey_s (m_textEnd : Int32) (m_bad : Int32) (m_badAt : Int32) (m_token : Int32) (m_at : Int32) (m_behind : Int32) (m_number : Int32) (m_letters : Int32) (m_word : Int64) (g_tape : Nat → Int32) (g_c : Nat → Int32) (g_words : Nat → Int64) (g_isOn : Nat → Int32) : F_r_readKey m_textEnd m_bad m_badAt m_token m_at m_behind m_number m_letters m_word g_tape g_c g_words g_isOn = (
  let w_12 := F_r_readNew_1 m_textEnd m_bad m_badAt m_token m_at m_behind m_number m_letters m_word g_tape g_c g_words
  let r_10 : Int32 := w_12.1
  let n_1 : Int32 := w_12.2.1
  let n_2 : Int32 := w_12.2.2.1
  let n_3 : Int32 := w_12.2.2.2.1
  let n_4 : Int32 := w_12.2.2.2.2.1
  let n_5 : Int32 := w_12.2.2.2.2.2.1
  let n_6 : Int32 := w_12.2.2.2.2.2.2.1
  let n_7 : Int32 := w_12.2.2.2.2.2.2.2.1
  let n_8 : Int64 := w_12.2.2.2.2.2.2.2.2.1
  let n_9 : Nat → Int64 := w_12.2.2.2.2.2.2.2.2.2
  F_r_readKey_L11a m_textEnd g_tape g_isOn r_10 n_1 n_2 n_9 ((4600 - 5 * n_5.toInt + n_3.toInt - 5 * n_1.toInt).toNat + 1) (0 : Int32) n_3 n_4 n_5 n_6 n_7 n_8 g_c) := rfl
noncomputable def F_r_readRing_L11a (m_textEnd : Int32) (g_tape : Nat → Int32) (r_10 : Int32) (n_9 : Nat → Int64) : Nat → Int32 → (Nat → Int32) → Int32 → Int32 → Int32 → Int32 → Int32 → Int32 → Int32 → Int64 → (Nat → Int32) → (Int32 × Int32 × Int32 × Int32 × Int32 × Int32 × Int32 × Int64 × (Nat → Int64) × (Nat → Int32) × (Nat → Int32)) := fun k9 => Nat.rec (motive := fun _ => Int32 → (Nat → Int32) → Int32 → Int32 → Int32 → Int32 → Int32 → Int32 → Int32 → Int64 → (Nat → Int32) → (Int32 × Int32 × Int32 × Int32 × Int32 × Int32 × Int32 × Int64 × (Nat → Int64) × (Nat → Int32) × (Nat → Int32))) (fun _ _ _ _ _ _ _ _ _ _ _ => default) (fun _ (G_L11a : Int32 → (Nat → Int32) → Int32 → Int32 → Int32 → Int32 → Int32 → Int32 → Int32 → Int64 → (Nat → Int32) → (Int32 × Int32 × Int32 × Int32 × Int32 × Int32 × Int32 × Int64 × (Nat → Int64) × (Nat → Int32) × (Nat → Int32))) => fun (v_134 : Int32) (g_135 : Nat → Int32) (v_136 : Int32) (v_137 : Int32) (v_138 : Int32) (v_139 : Int32) (v_140 : Int32) (v_141 : Int32) (v_142 : Int32) (v_143 : Int64) (g_144 : Nat → Int32) =>
    if v_136 = 0 then (
      if v_138 = 1 then (
        let w_297 := F_r_readOld_1 v_136 v_137 v_138 v_139 v_142 v_143 g_144 n_9
        let r_295 : Int32 := w_297.1
        let n_293 : Int32 := w_297.2.1
        let n_294 : Int32 := w_297.2.2
        if n_293 = 0 then (
          let x_307 : Int32 := (g_135 (r_295 : Int32).toNatClampNeg)
          if x_307 = 0 then (
            let g_312 : Nat → Int32 := (upd g_135 (r_295 : Int32).toNatClampNeg (vp_nar .boolean 1))
            let x_314 : Int32 := ((10 : Int32) * r_10)
            let x_315 : Int32 := ((1558 : Int32) + x_314)
            let x_316 : Int32 := (x_315 + v_134)
            let g_317 : Nat → Int32 := (upd g_144 (x_316 : Int32).toNatClampNeg r_295)
            let x_320 : Int32 := (v_134 + 1)
            let w_329 := F_r_next2 m_textEnd v_140 v_141 v_142 v_143 g_tape
            let n_321 : Int32 := w_329.1
            let n_322 : Int32 := w_329.2.1
            let n_323 : Int32 := w_329.2.2.1
            let n_324 : Int32 := w_329.2.2.2.1
            let n_325 : Int32 := w_329.2.2.2.2.1
            let n_326 : Int64 := w_329.2.2.2.2.2
            G_L11a x_320 g_312 n_293 n_294 n_321 n_322 n_323 n_324 n_325 n_326 g_317) else (
            let w_338 := F_r_fail n_293 n_294 5 v_139
            let n_334 : Int32 := w_338.1
            let n_335 : Int32 := w_338.2
            (n_334, n_335, v_138, v_139, v_140, v_141, v_142, v_143, n_9, g_144, g_135))) else (
          (n_293, n_294, v_138, v_139, v_140, v_141, v_142, v_143, n_9, g_144, g_135))) else (
        let x_282 : Int32 := ((1555 : Int32) + r_10)
        let g_283 : Nat → Int32 := (upd g_144 (x_282 : Int32).toNatClampNeg v_134)
        let x_286 : Int32 := (g_283 (1462 : Int32).toNatClampNeg)
        let x_287 : Int32 := (x_286 + 1)
        let g_288 : Nat → Int32 := (upd g_283 (1462 : Int32).toNatClampNeg x_287)
        (v_136, v_137, v_138, v_139, v_140, v_141, v_142, v_143, n_9, g_288, g_135))) else (
      (v_136, v_137, v_138, v_139, v_140, v_141, v_142, v_143, n_9, g_144, g_135))) k9
theorem F_r_readRing_L11a_s (m_textEnd : Int32) (g_tape : Nat → Int32) (r_10 : Int32) (n_9 : Nat → Int64) (n9 : Nat) (v_134 : Int32) (g_135 : Nat → Int32) (v_136 : Int32) (v_137 : Int32) (v_138 : Int32) (v_139 : Int32) (v_140 : Int32) (v_141 : Int32) (v_142 : Int32) (v_143 : Int64) (g_144 : Nat → Int32) : F_r_readRing_L11a m_textEnd g_tape r_10 n_9 (n9 + 1) v_134 g_135 v_136 v_137 v_138 v_139 v_140 v_141 v_142 v_143 g_144 = (
    if v_136 = 0 then (
      if v_138 = 1 then (
        let w_297 := F_r_readOld_1 v_136 v_137 v_138 v_139 v_142 v_143 g_144 n_9
        let r_295 : Int32 := w_297.1
        let n_293 : Int32 := w_297.2.1
        let n_294 : Int32 := w_297.2.2
        if n_293 = 0 then (
          let x_307 : Int32 := (g_135 (r_295 : Int32).toNatClampNeg)
          if x_307 = 0 then (
            let g_312 : Nat → Int32 := (upd g_135 (r_295 : Int32).toNatClampNeg (vp_nar .boolean 1))
            let x_314 : Int32 := ((10 : Int32) * r_10)
            let x_315 : Int32 := ((1558 : Int32) + x_314)
            let x_316 : Int32 := (x_315 + v_134)
            let g_317 : Nat → Int32 := (upd g_144 (x_316 : Int32).toNatClampNeg r_295)
            let x_320 : Int32 := (v_134 + 1)
            let w_329 := F_r_next2 m_textEnd v_140 v_141 v_142 v_143 g_tape
            let n_321 : Int32 := w_329.1
            let n_322 : Int32 := w_329.2.1
            let n_323 : Int32 := w_329.2.2.1
            let n_324 : Int32 := w_329.2.2.2.1
            let n_325 : Int32 := w_329.2.2.2.2.1
            let n_326 : Int64 := w_329.2.2.2.2.2
            (F_r_readRing_L11a m_textEnd g_tape r_10 n_9 n9) x_320 g_312 n_293 n_294 n_321 n_322 n_323 n_324 n_325 n_326 g_317) else (
            let w_338 := F_r_fail n_293 n_294 5 v_139
            let n_334 : Int32 := w_338.1
            let n_335 : Int32 := w_338.2
            (n_334, n_335, v_138, v_139, v_140, v_141, v_142, v_143, n_9, g_144, g_135))) else (
          (n_293, n_294, v_138, v_139, v_140, v_141, v_142, v_143, n_9, g_144, g_135))) else (
        let x_282 : Int32 := ((1555 : Int32) + r_10)
        let g_283 : Nat → Int32 := (upd g_144 (x_282 : Int32).toNatClampNeg v_134)
        let x_286 : Int32 := (g_283 (1462 : Int32).toNatClampNeg)
        let x_287 : Int32 := (x_286 + 1)
        let g_288 : Nat → Int32 := (upd g_283 (1462 : Int32).toNatClampNeg x_287)
        (v_136, v_137, v_138, v_139, v_140, v_141, v_142, v_143, n_9, g_288, g_135))) else (
      (v_136, v_137, v_138, v_139, v_140, v_141, v_142, v_143, n_9, g_144, g_135))) := rfl
noncomputable def F_r_readRing (m_textEnd : Int32) (m_bad : Int32) (m_badAt : Int32) (m_token : Int32) (m_at : Int32) (m_behind : Int32) (m_number : Int32) (m_letters : Int32) (m_word : Int64) (g_tape : Nat → Int32) (g_c : Nat → Int32) (g_words : Nat → Int64) (g_isOn : Nat → Int32) : Int32 × Int32 × Int32 × Int32 × Int32 × Int32 × Int32 × Int64 × (Nat → Int64) × (Nat → Int32) × (Nat → Int32) :=
  let w_12 := F_r_readNew_2 m_textEnd m_bad m_badAt m_token m_at m_behind m_number m_letters m_word g_tape g_c g_words
  let r_10 : Int32 := w_12.1
  let n_1 : Int32 := w_12.2.1
  let n_2 : Int32 := w_12.2.2.1
  let n_3 : Int32 := w_12.2.2.2.1
  let n_4 : Int32 := w_12.2.2.2.2.1
  let n_5 : Int32 := w_12.2.2.2.2.2.1
  let n_6 : Int32 := w_12.2.2.2.2.2.2.1
  let n_7 : Int32 := w_12.2.2.2.2.2.2.2.1
  let n_8 : Int64 := w_12.2.2.2.2.2.2.2.2.1
  let n_9 : Nat → Int64 := w_12.2.2.2.2.2.2.2.2.2
  F_r_readRing_L11a m_textEnd g_tape r_10 n_9 ((4600 - 5 * n_5.toInt + n_3.toInt - 5 * n_1.toInt).toNat + 1) (0 : Int32) g_isOn n_1 n_2 n_3 n_4 n_5 n_6 n_7 n_8 g_c
theorem F_r_readRing_s (m_textEnd : Int32) (m_bad : Int32) (m_badAt : Int32) (m_token : Int32) (m_at : Int32) (m_behind : Int32) (m_number : Int32) (m_letters : Int32) (m_word : Int64) (g_tape : Nat → Int32) (g_c : Nat → Int32) (g_words : Nat → Int64) (g_isOn : Nat → Int32) : F_r_readRing m_textEnd m_bad m_badAt m_token m_at m_behind m_number m_letters m_word g_tape g_c g_words g_isOn = (
  let w_12 := F_r_readNew_2 m_textEnd m_bad m_badAt m_token m_at m_behind m_number m_letters m_word g_tape g_c g_words
  let r_10 : Int32 := w_12.1
  let n_1 : Int32 := w_12.2.1
  let n_2 : Int32 := w_12.2.2.1
  let n_3 : Int32 := w_12.2.2.2.1
  let n_4 : Int32 := w_12.2.2.2.2.1
  let n_5 : Int32 := w_12.2.2.2.2.2.1
  let n_6 : Int32 := w_12.2.2.2.2.2.2.1
  let n_7 : Int32 := w_12.2.2.2.2.2.2.2.1
  let n_8 : Int64 := w_12.2.2.2.2.2.2.2.2.1
  let n_9 : Nat → Int64 := w_12.2.2.2.2.2.2.2.2.2
  F_r_readRing_L11a m_textEnd g_tape r_10 n_9 ((4600 - 5 * n_5.toInt + n_3.toInt - 5 * n_1.toInt).toNat + 1) (0 : Int32) g_isOn n_1 n_2 n_3 n_4 n_5 n_6 n_7 n_8 g_c) := rfl
noncomputable def F_r_readDoor_L58a (g_c : Nat → Int32) (n_9 : Nat → Int64) (n_31 : Int32) (n_32 : Int32) (n_33 : Int32) (n_34 : Int32) (n_35 : Int32) (n_36 : Int64) (n_52 : Int32) (n_53 : Int32) : Nat → (Int32 × Int32 × Int32 × Int32 × Int32 × Int32 × Int32 × Int64 × (Nat → Int64) × (Nat → Int32)) := fun k9 => Nat.rec (motive := fun _ => (Int32 × Int32 × Int32 × Int32 × Int32 × Int32 × Int32 × Int64 × (Nat → Int64) × (Nat → Int32))) (default) (fun _ (G_L58a : (Int32 × Int32 × Int32 × Int32 × Int32 × Int32 × Int32 × Int64 × (Nat → Int64) × (Nat → Int32))) =>     (n_52, n_53, n_31, n_32, n_33, n_34, n_35, n_36, n_9, g_c)) k9
theorem F_r_readDoor_L58a_s (g_c : Nat → Int32) (n_9 : Nat → Int64) (n_31 : Int32) (n_32 : Int32) (n_33 : Int32) (n_34 : Int32) (n_35 : Int32) (n_36 : Int64) (n_52 : Int32) (n_53 : Int32) (n9 : Nat) : F_r_readDoor_L58a g_c n_9 n_31 n_32 n_33 n_34 n_35 n_36 n_52 n_53 (n9 + 1) = (
    (n_52, n_53, n_31, n_32, n_33, n_34, n_35, n_36, n_9, g_c)) := rfl
noncomputable def F_r_readDoor_L58b (m_textEnd : Int32) (g_tape : Nat → Int32) (g_c : Nat → Int32) (r_10 : Int32) (n_9 : Nat → Int64) (r_37 : Int32) : Nat → Int32 → Int32 → Int32 → Int32 → Int32 → Int32 → Int32 → Int32 → Int32 → Int64 → (Int32 × Int32 × Int32 × Int32 × Int32 × Int32 × Int32 × Int64 × (Nat → Int64) × (Nat → Int32)) := fun k9 => Nat.rec (motive := fun _ => Int32 → Int32 → Int32 → Int32 → Int32 → Int32 → Int32 → Int32 → Int32 → Int64 → (Int32 × Int32 × Int32 × Int32 × Int32 × Int32 × Int32 × Int64 × (Nat → Int64) × (Nat → Int32))) (fun _ _ _ _ _ _ _ _ _ _ => default) (fun _ (G_L58b : Int32 → Int32 → Int32 → Int32 → Int32 → Int32 → Int32 → Int32 → Int32 → Int64 → (Int32 × Int32 × Int32 × Int32 × Int32 × Int32 × Int32 × Int64 × (Nat → Int64) × (Nat → Int32))) => fun (v_196 : Int32) (v_197 : Int32) (v_198 : Int32) (v_199 : Int32) (v_200 : Int32) (v_201 : Int32) (v_202 : Int32) (v_203 : Int32) (v_204 : Int32) (v_205 : Int64) =>
    if v_197 = 0 then (
      if v_198 ≤ 0 then (
        let x_333 : Int32 := ((1588 : Int32) + r_10)
        let g_334 : Nat → Int32 := (upd g_c (x_333 : Int32).toNatClampNeg r_37)
        let x_337 : Int32 := ((1593 : Int32) + r_10)
        let g_338 : Nat → Int32 := (upd g_334 (x_337 : Int32).toNatClampNeg v_196)
        let x_341 : Int32 := (g_338 (1463 : Int32).toNatClampNeg)
        let x_342 : Int32 := (x_341 + 1)
        let g_343 : Nat → Int32 := (upd g_338 (1463 : Int32).toNatClampNeg x_342)
        (v_198, v_199, v_200, v_201, v_202, v_203, v_204, v_205, n_9, g_343)) else (
        (v_198, v_199, v_200, v_201, v_202, v_203, v_204, v_205, n_9, g_c))) else (
      if v_198 = 0 then (
        let w_360 := F_r_readOld_1 v_198 v_199 v_200 v_201 v_204 v_205 g_c n_9
        let r_358 : Int32 := w_360.1
        let n_356 : Int32 := w_360.2.1
        let n_357 : Int32 := w_360.2.2
        if n_356 = 0 then (
          let x_370 : Int32 := (v_196 >>> (r_358 &&& 31))
          let x_371 : Int32 := (x_370 &&& 1)
          if x_371 = 1 then (
            let w_399 := F_r_fail n_356 n_357 5 v_201
            let n_395 : Int32 := w_399.1
            let n_396 : Int32 := w_399.2
            (n_395, n_396, v_200, v_201, v_202, v_203, v_204, v_205, n_9, g_c)) else (
            let x_376 : Int32 := ((1 : Int32) <<< (r_358 &&& 31))
            let x_377 : Int32 := (v_196 ||| x_376)
            let w_386 := F_r_next2 m_textEnd v_202 v_203 v_204 v_205 g_tape
            let n_378 : Int32 := w_386.1
            let n_379 : Int32 := w_386.2.1
            let n_380 : Int32 := w_386.2.2.1
            let n_381 : Int32 := w_386.2.2.2.1
            let n_382 : Int32 := w_386.2.2.2.2.1
            let n_383 : Int64 := w_386.2.2.2.2.2
            if n_378 = 1 then (
              G_L58b x_377 1 n_356 n_357 n_378 n_379 n_380 n_381 n_382 n_383) else (
              G_L58b x_377 0 n_356 n_357 n_378 n_379 n_380 n_381 n_382 n_383))) else (
          (n_356, n_357, v_200, v_201, v_202, v_203, v_204, v_205, n_9, g_c))) else (
        (v_198, v_199, v_200, v_201, v_202, v_203, v_204, v_205, n_9, g_c)))) k9
theorem F_r_readDoor_L58b_s (m_textEnd : Int32) (g_tape : Nat → Int32) (g_c : Nat → Int32) (r_10 : Int32) (n_9 : Nat → Int64) (r_37 : Int32) (n9 : Nat) (v_196 : Int32) (v_197 : Int32) (v_198 : Int32) (v_199 : Int32) (v_200 : Int32) (v_201 : Int32) (v_202 : Int32) (v_203 : Int32) (v_204 : Int32) (v_205 : Int64) : F_r_readDoor_L58b m_textEnd g_tape g_c r_10 n_9 r_37 (n9 + 1) v_196 v_197 v_198 v_199 v_200 v_201 v_202 v_203 v_204 v_205 = (
    if v_197 = 0 then (
      if v_198 ≤ 0 then (
        let x_333 : Int32 := ((1588 : Int32) + r_10)
        let g_334 : Nat → Int32 := (upd g_c (x_333 : Int32).toNatClampNeg r_37)
        let x_337 : Int32 := ((1593 : Int32) + r_10)
        let g_338 : Nat → Int32 := (upd g_334 (x_337 : Int32).toNatClampNeg v_196)
        let x_341 : Int32 := (g_338 (1463 : Int32).toNatClampNeg)
        let x_342 : Int32 := (x_341 + 1)
        let g_343 : Nat → Int32 := (upd g_338 (1463 : Int32).toNatClampNeg x_342)
        (v_198, v_199, v_200, v_201, v_202, v_203, v_204, v_205, n_9, g_343)) else (
        (v_198, v_199, v_200, v_201, v_202, v_203, v_204, v_205, n_9, g_c))) else (
      if v_198 = 0 then (
        let w_360 := F_r_readOld_1 v_198 v_199 v_200 v_201 v_204 v_205 g_c n_9
        let r_358 : Int32 := w_360.1
        let n_356 : Int32 := w_360.2.1
        let n_357 : Int32 := w_360.2.2
        if n_356 = 0 then (
          let x_370 : Int32 := (v_196 >>> (r_358 &&& 31))
          let x_371 : Int32 := (x_370 &&& 1)
          if x_371 = 1 then (
            let w_399 := F_r_fail n_356 n_357 5 v_201
            let n_395 : Int32 := w_399.1
            let n_396 : Int32 := w_399.2
            (n_395, n_396, v_200, v_201, v_202, v_203, v_204, v_205, n_9, g_c)) else (
            let x_376 : Int32 := ((1 : Int32) <<< (r_358 &&& 31))
            let x_377 : Int32 := (v_196 ||| x_376)
            let w_386 := F_r_next2 m_textEnd v_202 v_203 v_204 v_205 g_tape
            let n_378 : Int32 := w_386.1
            let n_379 : Int32 := w_386.2.1
            let n_380 : Int32 := w_386.2.2.1
            let n_381 : Int32 := w_386.2.2.2.1
            let n_382 : Int32 := w_386.2.2.2.2.1
            let n_383 : Int64 := w_386.2.2.2.2.2
            if n_378 = 1 then (
              (F_r_readDoor_L58b m_textEnd g_tape g_c r_10 n_9 r_37 n9) x_377 1 n_356 n_357 n_378 n_379 n_380 n_381 n_382 n_383) else (
              (F_r_readDoor_L58b m_textEnd g_tape g_c r_10 n_9 r_37 n9) x_377 0 n_356 n_357 n_378 n_379 n_380 n_381 n_382 n_383))) else (
          (n_356, n_357, v_200, v_201, v_202, v_203, v_204, v_205, n_9, g_c))) else (
        (v_198, v_199, v_200, v_201, v_202, v_203, v_204, v_205, n_9, g_c)))) := rfl
noncomputable def F_r_readDoor_L58c (g_c : Nat → Int32) (n_9 : Nat → Int64) (n_420 : Int32) (n_421 : Int32) (n_422 : Int32) (n_423 : Int32) (n_424 : Int32) (n_425 : Int64) (n_441 : Int32) (n_442 : Int32) : Nat → (Int32 × Int32 × Int32 × Int32 × Int32 × Int32 × Int32 × Int64 × (Nat → Int64) × (Nat → Int32)) := fun k9 => Nat.rec (motive := fun _ => (Int32 × Int32 × Int32 × Int32 × Int32 × Int32 × Int32 × Int64 × (Nat → Int64) × (Nat → Int32))) (default) (fun _ (G_L58c : (Int32 × Int32 × Int32 × Int32 × Int32 × Int32 × Int32 × Int64 × (Nat → Int64) × (Nat → Int32))) =>     (n_441, n_442, n_420, n_421, n_422, n_423, n_424, n_425, n_9, g_c)) k9
theorem F_r_readDoor_L58c_s (g_c : Nat → Int32) (n_9 : Nat → Int64) (n_420 : Int32) (n_421 : Int32) (n_422 : Int32) (n_423 : Int32) (n_424 : Int32) (n_425 : Int64) (n_441 : Int32) (n_442 : Int32) (n9 : Nat) : F_r_readDoor_L58c g_c n_9 n_420 n_421 n_422 n_423 n_424 n_425 n_441 n_442 (n9 + 1) = (
    (n_441, n_442, n_420, n_421, n_422, n_423, n_424, n_425, n_9, g_c)) := rfl
noncomputable def F_r_readDoor_L58d (m_textEnd : Int32) (g_tape : Nat → Int32) (g_c : Nat → Int32) (r_10 : Int32) (n_9 : Nat → Int64) (r_426 : Int32) : Nat → Int32 → Int32 → Int32 → Int32 → Int32 → Int32 → Int32 → Int32 → Int32 → Int64 → (Int32 × Int32 × Int32 × Int32 × Int32 × Int32 × Int32 × Int64 × (Nat → Int64) × (Nat → Int32)) := fun k9 => Nat.rec (motive := fun _ => Int32 → Int32 → Int32 → Int32 → Int32 → Int32 → Int32 → Int32 → Int32 → Int64 → (Int32 × Int32 × Int32 × Int32 × Int32 × Int32 × Int32 × Int64 × (Nat → Int64) × (Nat → Int32))) (fun _ _ _ _ _ _ _ _ _ _ => default) (fun _ (G_L58d : Int32 → Int32 → Int32 → Int32 → Int32 → Int32 → Int32 → Int32 → Int32 → Int64 → (Int32 × Int32 × Int32 × Int32 × Int32 × Int32 × Int32 × Int64 × (Nat → Int64) × (Nat → Int32))) => fun (v_585 : Int32) (v_586 : Int32) (v_587 : Int32) (v_588 : Int32) (v_589 : Int32) (v_590 : Int32) (v_591 : Int32) (v_592 : Int32) (v_593 : Int32) (v_594 : Int64) =>
    if v_586 = 0 then (
      if v_587 ≤ 0 then (
        let x_722 : Int32 := ((1588 : Int32) + r_10)
        let g_723 : Nat → Int32 := (upd g_c (x_722 : Int32).toNatClampNeg r_426)
        let x_726 : Int32 := ((1593 : Int32) + r_10)
        let g_727 : Nat → Int32 := (upd g_723 (x_726 : Int32).toNatClampNeg v_585)
        let x_730 : Int32 := (g_727 (1463 : Int32).toNatClampNeg)
        let x_731 : Int32 := (x_730 + 1)
        let g_732 : Nat → Int32 := (upd g_727 (1463 : Int32).toNatClampNeg x_731)
        (v_587, v_588, v_589, v_590, v_591, v_592, v_593, v_594, n_9, g_732)) else (
        (v_587, v_588, v_589, v_590, v_591, v_592, v_593, v_594, n_9, g_c))) else (
      if v_587 = 0 then (
        let w_749 := F_r_readOld_1 v_587 v_588 v_589 v_590 v_593 v_594 g_c n_9
        let r_747 : Int32 := w_749.1
        let n_745 : Int32 := w_749.2.1
        let n_746 : Int32 := w_749.2.2
        if n_745 = 0 then (
          let x_759 : Int32 := (v_585 >>> (r_747 &&& 31))
          let x_760 : Int32 := (x_759 &&& 1)
          if x_760 = 1 then (
            let w_788 := F_r_fail n_745 n_746 5 v_590
            let n_784 : Int32 := w_788.1
            let n_785 : Int32 := w_788.2
            (n_784, n_785, v_589, v_590, v_591, v_592, v_593, v_594, n_9, g_c)) else (
            let x_765 : Int32 := ((1 : Int32) <<< (r_747 &&& 31))
            let x_766 : Int32 := (v_585 ||| x_765)
            let w_775 := F_r_next2 m_textEnd v_591 v_592 v_593 v_594 g_tape
            let n_767 : Int32 := w_775.1
            let n_768 : Int32 := w_775.2.1
            let n_769 : Int32 := w_775.2.2.1
            let n_770 : Int32 := w_775.2.2.2.1
            let n_771 : Int32 := w_775.2.2.2.2.1
            let n_772 : Int64 := w_775.2.2.2.2.2
            if n_767 = 1 then (
              G_L58d x_766 1 n_745 n_746 n_767 n_768 n_769 n_770 n_771 n_772) else (
              G_L58d x_766 0 n_745 n_746 n_767 n_768 n_769 n_770 n_771 n_772))) else (
          (n_745, n_746, v_589, v_590, v_591, v_592, v_593, v_594, n_9, g_c))) else (
        (v_587, v_588, v_589, v_590, v_591, v_592, v_593, v_594, n_9, g_c)))) k9
theorem F_r_readDoor_L58d_s (m_textEnd : Int32) (g_tape : Nat → Int32) (g_c : Nat → Int32) (r_10 : Int32) (n_9 : Nat → Int64) (r_426 : Int32) (n9 : Nat) (v_585 : Int32) (v_586 : Int32) (v_587 : Int32) (v_588 : Int32) (v_589 : Int32) (v_590 : Int32) (v_591 : Int32) (v_592 : Int32) (v_593 : Int32) (v_594 : Int64) : F_r_readDoor_L58d m_textEnd g_tape g_c r_10 n_9 r_426 (n9 + 1) v_585 v_586 v_587 v_588 v_589 v_590 v_591 v_592 v_593 v_594 = (
    if v_586 = 0 then (
      if v_587 ≤ 0 then (
        let x_722 : Int32 := ((1588 : Int32) + r_10)
        let g_723 : Nat → Int32 := (upd g_c (x_722 : Int32).toNatClampNeg r_426)
        let x_726 : Int32 := ((1593 : Int32) + r_10)
        let g_727 : Nat → Int32 := (upd g_723 (x_726 : Int32).toNatClampNeg v_585)
        let x_730 : Int32 := (g_727 (1463 : Int32).toNatClampNeg)
        let x_731 : Int32 := (x_730 + 1)
        let g_732 : Nat → Int32 := (upd g_727 (1463 : Int32).toNatClampNeg x_731)
        (v_587, v_588, v_589, v_590, v_591, v_592, v_593, v_594, n_9, g_732)) else (
        (v_587, v_588, v_589, v_590, v_591, v_592, v_593, v_594, n_9, g_c))) else (
      if v_587 = 0 then (
        let w_749 := F_r_readOld_1 v_587 v_588 v_589 v_590 v_593 v_594 g_c n_9
        let r_747 : Int32 := w_749.1
        let n_745 : Int32 := w_749.2.1
        let n_746 : Int32 := w_749.2.2
        if n_745 = 0 then (
          let x_759 : Int32 := (v_585 >>> (r_747 &&& 31))
          let x_760 : Int32 := (x_759 &&& 1)
          if x_760 = 1 then (
            let w_788 := F_r_fail n_745 n_746 5 v_590
            let n_784 : Int32 := w_788.1
            let n_785 : Int32 := w_788.2
            (n_784, n_785, v_589, v_590, v_591, v_592, v_593, v_594, n_9, g_c)) else (
            let x_765 : Int32 := ((1 : Int32) <<< (r_747 &&& 31))
            let x_766 : Int32 := (v_585 ||| x_765)
            let w_775 := F_r_next2 m_textEnd v_591 v_592 v_593 v_594 g_tape
            let n_767 : Int32 := w_775.1
            let n_768 : Int32 := w_775.2.1
            let n_769 : Int32 := w_775.2.2.1
            let n_770 : Int32 := w_775.2.2.2.1
            let n_771 : Int32 := w_775.2.2.2.2.1
            let n_772 : Int64 := w_775.2.2.2.2.2
            if n_767 = 1 then (
              (F_r_readDoor_L58d m_textEnd g_tape g_c r_10 n_9 r_426 n9) x_766 1 n_745 n_746 n_767 n_768 n_769 n_770 n_771 n_772) else (
              (F_r_readDoor_L58d m_textEnd g_tape g_c r_10 n_9 r_426 n9) x_766 0 n_745 n_746 n_767 n_768 n_769 n_770 n_771 n_772))) else (
          (n_745, n_746, v_589, v_590, v_591, v_592, v_593, v_594, n_9, g_c))) else (
        (v_587, v_588, v_589, v_590, v_591, v_592, v_593, v_594, n_9, g_c)))) := rfl
noncomputable def F_r_readDoor (m_textEnd : Int32) (m_bad : Int32) (m_badAt : Int32) (m_token : Int32) (m_at : Int32) (m_behind : Int32) (m_number : Int32) (m_letters : Int32) (m_word : Int64) (g_tape : Nat → Int32) (g_c : Nat → Int32) (g_words : Nat → Int64) : Int32 × Int32 × Int32 × Int32 × Int32 × Int32 × Int32 × Int64 × (Nat → Int64) × (Nat → Int32) :=
  let w_12 := F_r_readNew_3 m_textEnd m_bad m_badAt m_token m_at m_behind m_number m_letters m_word g_tape g_c g_words
  let r_10 : Int32 := w_12.1
  let n_1 : Int32 := w_12.2.1
  let n_2 : Int32 := w_12.2.2.1
  let n_3 : Int32 := w_12.2.2.2.1
  let n_4 : Int32 := w_12.2.2.2.2.1
  let n_5 : Int32 := w_12.2.2.2.2.2.1
  let n_6 : Int32 := w_12.2.2.2.2.2.2.1
  let n_7 : Int32 := w_12.2.2.2.2.2.2.2.1
  let n_8 : Int64 := w_12.2.2.2.2.2.2.2.2.1
  let n_9 : Nat → Int64 := w_12.2.2.2.2.2.2.2.2.2
  let w_20 := F_r_houseWord n_3 n_8
  let r_18 : Int32 := w_20
  if r_18 = 9 then (
    let w_414 := F_r_must_1 m_textEnd n_1 n_3 n_4 n_5 n_6 n_7 n_8 g_tape
    let n_406 : Int32 := w_414.1
    let n_407 : Int32 := w_414.2.1
    let n_408 : Int32 := w_414.2.2.1
    let n_409 : Int32 := w_414.2.2.2.1
    let n_410 : Int32 := w_414.2.2.2.2.1
    let n_411 : Int64 := w_414.2.2.2.2.2
    let w_428 := F_r_count m_textEnd n_1 n_2 n_406 n_407 n_408 n_409 n_410 n_411 g_tape 0 99
    let r_426 : Int32 := w_428.1
    let n_418 : Int32 := w_428.2.1
    let n_419 : Int32 := w_428.2.2.1
    let n_420 : Int32 := w_428.2.2.2.1
    let n_421 : Int32 := w_428.2.2.2.2.1
    let n_422 : Int32 := w_428.2.2.2.2.2.1
    let n_423 : Int32 := w_428.2.2.2.2.2.2.1
    let n_424 : Int32 := w_428.2.2.2.2.2.2.2.1
    let n_425 : Int64 := w_428.2.2.2.2.2.2.2.2
    let w_437 := F_r_houseWord n_420 n_425
    let r_435 : Int32 := w_437
    if r_435 = 10 then (
      let w_474 := F_r_must_1 m_textEnd n_418 n_420 n_421 n_422 n_423 n_424 n_425 g_tape
      let n_466 : Int32 := w_474.1
      let n_467 : Int32 := w_474.2.1
      let n_468 : Int32 := w_474.2.2.1
      let n_469 : Int32 := w_474.2.2.2.1
      let n_470 : Int32 := w_474.2.2.2.2.1
      let n_471 : Int64 := w_474.2.2.2.2.2
      F_r_readDoor_L58d m_textEnd g_tape g_c r_10 n_9 r_426 ((900 - n_468.toInt + (1 : Int32).toInt).toNat + 1) (0 : Int32) (1 : Int32) n_418 n_419 n_466 n_467 n_468 n_469 n_470 n_471) else (
      let w_445 := F_r_must_0 n_418 n_419 n_420 n_421
      let n_441 : Int32 := w_445.1
      let n_442 : Int32 := w_445.2
      F_r_readDoor_L58c g_c n_9 n_420 n_421 n_422 n_423 n_424 n_425 n_441 n_442 ((900 - n_422.toInt + (1 : Int32).toInt).toNat + 1))) else (
    let w_28 := F_r_must_0 n_1 n_2 n_3 n_4
    let n_24 : Int32 := w_28.1
    let n_25 : Int32 := w_28.2
    let w_39 := F_r_count m_textEnd n_24 n_25 n_3 n_4 n_5 n_6 n_7 n_8 g_tape 0 99
    let r_37 : Int32 := w_39.1
    let n_29 : Int32 := w_39.2.1
    let n_30 : Int32 := w_39.2.2.1
    let n_31 : Int32 := w_39.2.2.2.1
    let n_32 : Int32 := w_39.2.2.2.2.1
    let n_33 : Int32 := w_39.2.2.2.2.2.1
    let n_34 : Int32 := w_39.2.2.2.2.2.2.1
    let n_35 : Int32 := w_39.2.2.2.2.2.2.2.1
    let n_36 : Int64 := w_39.2.2.2.2.2.2.2.2
    let w_48 := F_r_houseWord n_31 n_36
    let r_46 : Int32 := w_48
    if r_46 = 10 then (
      let w_85 := F_r_must_1 m_textEnd n_29 n_31 n_32 n_33 n_34 n_35 n_36 g_tape
      let n_77 : Int32 := w_85.1
      let n_78 : Int32 := w_85.2.1
      let n_79 : Int32 := w_85.2.2.1
      let n_80 : Int32 := w_85.2.2.2.1
      let n_81 : Int32 := w_85.2.2.2.2.1
      let n_82 : Int64 := w_85.2.2.2.2.2
      F_r_readDoor_L58b m_textEnd g_tape g_c r_10 n_9 r_37 ((900 - n_79.toInt + (1 : Int32).toInt).toNat + 1) (0 : Int32) (1 : Int32) n_29 n_30 n_77 n_78 n_79 n_80 n_81 n_82) else (
      let w_56 := F_r_must_0 n_29 n_30 n_31 n_32
      let n_52 : Int32 := w_56.1
      let n_53 : Int32 := w_56.2
      F_r_readDoor_L58a g_c n_9 n_31 n_32 n_33 n_34 n_35 n_36 n_52 n_53 ((900 - n_33.toInt + (1 : Int32).toInt).toNat + 1)))
theorem F_r_readDoor_s (m_textEnd : Int32) (m_bad : Int32) (m_badAt : Int32) (m_token : Int32) (m_at : Int32) (m_behind : Int32) (m_number : Int32) (m_letters : Int32) (m_word : Int64) (g_tape : Nat → Int32) (g_c : Nat → Int32) (g_words : Nat → Int64) : F_r_readDoor m_textEnd m_bad m_badAt m_token m_at m_behind m_number m_letters m_word g_tape g_c g_words = (
  let w_12 := F_r_readNew_3 m_textEnd m_bad m_badAt m_token m_at m_behind m_number m_letters m_word g_tape g_c g_words
  let r_10 : Int32 := w_12.1
  let n_1 : Int32 := w_12.2.1
  let n_2 : Int32 := w_12.2.2.1
  let n_3 : Int32 := w_12.2.2.2.1
  let n_4 : Int32 := w_12.2.2.2.2.1
  let n_5 : Int32 := w_12.2.2.2.2.2.1
  let n_6 : Int32 := w_12.2.2.2.2.2.2.1
  let n_7 : Int32 := w_12.2.2.2.2.2.2.2.1
  let n_8 : Int64 := w_12.2.2.2.2.2.2.2.2.1
  let n_9 : Nat → Int64 := w_12.2.2.2.2.2.2.2.2.2
  let w_20 := F_r_houseWord n_3 n_8
  let r_18 : Int32 := w_20
  if r_18 = 9 then (
    let w_414 := F_r_must_1 m_textEnd n_1 n_3 n_4 n_5 n_6 n_7 n_8 g_tape
    let n_406 : Int32 := w_414.1
    let n_407 : Int32 := w_414.2.1
    let n_408 : Int32 := w_414.2.2.1
    let n_409 : Int32 := w_414.2.2.2.1
    let n_410 : Int32 := w_414.2.2.2.2.1
    let n_411 : Int64 := w_414.2.2.2.2.2
    let w_428 := F_r_count m_textEnd n_1 n_2 n_406 n_407 n_408 n_409 n_410 n_411 g_tape 0 99
    let r_426 : Int32 := w_428.1
    let n_418 : Int32 := w_428.2.1
    let n_419 : Int32 := w_428.2.2.1
    let n_420 : Int32 := w_428.2.2.2.1
    let n_421 : Int32 := w_428.2.2.2.2.1
    let n_422 : Int32 := w_428.2.2.2.2.2.1
    let n_423 : Int32 := w_428.2.2.2.2.2.2.1
    let n_424 : Int32 := w_428.2.2.2.2.2.2.2.1
    let n_425 : Int64 := w_428.2.2.2.2.2.2.2.2
    let w_437 := F_r_houseWord n_420 n_425
    let r_435 : Int32 := w_437
    if r_435 = 10 then (
      let w_474 := F_r_must_1 m_textEnd n_418 n_420 n_421 n_422 n_423 n_424 n_425 g_tape
      let n_466 : Int32 := w_474.1
      let n_467 : Int32 := w_474.2.1
      let n_468 : Int32 := w_474.2.2.1
      let n_469 : Int32 := w_474.2.2.2.1
      let n_470 : Int32 := w_474.2.2.2.2.1
      let n_471 : Int64 := w_474.2.2.2.2.2
      F_r_readDoor_L58d m_textEnd g_tape g_c r_10 n_9 r_426 ((900 - n_468.toInt + (1 : Int32).toInt).toNat + 1) (0 : Int32) (1 : Int32) n_418 n_419 n_466 n_467 n_468 n_469 n_470 n_471) else (
      let w_445 := F_r_must_0 n_418 n_419 n_420 n_421
      let n_441 : Int32 := w_445.1
      let n_442 : Int32 := w_445.2
      F_r_readDoor_L58c g_c n_9 n_420 n_421 n_422 n_423 n_424 n_425 n_441 n_442 ((900 - n_422.toInt + (1 : Int32).toInt).toNat + 1))) else (
    let w_28 := F_r_must_0 n_1 n_2 n_3 n_4
    let n_24 : Int32 := w_28.1
    let n_25 : Int32 := w_28.2
    let w_39 := F_r_count m_textEnd n_24 n_25 n_3 n_4 n_5 n_6 n_7 n_8 g_tape 0 99
    let r_37 : Int32 := w_39.1
    let n_29 : Int32 := w_39.2.1
    let n_30 : Int32 := w_39.2.2.1
    let n_31 : Int32 := w_39.2.2.2.1
    let n_32 : Int32 := w_39.2.2.2.2.1
    let n_33 : Int32 := w_39.2.2.2.2.2.1
    let n_34 : Int32 := w_39.2.2.2.2.2.2.1
    let n_35 : Int32 := w_39.2.2.2.2.2.2.2.1
    let n_36 : Int64 := w_39.2.2.2.2.2.2.2.2
    let w_48 := F_r_houseWord n_31 n_36
    let r_46 : Int32 := w_48
    if r_46 = 10 then (
      let w_85 := F_r_must_1 m_textEnd n_29 n_31 n_32 n_33 n_34 n_35 n_36 g_tape
      let n_77 : Int32 := w_85.1
      let n_78 : Int32 := w_85.2.1
      let n_79 : Int32 := w_85.2.2.1
      let n_80 : Int32 := w_85.2.2.2.1
      let n_81 : Int32 := w_85.2.2.2.2.1
      let n_82 : Int64 := w_85.2.2.2.2.2
      F_r_readDoor_L58b m_textEnd g_tape g_c r_10 n_9 r_37 ((900 - n_79.toInt + (1 : Int32).toInt).toNat + 1) (0 : Int32) (1 : Int32) n_29 n_30 n_77 n_78 n_79 n_80 n_81 n_82) else (
      let w_56 := F_r_must_0 n_29 n_30 n_31 n_32
      let n_52 : Int32 := w_56.1
      let n_53 : Int32 := w_56.2
      F_r_readDoor_L58a g_c n_9 n_31 n_32 n_33 n_34 n_35 n_36 n_52 n_53 ((900 - n_33.toInt + (1 : Int32).toInt).toNat + 1)))) := rfl
noncomputable def F_r_readSeconds_L35a (m_textEnd : Int32) (g_tape : Nat → Int32) : Nat → Int32 → (Nat → Int32) → Int32 → Int32 → Int32 → Int32 → Int32 → Int32 → Int32 → Int64 → (Int32 × Int32 × Int32 × Int32 × Int32 × Int32 × Int32 × Int64 × Int32 × (Nat → Int32)) := fun k9 => Nat.rec (motive := fun _ => Int32 → (Nat → Int32) → Int32 → Int32 → Int32 → Int32 → Int32 → Int32 → Int32 → Int64 → (Int32 × Int32 × Int32 × Int32 × Int32 × Int32 × Int32 × Int64 × Int32 × (Nat → Int32))) (fun _ _ _ _ _ _ _ _ _ _ => default) (fun _ (G_L35a : Int32 → (Nat → Int32) → Int32 → Int32 → Int32 → Int32 → Int32 → Int32 → Int32 → Int64 → (Int32 × Int32 × Int32 × Int32 × Int32 × Int32 × Int32 × Int64 × Int32 × (Nat → Int32))) => fun (v_405 : Int32) (g_406 : Nat → Int32) (v_407 : Int32) (v_408 : Int32) (v_409 : Int32) (v_410 : Int32) (v_411 : Int32) (v_412 : Int32) (v_413 : Int32) (v_414 : Int64) =>
    if 4 ≤ v_405 then (
      (v_407, v_408, v_409, v_410, v_411, v_412, v_413, v_414, (1 : Int32), g_406)) else (
      let w_571 := F_r_houseWord v_409 v_414
      let r_569 : Int32 := w_571
      let x_573 : Int32 := ((11 : Int32) + v_405)
      if r_569 = x_573 then (
        let w_613 := F_r_must_1 m_textEnd v_407 v_409 v_410 v_411 v_412 v_413 v_414 g_tape
        let n_605 : Int32 := w_613.1
        let n_606 : Int32 := w_613.2.1
        let n_607 : Int32 := w_613.2.2.1
        let n_608 : Int32 := w_613.2.2.2.1
        let n_609 : Int32 := w_613.2.2.2.2.1
        let n_610 : Int64 := w_613.2.2.2.2.2
        let x_617 : Int32 := ((1465 : Int32) + v_405)
        let w_628 := F_r_count m_textEnd v_407 v_408 n_605 n_606 n_607 n_608 n_609 n_610 g_tape 1 99
        let r_626 : Int32 := w_628.1
        let n_618 : Int32 := w_628.2.1
        let n_619 : Int32 := w_628.2.2.1
        let n_620 : Int32 := w_628.2.2.2.1
        let n_621 : Int32 := w_628.2.2.2.2.1
        let n_622 : Int32 := w_628.2.2.2.2.2.1
        let n_623 : Int32 := w_628.2.2.2.2.2.2.1
        let n_624 : Int32 := w_628.2.2.2.2.2.2.2.1
        let n_625 : Int64 := w_628.2.2.2.2.2.2.2.2
        let g_635 : Nat → Int32 := (upd g_406 (x_617 : Int32).toNatClampNeg r_626)
        let x_638 : Int32 := (v_405 + 1)
        G_L35a x_638 g_635 n_618 n_619 n_620 n_621 n_622 n_623 n_624 n_625) else (
        let w_580 := F_r_must_0 v_407 v_408 v_409 v_410
        let n_576 : Int32 := w_580.1
        let n_577 : Int32 := w_580.2
        let x_581 : Int32 := ((1465 : Int32) + v_405)
        let w_592 := F_r_count m_textEnd n_576 n_577 v_409 v_410 v_411 v_412 v_413 v_414 g_tape 1 99
        let r_590 : Int32 := w_592.1
        let n_582 : Int32 := w_592.2.1
        let n_583 : Int32 := w_592.2.2.1
        let n_584 : Int32 := w_592.2.2.2.1
        let n_585 : Int32 := w_592.2.2.2.2.1
        let n_586 : Int32 := w_592.2.2.2.2.2.1
        let n_587 : Int32 := w_592.2.2.2.2.2.2.1
        let n_588 : Int32 := w_592.2.2.2.2.2.2.2.1
        let n_589 : Int64 := w_592.2.2.2.2.2.2.2.2
        let g_599 : Nat → Int32 := (upd g_406 (x_581 : Int32).toNatClampNeg r_590)
        let x_602 : Int32 := (v_405 + 1)
        G_L35a x_602 g_599 n_582 n_583 n_584 n_585 n_586 n_587 n_588 n_589))) k9
theorem F_r_readSeconds_L35a_s (m_textEnd : Int32) (g_tape : Nat → Int32) (n9 : Nat) (v_405 : Int32) (g_406 : Nat → Int32) (v_407 : Int32) (v_408 : Int32) (v_409 : Int32) (v_410 : Int32) (v_411 : Int32) (v_412 : Int32) (v_413 : Int32) (v_414 : Int64) : F_r_readSeconds_L35a m_textEnd g_tape (n9 + 1) v_405 g_406 v_407 v_408 v_409 v_410 v_411 v_412 v_413 v_414 = (
    if 4 ≤ v_405 then (
      (v_407, v_408, v_409, v_410, v_411, v_412, v_413, v_414, (1 : Int32), g_406)) else (
      let w_571 := F_r_houseWord v_409 v_414
      let r_569 : Int32 := w_571
      let x_573 : Int32 := ((11 : Int32) + v_405)
      if r_569 = x_573 then (
        let w_613 := F_r_must_1 m_textEnd v_407 v_409 v_410 v_411 v_412 v_413 v_414 g_tape
        let n_605 : Int32 := w_613.1
        let n_606 : Int32 := w_613.2.1
        let n_607 : Int32 := w_613.2.2.1
        let n_608 : Int32 := w_613.2.2.2.1
        let n_609 : Int32 := w_613.2.2.2.2.1
        let n_610 : Int64 := w_613.2.2.2.2.2
        let x_617 : Int32 := ((1465 : Int32) + v_405)
        let w_628 := F_r_count m_textEnd v_407 v_408 n_605 n_606 n_607 n_608 n_609 n_610 g_tape 1 99
        let r_626 : Int32 := w_628.1
        let n_618 : Int32 := w_628.2.1
        let n_619 : Int32 := w_628.2.2.1
        let n_620 : Int32 := w_628.2.2.2.1
        let n_621 : Int32 := w_628.2.2.2.2.1
        let n_622 : Int32 := w_628.2.2.2.2.2.1
        let n_623 : Int32 := w_628.2.2.2.2.2.2.1
        let n_624 : Int32 := w_628.2.2.2.2.2.2.2.1
        let n_625 : Int64 := w_628.2.2.2.2.2.2.2.2
        let g_635 : Nat → Int32 := (upd g_406 (x_617 : Int32).toNatClampNeg r_626)
        let x_638 : Int32 := (v_405 + 1)
        (F_r_readSeconds_L35a m_textEnd g_tape n9) x_638 g_635 n_618 n_619 n_620 n_621 n_622 n_623 n_624 n_625) else (
        let w_580 := F_r_must_0 v_407 v_408 v_409 v_410
        let n_576 : Int32 := w_580.1
        let n_577 : Int32 := w_580.2
        let x_581 : Int32 := ((1465 : Int32) + v_405)
        let w_592 := F_r_count m_textEnd n_576 n_577 v_409 v_410 v_411 v_412 v_413 v_414 g_tape 1 99
        let r_590 : Int32 := w_592.1
        let n_582 : Int32 := w_592.2.1
        let n_583 : Int32 := w_592.2.2.1
        let n_584 : Int32 := w_592.2.2.2.1
        let n_585 : Int32 := w_592.2.2.2.2.1
        let n_586 : Int32 := w_592.2.2.2.2.2.1
        let n_587 : Int32 := w_592.2.2.2.2.2.2.1
        let n_588 : Int32 := w_592.2.2.2.2.2.2.2.1
        let n_589 : Int64 := w_592.2.2.2.2.2.2.2.2
        let g_599 : Nat → Int32 := (upd g_406 (x_581 : Int32).toNatClampNeg r_590)
        let x_602 : Int32 := (v_405 + 1)
        (F_r_readSeconds_L35a m_textEnd g_tape n9) x_602 g_599 n_582 n_583 n_584 n_585 n_586 n_587 n_588 n_589))) := rfl
noncomputable def F_r_readSeconds (m_textEnd : Int32) (m_bad : Int32) (m_badAt : Int32) (m_token : Int32) (m_at : Int32) (m_behind : Int32) (m_number : Int32) (m_letters : Int32) (m_word : Int64) (m_hasSeconds : Int32) (g_tape : Nat → Int32) (g_c : Nat → Int32) : Int32 × Int32 × Int32 × Int32 × Int32 × Int32 × Int32 × Int64 × Int32 × (Nat → Int32) :=
  if m_hasSeconds = 0 then (
    let w_13 := F_r_next2 m_textEnd m_behind m_number m_letters m_word g_tape
    let n_5 : Int32 := w_13.1
    let n_6 : Int32 := w_13.2.1
    let n_7 : Int32 := w_13.2.2.1
    let n_8 : Int32 := w_13.2.2.2.1
    let n_9 : Int32 := w_13.2.2.2.2.1
    let n_10 : Int64 := w_13.2.2.2.2.2
    F_r_readSeconds_L35a m_textEnd g_tape ((2147483647 - (0 : Int32).toInt).toNat + 1) (0 : Int32) g_c m_bad m_badAt n_5 n_6 n_7 n_8 n_9 n_10) else (
    let w_646 := F_r_fail m_bad m_badAt 5 m_at
    let n_642 : Int32 := w_646.1
    let n_643 : Int32 := w_646.2
    (n_642, n_643, m_token, m_at, m_behind, m_number, m_letters, m_word, m_hasSeconds, g_c))
theorem F_r_readSeconds_s (m_textEnd : Int32) (m_bad : Int32) (m_badAt : Int32) (m_token : Int32) (m_at : Int32) (m_behind : Int32) (m_number : Int32) (m_letters : Int32) (m_word : Int64) (m_hasSeconds : Int32) (g_tape : Nat → Int32) (g_c : Nat → Int32) : F_r_readSeconds m_textEnd m_bad m_badAt m_token m_at m_behind m_number m_letters m_word m_hasSeconds g_tape g_c = (
  if m_hasSeconds = 0 then (
    let w_13 := F_r_next2 m_textEnd m_behind m_number m_letters m_word g_tape
    let n_5 : Int32 := w_13.1
    let n_6 : Int32 := w_13.2.1
    let n_7 : Int32 := w_13.2.2.1
    let n_8 : Int32 := w_13.2.2.2.1
    let n_9 : Int32 := w_13.2.2.2.2.1
    let n_10 : Int64 := w_13.2.2.2.2.2
    F_r_readSeconds_L35a m_textEnd g_tape ((2147483647 - (0 : Int32).toInt).toNat + 1) (0 : Int32) g_c m_bad m_badAt n_5 n_6 n_7 n_8 n_9 n_10) else (
    let w_646 := F_r_fail m_bad m_badAt 5 m_at
    let n_642 : Int32 := w_646.1
    let n_643 : Int32 := w_646.2
    (n_642, n_643, m_token, m_at, m_behind, m_number, m_letters, m_word, m_hasSeconds, g_c))) := rfl
noncomputable def F_r_readTurned (m_textEnd : Int32) (m_bad : Int32) (m_badAt : Int32) (m_token : Int32) (m_at : Int32) (m_behind : Int32) (m_number : Int32) (m_letters : Int32) (m_word : Int64) (m_hasTurned : Int32) (g_tape : Nat → Int32) (g_c : Nat → Int32) : Int32 × Int32 × Int32 × Int32 × Int32 × Int32 × Int32 × Int64 × Int32 × (Nat → Int32) :=
  if m_hasTurned = 0 then (
    let w_13 := F_r_next2 m_textEnd m_behind m_number m_letters m_word g_tape
    let n_5 : Int32 := w_13.1
    let n_6 : Int32 := w_13.2.1
    let n_7 : Int32 := w_13.2.2.1
    let n_8 : Int32 := w_13.2.2.2.1
    let n_9 : Int32 := w_13.2.2.2.2.1
    let n_10 : Int64 := w_13.2.2.2.2.2
    let w_26 := F_r_count m_textEnd m_bad m_badAt n_5 n_6 n_7 n_8 n_9 n_10 g_tape 0 16
    let r_24 : Int32 := w_26.1
    let n_16 : Int32 := w_26.2.1
    let n_17 : Int32 := w_26.2.2.1
    let n_18 : Int32 := w_26.2.2.2.1
    let n_19 : Int32 := w_26.2.2.2.2.1
    let n_20 : Int32 := w_26.2.2.2.2.2.1
    let n_21 : Int32 := w_26.2.2.2.2.2.2.1
    let n_22 : Int32 := w_26.2.2.2.2.2.2.2.1
    let n_23 : Int64 := w_26.2.2.2.2.2.2.2.2
    let g_33 : Nat → Int32 := (upd g_c (1469 : Int32).toNatClampNeg r_24)
    (n_16, n_17, n_18, n_19, n_20, n_21, n_22, n_23, (1 : Int32), g_33)) else (
    let w_42 := F_r_fail m_bad m_badAt 5 m_at
    let n_38 : Int32 := w_42.1
    let n_39 : Int32 := w_42.2
    (n_38, n_39, m_token, m_at, m_behind, m_number, m_letters, m_word, m_hasTurned, g_c))
theorem F_r_readTurned_s (m_textEnd : Int32) (m_bad : Int32) (m_badAt : Int32) (m_token : Int32) (m_at : Int32) (m_behind : Int32) (m_number : Int32) (m_letters : Int32) (m_word : Int64) (m_hasTurned : Int32) (g_tape : Nat → Int32) (g_c : Nat → Int32) : F_r_readTurned m_textEnd m_bad m_badAt m_token m_at m_behind m_number m_letters m_word m_hasTurned g_tape g_c = (
  if m_hasTurned = 0 then (
    let w_13 := F_r_next2 m_textEnd m_behind m_number m_letters m_word g_tape
    let n_5 : Int32 := w_13.1
    let n_6 : Int32 := w_13.2.1
    let n_7 : Int32 := w_13.2.2.1
    let n_8 : Int32 := w_13.2.2.2.1
    let n_9 : Int32 := w_13.2.2.2.2.1
    let n_10 : Int64 := w_13.2.2.2.2.2
    let w_26 := F_r_count m_textEnd m_bad m_badAt n_5 n_6 n_7 n_8 n_9 n_10 g_tape 0 16
    let r_24 : Int32 := w_26.1
    let n_16 : Int32 := w_26.2.1
    let n_17 : Int32 := w_26.2.2.1
    let n_18 : Int32 := w_26.2.2.2.1
    let n_19 : Int32 := w_26.2.2.2.2.1
    let n_20 : Int32 := w_26.2.2.2.2.2.1
    let n_21 : Int32 := w_26.2.2.2.2.2.2.1
    let n_22 : Int32 := w_26.2.2.2.2.2.2.2.1
    let n_23 : Int64 := w_26.2.2.2.2.2.2.2.2
    let g_33 : Nat → Int32 := (upd g_c (1469 : Int32).toNatClampNeg r_24)
    (n_16, n_17, n_18, n_19, n_20, n_21, n_22, n_23, (1 : Int32), g_33)) else (
    let w_42 := F_r_fail m_bad m_badAt 5 m_at
    let n_38 : Int32 := w_42.1
    let n_39 : Int32 := w_42.2
    (n_38, n_39, m_token, m_at, m_behind, m_number, m_letters, m_word, m_hasTurned, g_c))) := rfl
noncomputable def F_r_readRound_L35a (m_textEnd : Int32) (g_tape : Nat → Int32) (g_words : Nat → Int64) : Nat → Int32 → (Nat → Int32) → Int32 → Int32 → Int32 → Int32 → Int32 → Int32 → Int32 → Int64 → (Int32 × Int32 × Int32 × Int32 × Int32 × Int32 × Int32 × Int64 × Int32 × (Nat → Int32)) := fun k9 => Nat.rec (motive := fun _ => Int32 → (Nat → Int32) → Int32 → Int32 → Int32 → Int32 → Int32 → Int32 → Int32 → Int64 → (Int32 × Int32 × Int32 × Int32 × Int32 × Int32 × Int32 × Int64 × Int32 × (Nat → Int32))) (fun _ _ _ _ _ _ _ _ _ _ => default) (fun _ (G_L35a : Int32 → (Nat → Int32) → Int32 → Int32 → Int32 → Int32 → Int32 → Int32 → Int32 → Int64 → (Int32 × Int32 × Int32 × Int32 × Int32 × Int32 × Int32 × Int64 × Int32 × (Nat → Int32))) => fun (v_135 : Int32) (g_136 : Nat → Int32) (v_137 : Int32) (v_138 : Int32) (v_139 : Int32) (v_140 : Int32) (v_141 : Int32) (v_142 : Int32) (v_143 : Int32) (v_144 : Int64) =>
    if v_135 = 0 then (
      (v_137, v_138, v_139, v_140, v_141, v_142, v_143, v_144, (1 : Int32), g_136)) else (
      let w_273 := F_r_readOld_3 v_137 v_138 v_139 v_140 v_143 v_144 g_136 g_words
      let r_271 : Int32 := w_273.1
      let n_269 : Int32 := w_273.2.1
      let n_270 : Int32 := w_273.2.2
      if n_269 = 0 then (
        let x_283 : Int32 := (g_136 (1464 : Int32).toNatClampNeg)
        if x_283 = 12 then (
          let w_319 := F_r_fail n_269 n_270 6 v_140
          let n_315 : Int32 := w_319.1
          let n_316 : Int32 := w_319.2
          (n_315, n_316, v_139, v_140, v_141, v_142, v_143, v_144, (1 : Int32), g_136)) else (
          let x_288 : Int32 := (g_136 (1464 : Int32).toNatClampNeg)
          let x_289 : Int32 := ((1598 : Int32) + x_288)
          let g_290 : Nat → Int32 := (upd g_136 (x_289 : Int32).toNatClampNeg r_271)
          let x_293 : Int32 := (g_290 (1464 : Int32).toNatClampNeg)
          let x_294 : Int32 := (x_293 + 1)
          let g_295 : Nat → Int32 := (upd g_290 (1464 : Int32).toNatClampNeg x_294)
          let w_306 := F_r_next2 m_textEnd v_141 v_142 v_143 v_144 g_tape
          let n_298 : Int32 := w_306.1
          let n_299 : Int32 := w_306.2.1
          let n_300 : Int32 := w_306.2.2.1
          let n_301 : Int32 := w_306.2.2.2.1
          let n_302 : Int32 := w_306.2.2.2.2.1
          let n_303 : Int64 := w_306.2.2.2.2.2
          if n_298 = 1 then (
            G_L35a 1 g_295 n_269 n_270 n_298 n_299 n_300 n_301 n_302 n_303) else (
            G_L35a 0 g_295 n_269 n_270 n_298 n_299 n_300 n_301 n_302 n_303))) else (
        (n_269, n_270, v_139, v_140, v_141, v_142, v_143, v_144, (1 : Int32), g_136)))) k9
theorem F_r_readRound_L35a_s (m_textEnd : Int32) (g_tape : Nat → Int32) (g_words : Nat → Int64) (n9 : Nat) (v_135 : Int32) (g_136 : Nat → Int32) (v_137 : Int32) (v_138 : Int32) (v_139 : Int32) (v_140 : Int32) (v_141 : Int32) (v_142 : Int32) (v_143 : Int32) (v_144 : Int64) : F_r_readRound_L35a m_textEnd g_tape g_words (n9 + 1) v_135 g_136 v_137 v_138 v_139 v_140 v_141 v_142 v_143 v_144 = (
    if v_135 = 0 then (
      (v_137, v_138, v_139, v_140, v_141, v_142, v_143, v_144, (1 : Int32), g_136)) else (
      let w_273 := F_r_readOld_3 v_137 v_138 v_139 v_140 v_143 v_144 g_136 g_words
      let r_271 : Int32 := w_273.1
      let n_269 : Int32 := w_273.2.1
      let n_270 : Int32 := w_273.2.2
      if n_269 = 0 then (
        let x_283 : Int32 := (g_136 (1464 : Int32).toNatClampNeg)
        if x_283 = 12 then (
          let w_319 := F_r_fail n_269 n_270 6 v_140
          let n_315 : Int32 := w_319.1
          let n_316 : Int32 := w_319.2
          (n_315, n_316, v_139, v_140, v_141, v_142, v_143, v_144, (1 : Int32), g_136)) else (
          let x_288 : Int32 := (g_136 (1464 : Int32).toNatClampNeg)
          let x_289 : Int32 := ((1598 : Int32) + x_288)
          let g_290 : Nat → Int32 := (upd g_136 (x_289 : Int32).toNatClampNeg r_271)
          let x_293 : Int32 := (g_290 (1464 : Int32).toNatClampNeg)
          let x_294 : Int32 := (x_293 + 1)
          let g_295 : Nat → Int32 := (upd g_290 (1464 : Int32).toNatClampNeg x_294)
          let w_306 := F_r_next2 m_textEnd v_141 v_142 v_143 v_144 g_tape
          let n_298 : Int32 := w_306.1
          let n_299 : Int32 := w_306.2.1
          let n_300 : Int32 := w_306.2.2.1
          let n_301 : Int32 := w_306.2.2.2.1
          let n_302 : Int32 := w_306.2.2.2.2.1
          let n_303 : Int64 := w_306.2.2.2.2.2
          if n_298 = 1 then (
            (F_r_readRound_L35a m_textEnd g_tape g_words n9) 1 g_295 n_269 n_270 n_298 n_299 n_300 n_301 n_302 n_303) else (
            (F_r_readRound_L35a m_textEnd g_tape g_words n9) 0 g_295 n_269 n_270 n_298 n_299 n_300 n_301 n_302 n_303))) else (
        (n_269, n_270, v_139, v_140, v_141, v_142, v_143, v_144, (1 : Int32), g_136)))) := rfl
noncomputable def F_r_readRound (m_textEnd : Int32) (m_bad : Int32) (m_badAt : Int32) (m_token : Int32) (m_at : Int32) (m_behind : Int32) (m_number : Int32) (m_letters : Int32) (m_word : Int64) (m_hasRound : Int32) (g_tape : Nat → Int32) (g_c : Nat → Int32) (g_words : Nat → Int64) : Int32 × Int32 × Int32 × Int32 × Int32 × Int32 × Int32 × Int64 × Int32 × (Nat → Int32) :=
  if m_hasRound = 0 then (
    let w_13 := F_r_next2 m_textEnd m_behind m_number m_letters m_word g_tape
    let n_5 : Int32 := w_13.1
    let n_6 : Int32 := w_13.2.1
    let n_7 : Int32 := w_13.2.2.1
    let n_8 : Int32 := w_13.2.2.2.1
    let n_9 : Int32 := w_13.2.2.2.2.1
    let n_10 : Int64 := w_13.2.2.2.2.2
    F_r_readRound_L35a m_textEnd g_tape g_words ((900 - n_7.toInt + (1 : Int32).toInt).toNat + 1) (1 : Int32) g_c m_bad m_badAt n_5 n_6 n_7 n_8 n_9 n_10) else (
    let w_330 := F_r_fail m_bad m_badAt 5 m_at
    let n_326 : Int32 := w_330.1
    let n_327 : Int32 := w_330.2
    (n_326, n_327, m_token, m_at, m_behind, m_number, m_letters, m_word, m_hasRound, g_c))
theorem F_r_readRound_s (m_textEnd : Int32) (m_bad : Int32) (m_badAt : Int32) (m_token : Int32) (m_at : Int32) (m_behind : Int32) (m_number : Int32) (m_letters : Int32) (m_word : Int64) (m_hasRound : Int32) (g_tape : Nat → Int32) (g_c : Nat → Int32) (g_words : Nat → Int64) : F_r_readRound m_textEnd m_bad m_badAt m_token m_at m_behind m_number m_letters m_word m_hasRound g_tape g_c g_words = (
  if m_hasRound = 0 then (
    let w_13 := F_r_next2 m_textEnd m_behind m_number m_letters m_word g_tape
    let n_5 : Int32 := w_13.1
    let n_6 : Int32 := w_13.2.1
    let n_7 : Int32 := w_13.2.2.1
    let n_8 : Int32 := w_13.2.2.2.1
    let n_9 : Int32 := w_13.2.2.2.2.1
    let n_10 : Int64 := w_13.2.2.2.2.2
    F_r_readRound_L35a m_textEnd g_tape g_words ((900 - n_7.toInt + (1 : Int32).toInt).toNat + 1) (1 : Int32) g_c m_bad m_badAt n_5 n_6 n_7 n_8 n_9 n_10) else (
    let w_330 := F_r_fail m_bad m_badAt 5 m_at
    let n_326 : Int32 := w_330.1
    let n_327 : Int32 := w_330.2
    (n_326, n_327, m_token, m_at, m_behind, m_number, m_letters, m_word, m_hasRound, g_c))) := rfl
noncomputable def F_r_isTurn (m_token : Int32) (m_word : Int64) : Int32 :=
  let w_3 := F_r_spelled 116 117 114 110 0 0
  let r_1 : Int64 := w_3
  let w_6 := F_r_isWord m_token m_word r_1
  let r_4 : Int32 := w_6
  if r_4 = 0 then (
    (0 : Int32)) else
  (
    (1 : Int32))
theorem F_r_isTurn_s (m_token : Int32) (m_word : Int64) : F_r_isTurn m_token m_word = (
  let w_3 := F_r_spelled 116 117 114 110 0 0
  let r_1 : Int64 := w_3
  let w_6 := F_r_isWord m_token m_word r_1
  let r_4 : Int32 := w_6
  if r_4 = 0 then (
    (0 : Int32)) else
  (
    (1 : Int32))) := rfl
noncomputable def F_r_isStop (m_token : Int32) (m_word : Int64) : Int32 :=
  let w_3 := F_r_spelled 115 116 111 112 0 0
  let r_1 : Int64 := w_3
  let w_6 := F_r_isWord m_token m_word r_1
  let r_4 : Int32 := w_6
  if r_4 = 0 then (
    (0 : Int32)) else
  (
    (1 : Int32))
theorem F_r_isStop_s (m_token : Int32) (m_word : Int64) : F_r_isStop m_token m_word = (
  let w_3 := F_r_spelled 115 116 111 112 0 0
  let r_1 : Int64 := w_3
  let w_6 := F_r_isWord m_token m_word r_1
  let r_4 : Int32 := w_6
  if r_4 = 0 then (
    (0 : Int32)) else
  (
    (1 : Int32))) := rfl
noncomputable def F_r_isWhen (m_token : Int32) (m_word : Int64) : Int32 :=
  let w_3 := F_r_spelled 119 104 101 110 0 0
  let r_1 : Int64 := w_3
  let w_6 := F_r_isWord m_token m_word r_1
  let r_4 : Int32 := w_6
  if r_4 = 0 then (
    (0 : Int32)) else
  (
    (1 : Int32))
theorem F_r_isWhen_s (m_token : Int32) (m_word : Int64) : F_r_isWhen m_token m_word = (
  let w_3 := F_r_spelled 119 104 101 110 0 0
  let r_1 : Int64 := w_3
  let w_6 := F_r_isWord m_token m_word r_1
  let r_4 : Int32 := w_6
  if r_4 = 0 then (
    (0 : Int32)) else
  (
    (1 : Int32))) := rfl
noncomputable def F_r_isLoop (m_token : Int32) (m_word : Int64) : Int32 :=
  let w_3 := F_r_spelled 108 111 111 112 0 0
  let r_1 : Int64 := w_3
  let w_6 := F_r_isWord m_token m_word r_1
  let r_4 : Int32 := w_6
  if r_4 = 0 then (
    (0 : Int32)) else
  (
    (1 : Int32))
theorem F_r_isLoop_s (m_token : Int32) (m_word : Int64) : F_r_isLoop m_token m_word = (
  let w_3 := F_r_spelled 108 111 111 112 0 0
  let r_1 : Int64 := w_3
  let w_6 := F_r_isWord m_token m_word r_1
  let r_4 : Int32 := w_6
  if r_4 = 0 then (
    (0 : Int32)) else
  (
    (1 : Int32))) := rfl
noncomputable def F_r_isEnd (m_token : Int32) (m_word : Int64) : Int32 :=
  let w_3 := F_r_spelled 101 110 100 0 0 0
  let r_1 : Int64 := w_3
  let w_6 := F_r_isWord m_token m_word r_1
  let r_4 : Int32 := w_6
  if r_4 = 0 then (
    (0 : Int32)) else
  (
    (1 : Int32))
theorem F_r_isEnd_s (m_token : Int32) (m_word : Int64) : F_r_isEnd m_token m_word = (
  let w_3 := F_r_spelled 101 110 100 0 0 0
  let r_1 : Int64 := w_3
  let w_6 := F_r_isWord m_token m_word r_1
  let r_4 : Int32 := w_6
  if r_4 = 0 then (
    (0 : Int32)) else
  (
    (1 : Int32))) := rfl
noncomputable def F_r_isFelt (m_token : Int32) (m_word : Int64) : Int32 :=
  let w_3 := F_r_spelled 102 101 108 116 0 0
  let r_1 : Int64 := w_3
  let w_6 := F_r_isWord m_token m_word r_1
  let r_4 : Int32 := w_6
  if r_4 = 0 then (
    (0 : Int32)) else
  (
    (1 : Int32))
theorem F_r_isFelt_s (m_token : Int32) (m_word : Int64) : F_r_isFelt m_token m_word = (
  let w_3 := F_r_spelled 102 101 108 116 0 0
  let r_1 : Int64 := w_3
  let w_6 := F_r_isWord m_token m_word r_1
  let r_4 : Int32 := w_6
  if r_4 = 0 then (
    (0 : Int32)) else
  (
    (1 : Int32))) := rfl
noncomputable def F_r_isSure (m_token : Int32) (m_word : Int64) : Int32 :=
  let w_3 := F_r_spelled 115 117 114 101 0 0
  let r_1 : Int64 := w_3
  let w_6 := F_r_isWord m_token m_word r_1
  let r_4 : Int32 := w_6
  if r_4 = 0 then (
    (0 : Int32)) else
  (
    (1 : Int32))
theorem F_r_isSure_s (m_token : Int32) (m_word : Int64) : F_r_isSure m_token m_word = (
  let w_3 := F_r_spelled 115 117 114 101 0 0
  let r_1 : Int64 := w_3
  let w_6 := F_r_isWord m_token m_word r_1
  let r_4 : Int32 := w_6
  if r_4 = 0 then (
    (0 : Int32)) else
  (
    (1 : Int32))) := rfl
noncomputable def F_r_isTried (m_token : Int32) (m_word : Int64) : Int32 :=
  let w_3 := F_r_spelled 116 114 105 101 100 0
  let r_1 : Int64 := w_3
  let w_6 := F_r_isWord m_token m_word r_1
  let r_4 : Int32 := w_6
  if r_4 = 0 then (
    (0 : Int32)) else
  (
    (1 : Int32))
theorem F_r_isTried_s (m_token : Int32) (m_word : Int64) : F_r_isTried m_token m_word = (
  let w_3 := F_r_spelled 116 114 105 101 100 0
  let r_1 : Int64 := w_3
  let w_6 := F_r_isWord m_token m_word r_1
  let r_4 : Int32 := w_6
  if r_4 = 0 then (
    (0 : Int32)) else
  (
    (1 : Int32))) := rfl
noncomputable def F_r_plainStep (m_token : Int32) (m_word : Int64) : Int32 :=
  let w_3 := F_r_houseWord m_token m_word
  let r_1 : Int32 := w_3
  if r_1 = 11 then (
    (0 : Int32)) else (
    if r_1 = 12 then (
      (1 : Int32)) else (
      if r_1 = 13 then (
        (2 : Int32)) else (
        if r_1 = 14 then (
          (4 : Int32)) else (
          let w_15 := F_r_isTurn m_token m_word
          let r_13 : Int32 := w_15
          if r_13 = 0 then (
            let w_19 := F_r_isStop m_token m_word
            let r_17 : Int32 := w_19
            if r_17 = 0 then (
              (-1 : Int32)) else
            (
              (5 : Int32))) else
          (
            (3 : Int32))))))
theorem F_r_plainStep_s (m_token : Int32) (m_word : Int64) : F_r_plainStep m_token m_word = (
  let w_3 := F_r_houseWord m_token m_word
  let r_1 : Int32 := w_3
  if r_1 = 11 then (
    (0 : Int32)) else (
    if r_1 = 12 then (
      (1 : Int32)) else (
      if r_1 = 13 then (
        (2 : Int32)) else (
        if r_1 = 14 then (
          (4 : Int32)) else (
          let w_15 := F_r_isTurn m_token m_word
          let r_13 : Int32 := w_15
          if r_13 = 0 then (
            let w_19 := F_r_isStop m_token m_word
            let r_17 : Int32 := w_19
            if r_17 = 0 then (
              (-1 : Int32)) else
            (
              (5 : Int32))) else
          (
            (3 : Int32))))))) := rfl
noncomputable def F_r_empty_1460_L2a : Nat → Int32 → (Nat → Int32) → (Nat → Int32) := fun k9 => Nat.rec (motive := fun _ => Int32 → (Nat → Int32) → (Nat → Int32)) (fun _ _ => default) (fun _ (G_L2a : Int32 → (Nat → Int32) → (Nat → Int32)) => fun (v_199 : Int32) (g_200 : Nat → Int32) =>
    if 180 ≤ v_199 then (
      let g_236 : Nat → Int32 := (upd g_200 (1465 : Int32).toNatClampNeg 1)
      let g_239 : Nat → Int32 := (upd g_236 (1466 : Int32).toNatClampNeg 4)
      let g_242 : Nat → Int32 := (upd g_239 (1467 : Int32).toNatClampNeg 1)
      let g_245 : Nat → Int32 := (upd g_242 (1468 : Int32).toNatClampNeg 9)
      let g_248 : Nat → Int32 := (upd g_245 (1469 : Int32).toNatClampNeg 8)
      let g_251 : Nat → Int32 := (upd g_248 (1470 : Int32).toNatClampNeg (-1))
      g_251) else (
      let x_256 : Int32 := ((1460 : Int32) + v_199)
      let g_257 : Nat → Int32 := (upd g_200 (x_256 : Int32).toNatClampNeg 0)
      let x_258 : Int32 := (v_199 + 1)
      G_L2a x_258 g_257)) k9
theorem F_r_empty_1460_L2a_s (n9 : Nat) (v_199 : Int32) (g_200 : Nat → Int32) : F_r_empty_1460_L2a (n9 + 1) v_199 g_200 = (
    if 180 ≤ v_199 then (
      let g_236 : Nat → Int32 := (upd g_200 (1465 : Int32).toNatClampNeg 1)
      let g_239 : Nat → Int32 := (upd g_236 (1466 : Int32).toNatClampNeg 4)
      let g_242 : Nat → Int32 := (upd g_239 (1467 : Int32).toNatClampNeg 1)
      let g_245 : Nat → Int32 := (upd g_242 (1468 : Int32).toNatClampNeg 9)
      let g_248 : Nat → Int32 := (upd g_245 (1469 : Int32).toNatClampNeg 8)
      let g_251 : Nat → Int32 := (upd g_248 (1470 : Int32).toNatClampNeg (-1))
      g_251) else (
      let x_256 : Int32 := ((1460 : Int32) + v_199)
      let g_257 : Nat → Int32 := (upd g_200 (x_256 : Int32).toNatClampNeg 0)
      let x_258 : Int32 := (v_199 + 1)
      (F_r_empty_1460_L2a n9) x_258 g_257)) := rfl
noncomputable def F_r_empty_1460 (g_c : Nat → Int32) : (Nat → Int32) :=
  F_r_empty_1460_L2a ((2147483647 - (0 : Int32).toInt).toNat + 1) (0 : Int32) g_c
theorem F_r_empty_1460_s (g_c : Nat → Int32) : F_r_empty_1460 g_c = (
  F_r_empty_1460_L2a ((2147483647 - (0 : Int32).toInt).toNat + 1) (0 : Int32) g_c) := rfl
noncomputable def F_r_house_L220a (n_2 : Int32) (n_3 : Int32) (g_826 : Nat → Int32) (v_827 : Int32) (v_828 : Int32) (v_829 : Int32) (v_830 : Int32) (v_831 : Int32) (v_832 : Int32) (v_833 : Int32) (v_834 : Int64) (v_835 : Int32) (v_836 : Int32) (v_837 : Int32) (g_839 : Nat → Int32) (n_2918 : Int32) (n_2919 : Int32) (n_2920 : Int32) (g_3155 : Nat → Int32) : Nat → Int32 → (Nat → Int64) → (Int32 × Int32 × Int32 × Int32 × Int32 × Int32 × Int32 × Int32 × Int32 × Int32 × Int32 × Int64 × Int32 × Int32 × Int32 × Int32 × Int32 × Int32 × (Nat → Int32) × (Nat → Int64) × (Nat → Int32) × (Nat → Int32)) := fun k9 => Nat.rec (motive := fun _ => Int32 → (Nat → Int64) → (Int32 × Int32 × Int32 × Int32 × Int32 × Int32 × Int32 × Int32 × Int32 × Int32 × Int32 × Int64 × Int32 × Int32 × Int32 × Int32 × Int32 × Int32 × (Nat → Int32) × (Nat → Int64) × (Nat → Int32) × (Nat → Int32))) (fun _ _ => default) (fun _ (G_L220a : Int32 → (Nat → Int64) → (Int32 × Int32 × Int32 × Int32 × Int32 × Int32 × Int32 × Int32 × Int32 × Int32 × Int32 × Int64 × Int32 × Int32 × Int32 × Int32 × Int32 × Int32 × (Nat → Int32) × (Nat → Int64) × (Nat → Int32) × (Nat → Int32))) => fun (v_3529 : Int32) (g_3530 : Nat → Int64) =>
    if 21 ≤ v_3529 then (
      let x_3550 : Int32 := (g_3155 (1 : Int32).toNatClampNeg)
      (x_3550, n_2918, (0 : Int32), n_2, n_3, v_827, v_829, v_830, v_831, v_832, v_833, v_834, n_2919, n_2920, v_828, v_835, v_836, v_837, g_3155, g_3530, g_826, g_839)) else (
      let x_3553 : Int32 := ((84 : Int32) + v_3529)
      let x_3554 : Int64 := (g_3530 (x_3553 : Int32).toNatClampNeg)
      let g_3555 : Nat → Int64 := (vp_updL g_3530 (v_3529 : Int32).toNatClampNeg x_3554)
      let x_3556 : Int32 := (v_3529 + 1)
      G_L220a x_3556 g_3555)) k9
theorem F_r_house_L220a_s (n_2 : Int32) (n_3 : Int32) (g_826 : Nat → Int32) (v_827 : Int32) (v_828 : Int32) (v_829 : Int32) (v_830 : Int32) (v_831 : Int32) (v_832 : Int32) (v_833 : Int32) (v_834 : Int64) (v_835 : Int32) (v_836 : Int32) (v_837 : Int32) (g_839 : Nat → Int32) (n_2918 : Int32) (n_2919 : Int32) (n_2920 : Int32) (g_3155 : Nat → Int32) (n9 : Nat) (v_3529 : Int32) (g_3530 : Nat → Int64) : F_r_house_L220a n_2 n_3 g_826 v_827 v_828 v_829 v_830 v_831 v_832 v_833 v_834 v_835 v_836 v_837 g_839 n_2918 n_2919 n_2920 g_3155 (n9 + 1) v_3529 g_3530 = (
    if 21 ≤ v_3529 then (
      let x_3550 : Int32 := (g_3155 (1 : Int32).toNatClampNeg)
      (x_3550, n_2918, (0 : Int32), n_2, n_3, v_827, v_829, v_830, v_831, v_832, v_833, v_834, n_2919, n_2920, v_828, v_835, v_836, v_837, g_3155, g_3530, g_826, g_839)) else (
      let x_3553 : Int32 := ((84 : Int32) + v_3529)
      let x_3554 : Int64 := (g_3530 (x_3553 : Int32).toNatClampNeg)
      let g_3555 : Nat → Int64 := (vp_updL g_3530 (v_3529 : Int32).toNatClampNeg x_3554)
      let x_3556 : Int32 := (v_3529 + 1)
      (F_r_house_L220a n_2 n_3 g_826 v_827 v_828 v_829 v_830 v_831 v_832 v_833 v_834 v_835 v_836 v_837 g_839 n_2918 n_2919 n_2920 g_3155 n9) x_3556 g_3555)) := rfl
noncomputable def F_r_house_L189a (n_2 : Int32) (n_3 : Int32) (g_825 : Nat → Int64) (g_826 : Nat → Int32) (v_827 : Int32) (v_828 : Int32) (v_829 : Int32) (v_830 : Int32) (v_831 : Int32) (v_832 : Int32) (v_833 : Int32) (v_834 : Int64) (v_835 : Int32) (v_836 : Int32) (v_837 : Int32) (g_839 : Nat → Int32) (n_2918 : Int32) (n_2919 : Int32) (n_2920 : Int32) : Nat → Int32 → (Nat → Int32) → (Int32 × Int32 × Int32 × Int32 × Int32 × Int32 × Int32 × Int32 × Int32 × Int32 × Int32 × Int64 × Int32 × Int32 × Int32 × Int32 × Int32 × Int32 × (Nat → Int32) × (Nat → Int64) × (Nat → Int32) × (Nat → Int32)) := fun k9 => Nat.rec (motive := fun _ => Int32 → (Nat → Int32) → (Int32 × Int32 × Int32 × Int32 × Int32 × Int32 × Int32 × Int32 × Int32 × Int32 × Int32 × Int64 × Int32 × Int32 × Int32 × Int32 × Int32 × Int32 × (Nat → Int32) × (Nat → Int64) × (Nat → Int32) × (Nat → Int32))) (fun _ _ => default) (fun _ (G_L189a : Int32 → (Nat → Int32) → (Int32 × Int32 × Int32 × Int32 × Int32 × Int32 × Int32 × Int32 × Int32 × Int32 × Int32 × Int64 × Int32 × Int32 × Int32 × Int32 × Int32 × Int32 × (Nat → Int32) × (Nat → Int64) × (Nat → Int32) × (Nat → Int32))) => fun (v_3154 : Int32) (g_3155 : Nat → Int32) =>
    if 180 ≤ v_3154 then (
      F_r_house_L220a n_2 n_3 g_826 v_827 v_828 v_829 v_830 v_831 v_832 v_833 v_834 v_835 v_836 v_837 g_839 n_2918 n_2919 n_2920 g_3155 ((2147483647 - (0 : Int32).toInt).toNat + 1) (0 : Int32) g_825) else (
      let x_3560 : Int32 := ((1460 : Int32) + v_3154)
      let x_3561 : Int32 := (g_3155 (x_3560 : Int32).toNatClampNeg)
      let g_3562 : Nat → Int32 := (upd g_3155 (v_3154 : Int32).toNatClampNeg x_3561)
      let x_3563 : Int32 := (v_3154 + 1)
      G_L189a x_3563 g_3562)) k9
theorem F_r_house_L189a_s (n_2 : Int32) (n_3 : Int32) (g_825 : Nat → Int64) (g_826 : Nat → Int32) (v_827 : Int32) (v_828 : Int32) (v_829 : Int32) (v_830 : Int32) (v_831 : Int32) (v_832 : Int32) (v_833 : Int32) (v_834 : Int64) (v_835 : Int32) (v_836 : Int32) (v_837 : Int32) (g_839 : Nat → Int32) (n_2918 : Int32) (n_2919 : Int32) (n_2920 : Int32) (n9 : Nat) (v_3154 : Int32) (g_3155 : Nat → Int32) : F_r_house_L189a n_2 n_3 g_825 g_826 v_827 v_828 v_829 v_830 v_831 v_832 v_833 v_834 v_835 v_836 v_837 g_839 n_2918 n_2919 n_2920 (n9 + 1) v_3154 g_3155 = (
    if 180 ≤ v_3154 then (
      F_r_house_L220a n_2 n_3 g_826 v_827 v_828 v_829 v_830 v_831 v_832 v_833 v_834 v_835 v_836 v_837 g_839 n_2918 n_2919 n_2920 g_3155 ((2147483647 - (0 : Int32).toInt).toNat + 1) (0 : Int32) g_825) else (
      let x_3560 : Int32 := ((1460 : Int32) + v_3154)
      let x_3561 : Int32 := (g_3155 (x_3560 : Int32).toNatClampNeg)
      let g_3562 : Nat → Int32 := (upd g_3155 (v_3154 : Int32).toNatClampNeg x_3561)
      let x_3563 : Int32 := (v_3154 + 1)
      (F_r_house_L189a n_2 n_3 g_825 g_826 v_827 v_828 v_829 v_830 v_831 v_832 v_833 v_834 v_835 v_836 v_837 g_839 n_2918 n_2919 n_2920 n9) x_3563 g_3562)) := rfl
noncomputable def F_r_house_L220b (n_2 : Int32) (n_3 : Int32) (g_826 : Nat → Int32) (v_827 : Int32) (v_828 : Int32) (v_829 : Int32) (v_830 : Int32) (v_831 : Int32) (v_832 : Int32) (v_833 : Int32) (v_834 : Int64) (v_835 : Int32) (v_836 : Int32) (v_837 : Int32) (g_839 : Nat → Int32) (n_3569 : Int32) (n_3570 : Int32) (n_3571 : Int32) (g_3806 : Nat → Int32) : Nat → Int32 → (Nat → Int64) → (Int32 × Int32 × Int32 × Int32 × Int32 × Int32 × Int32 × Int32 × Int32 × Int32 × Int32 × Int64 × Int32 × Int32 × Int32 × Int32 × Int32 × Int32 × (Nat → Int32) × (Nat → Int64) × (Nat → Int32) × (Nat → Int32)) := fun k9 => Nat.rec (motive := fun _ => Int32 → (Nat → Int64) → (Int32 × Int32 × Int32 × Int32 × Int32 × Int32 × Int32 × Int32 × Int32 × Int32 × Int32 × Int64 × Int32 × Int32 × Int32 × Int32 × Int32 × Int32 × (Nat → Int32) × (Nat → Int64) × (Nat → Int32) × (Nat → Int32))) (fun _ _ => default) (fun _ (G_L220b : Int32 → (Nat → Int64) → (Int32 × Int32 × Int32 × Int32 × Int32 × Int32 × Int32 × Int32 × Int32 × Int32 × Int32 × Int64 × Int32 × Int32 × Int32 × Int32 × Int32 × Int32 × (Nat → Int32) × (Nat → Int64) × (Nat → Int32) × (Nat → Int32))) => fun (v_4180 : Int32) (g_4181 : Nat → Int64) =>
    if 21 ≤ v_4180 then (
      let x_4201 : Int32 := (g_3806 (1 : Int32).toNatClampNeg)
      (x_4201, n_3569, (0 : Int32), n_2, n_3, v_827, v_829, v_830, v_831, v_832, v_833, v_834, n_3570, n_3571, v_828, v_835, v_836, v_837, g_3806, g_4181, g_826, g_839)) else (
      let x_4204 : Int32 := ((84 : Int32) + v_4180)
      let x_4205 : Int64 := (g_4181 (x_4204 : Int32).toNatClampNeg)
      let g_4206 : Nat → Int64 := (vp_updL g_4181 (v_4180 : Int32).toNatClampNeg x_4205)
      let x_4207 : Int32 := (v_4180 + 1)
      G_L220b x_4207 g_4206)) k9
theorem F_r_house_L220b_s (n_2 : Int32) (n_3 : Int32) (g_826 : Nat → Int32) (v_827 : Int32) (v_828 : Int32) (v_829 : Int32) (v_830 : Int32) (v_831 : Int32) (v_832 : Int32) (v_833 : Int32) (v_834 : Int64) (v_835 : Int32) (v_836 : Int32) (v_837 : Int32) (g_839 : Nat → Int32) (n_3569 : Int32) (n_3570 : Int32) (n_3571 : Int32) (g_3806 : Nat → Int32) (n9 : Nat) (v_4180 : Int32) (g_4181 : Nat → Int64) : F_r_house_L220b n_2 n_3 g_826 v_827 v_828 v_829 v_830 v_831 v_832 v_833 v_834 v_835 v_836 v_837 g_839 n_3569 n_3570 n_3571 g_3806 (n9 + 1) v_4180 g_4181 = (
    if 21 ≤ v_4180 then (
      let x_4201 : Int32 := (g_3806 (1 : Int32).toNatClampNeg)
      (x_4201, n_3569, (0 : Int32), n_2, n_3, v_827, v_829, v_830, v_831, v_832, v_833, v_834, n_3570, n_3571, v_828, v_835, v_836, v_837, g_3806, g_4181, g_826, g_839)) else (
      let x_4204 : Int32 := ((84 : Int32) + v_4180)
      let x_4205 : Int64 := (g_4181 (x_4204 : Int32).toNatClampNeg)
      let g_4206 : Nat → Int64 := (vp_updL g_4181 (v_4180 : Int32).toNatClampNeg x_4205)
      let x_4207 : Int32 := (v_4180 + 1)
      (F_r_house_L220b n_2 n_3 g_826 v_827 v_828 v_829 v_830 v_831 v_832 v_833 v_834 v_835 v_836 v_837 g_839 n_3569 n_3570 n_3571 g_3806 n9) x_4207 g_4206)) := rfl
noncomputable def F_r_house_L189b (n_2 : Int32) (n_3 : Int32) (g_825 : Nat → Int64) (g_826 : Nat → Int32) (v_827 : Int32) (v_828 : Int32) (v_829 : Int32) (v_830 : Int32) (v_831 : Int32) (v_832 : Int32) (v_833 : Int32) (v_834 : Int64) (v_835 : Int32) (v_836 : Int32) (v_837 : Int32) (g_839 : Nat → Int32) (n_3569 : Int32) (n_3570 : Int32) (n_3571 : Int32) : Nat → Int32 → (Nat → Int32) → (Int32 × Int32 × Int32 × Int32 × Int32 × Int32 × Int32 × Int32 × Int32 × Int32 × Int32 × Int64 × Int32 × Int32 × Int32 × Int32 × Int32 × Int32 × (Nat → Int32) × (Nat → Int64) × (Nat → Int32) × (Nat → Int32)) := fun k9 => Nat.rec (motive := fun _ => Int32 → (Nat → Int32) → (Int32 × Int32 × Int32 × Int32 × Int32 × Int32 × Int32 × Int32 × Int32 × Int32 × Int32 × Int64 × Int32 × Int32 × Int32 × Int32 × Int32 × Int32 × (Nat → Int32) × (Nat → Int64) × (Nat → Int32) × (Nat → Int32))) (fun _ _ => default) (fun _ (G_L189b : Int32 → (Nat → Int32) → (Int32 × Int32 × Int32 × Int32 × Int32 × Int32 × Int32 × Int32 × Int32 × Int32 × Int32 × Int64 × Int32 × Int32 × Int32 × Int32 × Int32 × Int32 × (Nat → Int32) × (Nat → Int64) × (Nat → Int32) × (Nat → Int32))) => fun (v_3805 : Int32) (g_3806 : Nat → Int32) =>
    if 180 ≤ v_3805 then (
      F_r_house_L220b n_2 n_3 g_826 v_827 v_828 v_829 v_830 v_831 v_832 v_833 v_834 v_835 v_836 v_837 g_839 n_3569 n_3570 n_3571 g_3806 ((2147483647 - (0 : Int32).toInt).toNat + 1) (0 : Int32) g_825) else (
      let x_4211 : Int32 := ((1460 : Int32) + v_3805)
      let x_4212 : Int32 := (g_3806 (x_4211 : Int32).toNatClampNeg)
      let g_4213 : Nat → Int32 := (upd g_3806 (v_3805 : Int32).toNatClampNeg x_4212)
      let x_4214 : Int32 := (v_3805 + 1)
      G_L189b x_4214 g_4213)) k9
theorem F_r_house_L189b_s (n_2 : Int32) (n_3 : Int32) (g_825 : Nat → Int64) (g_826 : Nat → Int32) (v_827 : Int32) (v_828 : Int32) (v_829 : Int32) (v_830 : Int32) (v_831 : Int32) (v_832 : Int32) (v_833 : Int32) (v_834 : Int64) (v_835 : Int32) (v_836 : Int32) (v_837 : Int32) (g_839 : Nat → Int32) (n_3569 : Int32) (n_3570 : Int32) (n_3571 : Int32) (n9 : Nat) (v_3805 : Int32) (g_3806 : Nat → Int32) : F_r_house_L189b n_2 n_3 g_825 g_826 v_827 v_828 v_829 v_830 v_831 v_832 v_833 v_834 v_835 v_836 v_837 g_839 n_3569 n_3570 n_3571 (n9 + 1) v_3805 g_3806 = (
    if 180 ≤ v_3805 then (
      F_r_house_L220b n_2 n_3 g_826 v_827 v_828 v_829 v_830 v_831 v_832 v_833 v_834 v_835 v_836 v_837 g_839 n_3569 n_3570 n_3571 g_3806 ((2147483647 - (0 : Int32).toInt).toNat + 1) (0 : Int32) g_825) else (
      let x_4211 : Int32 := ((1460 : Int32) + v_3805)
      let x_4212 : Int32 := (g_3806 (x_4211 : Int32).toNatClampNeg)
      let g_4213 : Nat → Int32 := (upd g_3806 (v_3805 : Int32).toNatClampNeg x_4212)
      let x_4214 : Int32 := (v_3805 + 1)
      (F_r_house_L189b n_2 n_3 g_825 g_826 v_827 v_828 v_829 v_830 v_831 v_832 v_833 v_834 v_835 v_836 v_837 g_839 n_3569 n_3570 n_3571 n9) x_4214 g_4213)) := rfl
noncomputable def F_r_house_L45a (g_tape : Nat → Int32) (n_1 : Int32) (n_2 : Int32) (n_3 : Int32) : Nat → (Nat → Int64) → (Nat → Int32) → Int32 → Int32 → Int32 → Int32 → Int32 → Int32 → Int32 → Int64 → Int32 → Int32 → Int32 → (Nat → Int32) → (Nat → Int32) → (Int32 × Int32 × Int32 × Int32 × Int32 × Int32 × Int32 × Int32 × Int32 × Int32 × Int32 × Int64 × Int32 × Int32 × Int32 × Int32 × Int32 × Int32 × (Nat → Int32) × (Nat → Int64) × (Nat → Int32) × (Nat → Int32)) := fun k9 => Nat.rec (motive := fun _ => (Nat → Int64) → (Nat → Int32) → Int32 → Int32 → Int32 → Int32 → Int32 → Int32 → Int32 → Int64 → Int32 → Int32 → Int32 → (Nat → Int32) → (Nat → Int32) → (Int32 × Int32 × Int32 × Int32 × Int32 × Int32 × Int32 × Int32 × Int32 × Int32 × Int32 × Int64 × Int32 × Int32 × Int32 × Int32 × Int32 × Int32 × (Nat → Int32) × (Nat → Int64) × (Nat → Int32) × (Nat → Int32))) (fun _ _ _ _ _ _ _ _ _ _ _ _ _ _ _ => default) (fun _ (G_L45a : (Nat → Int64) → (Nat → Int32) → Int32 → Int32 → Int32 → Int32 → Int32 → Int32 → Int32 → Int64 → Int32 → Int32 → Int32 → (Nat → Int32) → (Nat → Int32) → (Int32 × Int32 × Int32 × Int32 × Int32 × Int32 × Int32 × Int32 × Int32 × Int32 × Int32 × Int64 × Int32 × Int32 × Int32 × Int32 × Int32 × Int32 × (Nat → Int32) × (Nat → Int64) × (Nat → Int32) × (Nat → Int32))) => fun (g_825 : Nat → Int64) (g_826 : Nat → Int32) (v_827 : Int32) (v_828 : Int32) (v_829 : Int32) (v_830 : Int32) (v_831 : Int32) (v_832 : Int32) (v_833 : Int32) (v_834 : Int64) (v_835 : Int32) (v_836 : Int32) (v_837 : Int32) (g_838 : Nat → Int32) (g_839 : Nat → Int32) =>
    if v_827 = 0 then (
      if v_829 = 0 then (
        let w_3574 := F_r_isWell n_1 v_827 v_828
        let r_3572 : Int32 := w_3574.1
        let n_3569 : Int32 := w_3574.2.1
        let n_3570 : Int32 := w_3574.2.2.1
        let n_3571 : Int32 := w_3574.2.2.2
        if r_3572 = 0 then (
          ((-1 : Int32), n_3569, (0 : Int32), n_2, n_3, v_827, v_829, v_830, v_831, v_832, v_833, v_834, n_3570, n_3571, v_828, v_835, v_836, v_837, g_838, g_825, g_826, g_839)) else
        (
          F_r_house_L189b n_2 n_3 g_825 g_826 v_827 v_828 v_829 v_830 v_831 v_832 v_833 v_834 v_835 v_836 v_837 g_839 n_3569 n_3570 n_3571 ((2147483647 - (0 : Int32).toInt).toNat + 1) (0 : Int32) g_838)) else (
        let w_4220 := F_r_houseWord v_829 v_834
        let r_4218 : Int32 := w_4220
        if r_4218 = 0 then (
          let w_4591 := F_r_readFeature n_3 v_827 v_828 v_829 v_830 v_831 v_832 v_833 v_834 g_tape g_838 g_825 g_826
          let n_4578 : Int32 := w_4591.1
          let n_4579 : Int32 := w_4591.2.1
          let n_4580 : Int32 := w_4591.2.2.1
          let n_4581 : Int32 := w_4591.2.2.2.1
          let n_4582 : Int32 := w_4591.2.2.2.2.1
          let n_4583 : Int32 := w_4591.2.2.2.2.2.1
          let n_4584 : Int32 := w_4591.2.2.2.2.2.2.1
          let n_4585 : Int64 := w_4591.2.2.2.2.2.2.2.1
          let n_4586 : Nat → Int32 := w_4591.2.2.2.2.2.2.2.2.1
          let n_4587 : Nat → Int64 := w_4591.2.2.2.2.2.2.2.2.2.1
          let n_4588 : Nat → Int32 := w_4591.2.2.2.2.2.2.2.2.2.2
          let w_4600 := F_r_isSign n_4580 n_4583 59
          let r_4598 : Int32 := w_4600
          if r_4598 = 0 then (
            let w_4607 := F_r_must_0 n_4578 n_4579 n_4580 n_4581
            let n_4603 : Int32 := w_4607.1
            let n_4604 : Int32 := w_4607.2
            G_L45a n_4587 n_4588 n_4603 n_4604 n_4580 n_4581 n_4582 n_4583 n_4584 n_4585 v_835 v_836 v_837 n_4586 g_839) else
          (
            let w_4617 := F_r_must_1 n_3 n_4578 n_4580 n_4581 n_4582 n_4583 n_4584 n_4585 g_tape
            let n_4609 : Int32 := w_4617.1
            let n_4610 : Int32 := w_4617.2.1
            let n_4611 : Int32 := w_4617.2.2.1
            let n_4612 : Int32 := w_4617.2.2.2.1
            let n_4613 : Int32 := w_4617.2.2.2.2.1
            let n_4614 : Int64 := w_4617.2.2.2.2.2
            G_L45a n_4587 n_4588 n_4578 n_4579 n_4609 n_4610 n_4611 n_4612 n_4613 n_4614 v_835 v_836 v_837 n_4586 g_839)) else (
          if r_4218 = 1 then (
            let w_4546 := F_r_readFeels n_3 v_827 v_828 v_831 v_832 v_833 v_834 g_tape g_838 g_825 g_826
            let n_4534 : Int32 := w_4546.1
            let n_4535 : Int32 := w_4546.2.1
            let n_4536 : Int32 := w_4546.2.2.1
            let n_4537 : Int32 := w_4546.2.2.2.1
            let n_4538 : Int32 := w_4546.2.2.2.2.1
            let n_4539 : Int32 := w_4546.2.2.2.2.2.1
            let n_4540 : Int32 := w_4546.2.2.2.2.2.2.1
            let n_4541 : Int64 := w_4546.2.2.2.2.2.2.2.1
            let n_4542 : Nat → Int32 := w_4546.2.2.2.2.2.2.2.2.1
            let n_4543 : Nat → Int32 := w_4546.2.2.2.2.2.2.2.2.2
            let w_4555 := F_r_isSign n_4536 n_4539 59
            let r_4553 : Int32 := w_4555
            if r_4553 = 0 then (
              let w_4562 := F_r_must_0 n_4534 n_4535 n_4536 n_4537
              let n_4558 : Int32 := w_4562.1
              let n_4559 : Int32 := w_4562.2
              G_L45a g_825 n_4542 n_4558 n_4559 n_4536 n_4537 n_4538 n_4539 n_4540 n_4541 v_835 v_836 v_837 n_4543 g_839) else
            (
              let w_4572 := F_r_must_1 n_3 n_4534 n_4536 n_4537 n_4538 n_4539 n_4540 n_4541 g_tape
              let n_4564 : Int32 := w_4572.1
              let n_4565 : Int32 := w_4572.2.1
              let n_4566 : Int32 := w_4572.2.2.1
              let n_4567 : Int32 := w_4572.2.2.2.1
              let n_4568 : Int32 := w_4572.2.2.2.2.1
              let n_4569 : Int64 := w_4572.2.2.2.2.2
              G_L45a g_825 n_4542 n_4534 n_4535 n_4564 n_4565 n_4566 n_4567 n_4568 n_4569 v_835 v_836 v_837 n_4543 g_839)) else (
            if r_4218 = 2 then (
              let w_4502 := F_r_readKey n_3 v_827 v_828 v_829 v_830 v_831 v_832 v_833 v_834 g_tape g_838 g_825 g_839
              let n_4489 : Int32 := w_4502.1
              let n_4490 : Int32 := w_4502.2.1
              let n_4491 : Int32 := w_4502.2.2.1
              let n_4492 : Int32 := w_4502.2.2.2.1
              let n_4493 : Int32 := w_4502.2.2.2.2.1
              let n_4494 : Int32 := w_4502.2.2.2.2.2.1
              let n_4495 : Int32 := w_4502.2.2.2.2.2.2.1
              let n_4496 : Int64 := w_4502.2.2.2.2.2.2.2.1
              let n_4497 : Nat → Int64 := w_4502.2.2.2.2.2.2.2.2.1
              let n_4498 : Nat → Int32 := w_4502.2.2.2.2.2.2.2.2.2.1
              let n_4499 : Nat → Int32 := w_4502.2.2.2.2.2.2.2.2.2.2
              let w_4511 := F_r_isSign n_4491 n_4494 59
              let r_4509 : Int32 := w_4511
              if r_4509 = 0 then (
                let w_4518 := F_r_must_0 n_4489 n_4490 n_4491 n_4492
                let n_4514 : Int32 := w_4518.1
                let n_4515 : Int32 := w_4518.2
                G_L45a n_4497 g_826 n_4514 n_4515 n_4491 n_4492 n_4493 n_4494 n_4495 n_4496 v_835 v_836 v_837 n_4498 n_4499) else
              (
                let w_4528 := F_r_must_1 n_3 n_4489 n_4491 n_4492 n_4493 n_4494 n_4495 n_4496 g_tape
                let n_4520 : Int32 := w_4528.1
                let n_4521 : Int32 := w_4528.2.1
                let n_4522 : Int32 := w_4528.2.2.1
                let n_4523 : Int32 := w_4528.2.2.2.1
                let n_4524 : Int32 := w_4528.2.2.2.2.1
                let n_4525 : Int64 := w_4528.2.2.2.2.2
                G_L45a n_4497 g_826 n_4489 n_4490 n_4520 n_4521 n_4522 n_4523 n_4524 n_4525 v_835 v_836 v_837 n_4498 n_4499)) else (
              if r_4218 = 3 then (
                let w_4457 := F_r_readRing n_3 v_827 v_828 v_829 v_830 v_831 v_832 v_833 v_834 g_tape g_838 g_825 g_839
                let n_4444 : Int32 := w_4457.1
                let n_4445 : Int32 := w_4457.2.1
                let n_4446 : Int32 := w_4457.2.2.1
                let n_4447 : Int32 := w_4457.2.2.2.1
                let n_4448 : Int32 := w_4457.2.2.2.2.1
                let n_4449 : Int32 := w_4457.2.2.2.2.2.1
                let n_4450 : Int32 := w_4457.2.2.2.2.2.2.1
                let n_4451 : Int64 := w_4457.2.2.2.2.2.2.2.1
                let n_4452 : Nat → Int64 := w_4457.2.2.2.2.2.2.2.2.1
                let n_4453 : Nat → Int32 := w_4457.2.2.2.2.2.2.2.2.2.1
                let n_4454 : Nat → Int32 := w_4457.2.2.2.2.2.2.2.2.2.2
                let w_4466 := F_r_isSign n_4446 n_4449 59
                let r_4464 : Int32 := w_4466
                if r_4464 = 0 then (
                  let w_4473 := F_r_must_0 n_4444 n_4445 n_4446 n_4447
                  let n_4469 : Int32 := w_4473.1
                  let n_4470 : Int32 := w_4473.2
                  G_L45a n_4452 g_826 n_4469 n_4470 n_4446 n_4447 n_4448 n_4449 n_4450 n_4451 v_835 v_836 v_837 n_4453 n_4454) else
                (
                  let w_4483 := F_r_must_1 n_3 n_4444 n_4446 n_4447 n_4448 n_4449 n_4450 n_4451 g_tape
                  let n_4475 : Int32 := w_4483.1
                  let n_4476 : Int32 := w_4483.2.1
                  let n_4477 : Int32 := w_4483.2.2.1
                  let n_4478 : Int32 := w_4483.2.2.2.1
                  let n_4479 : Int32 := w_4483.2.2.2.2.1
                  let n_4480 : Int64 := w_4483.2.2.2.2.2
                  G_L45a n_4452 g_826 n_4444 n_4445 n_4475 n_4476 n_4477 n_4478 n_4479 n_4480 v_835 v_836 v_837 n_4453 n_4454)) else (
                if r_4218 = 4 then (
                  let w_4412 := F_r_readDoor n_3 v_827 v_828 v_829 v_830 v_831 v_832 v_833 v_834 g_tape g_838 g_825
                  let n_4400 : Int32 := w_4412.1
                  let n_4401 : Int32 := w_4412.2.1
                  let n_4402 : Int32 := w_4412.2.2.1
                  let n_4403 : Int32 := w_4412.2.2.2.1
                  let n_4404 : Int32 := w_4412.2.2.2.2.1
                  let n_4405 : Int32 := w_4412.2.2.2.2.2.1
                  let n_4406 : Int32 := w_4412.2.2.2.2.2.2.1
                  let n_4407 : Int64 := w_4412.2.2.2.2.2.2.2.1
                  let n_4408 : Nat → Int64 := w_4412.2.2.2.2.2.2.2.2.1
                  let n_4409 : Nat → Int32 := w_4412.2.2.2.2.2.2.2.2.2
                  let w_4421 := F_r_isSign n_4402 n_4405 59
                  let r_4419 : Int32 := w_4421
                  if r_4419 = 0 then (
                    let w_4428 := F_r_must_0 n_4400 n_4401 n_4402 n_4403
                    let n_4424 : Int32 := w_4428.1
                    let n_4425 : Int32 := w_4428.2
                    G_L45a n_4408 g_826 n_4424 n_4425 n_4402 n_4403 n_4404 n_4405 n_4406 n_4407 v_835 v_836 v_837 n_4409 g_839) else
                  (
                    let w_4438 := F_r_must_1 n_3 n_4400 n_4402 n_4403 n_4404 n_4405 n_4406 n_4407 g_tape
                    let n_4430 : Int32 := w_4438.1
                    let n_4431 : Int32 := w_4438.2.1
                    let n_4432 : Int32 := w_4438.2.2.1
                    let n_4433 : Int32 := w_4438.2.2.2.1
                    let n_4434 : Int32 := w_4438.2.2.2.2.1
                    let n_4435 : Int64 := w_4438.2.2.2.2.2
                    G_L45a n_4408 g_826 n_4400 n_4401 n_4430 n_4431 n_4432 n_4433 n_4434 n_4435 v_835 v_836 v_837 n_4409 g_839)) else (
                  if r_4218 = 5 then (
                    let w_4368 := F_r_readSeconds n_3 v_827 v_828 v_829 v_830 v_831 v_832 v_833 v_834 v_835 g_tape g_838
                    let n_4356 : Int32 := w_4368.1
                    let n_4357 : Int32 := w_4368.2.1
                    let n_4358 : Int32 := w_4368.2.2.1
                    let n_4359 : Int32 := w_4368.2.2.2.1
                    let n_4360 : Int32 := w_4368.2.2.2.2.1
                    let n_4361 : Int32 := w_4368.2.2.2.2.2.1
                    let n_4362 : Int32 := w_4368.2.2.2.2.2.2.1
                    let n_4363 : Int64 := w_4368.2.2.2.2.2.2.2.1
                    let n_4364 : Int32 := w_4368.2.2.2.2.2.2.2.2.1
                    let n_4365 : Nat → Int32 := w_4368.2.2.2.2.2.2.2.2.2
                    let w_4377 := F_r_isSign n_4358 n_4361 59
                    let r_4375 : Int32 := w_4377
                    if r_4375 = 0 then (
                      let w_4384 := F_r_must_0 n_4356 n_4357 n_4358 n_4359
                      let n_4380 : Int32 := w_4384.1
                      let n_4381 : Int32 := w_4384.2
                      G_L45a g_825 g_826 n_4380 n_4381 n_4358 n_4359 n_4360 n_4361 n_4362 n_4363 n_4364 v_836 v_837 n_4365 g_839) else
                    (
                      let w_4394 := F_r_must_1 n_3 n_4356 n_4358 n_4359 n_4360 n_4361 n_4362 n_4363 g_tape
                      let n_4386 : Int32 := w_4394.1
                      let n_4387 : Int32 := w_4394.2.1
                      let n_4388 : Int32 := w_4394.2.2.1
                      let n_4389 : Int32 := w_4394.2.2.2.1
                      let n_4390 : Int32 := w_4394.2.2.2.2.1
                      let n_4391 : Int64 := w_4394.2.2.2.2.2
                      G_L45a g_825 g_826 n_4356 n_4357 n_4386 n_4387 n_4388 n_4389 n_4390 n_4391 n_4364 v_836 v_837 n_4365 g_839)) else (
                    if r_4218 = 6 then (
                      let w_4324 := F_r_readTurned n_3 v_827 v_828 v_829 v_830 v_831 v_832 v_833 v_834 v_836 g_tape g_838
                      let n_4312 : Int32 := w_4324.1
                      let n_4313 : Int32 := w_4324.2.1
                      let n_4314 : Int32 := w_4324.2.2.1
                      let n_4315 : Int32 := w_4324.2.2.2.1
                      let n_4316 : Int32 := w_4324.2.2.2.2.1
                      let n_4317 : Int32 := w_4324.2.2.2.2.2.1
                      let n_4318 : Int32 := w_4324.2.2.2.2.2.2.1
                      let n_4319 : Int64 := w_4324.2.2.2.2.2.2.2.1
                      let n_4320 : Int32 := w_4324.2.2.2.2.2.2.2.2.1
                      let n_4321 : Nat → Int32 := w_4324.2.2.2.2.2.2.2.2.2
                      let w_4333 := F_r_isSign n_4314 n_4317 59
                      let r_4331 : Int32 := w_4333
                      if r_4331 = 0 then (
                        let w_4340 := F_r_must_0 n_4312 n_4313 n_4314 n_4315
                        let n_4336 : Int32 := w_4340.1
                        let n_4337 : Int32 := w_4340.2
                        G_L45a g_825 g_826 n_4336 n_4337 n_4314 n_4315 n_4316 n_4317 n_4318 n_4319 v_835 n_4320 v_837 n_4321 g_839) else
                      (
                        let w_4350 := F_r_must_1 n_3 n_4312 n_4314 n_4315 n_4316 n_4317 n_4318 n_4319 g_tape
                        let n_4342 : Int32 := w_4350.1
                        let n_4343 : Int32 := w_4350.2.1
                        let n_4344 : Int32 := w_4350.2.2.1
                        let n_4345 : Int32 := w_4350.2.2.2.1
                        let n_4346 : Int32 := w_4350.2.2.2.2.1
                        let n_4347 : Int64 := w_4350.2.2.2.2.2
                        G_L45a g_825 g_826 n_4312 n_4313 n_4342 n_4343 n_4344 n_4345 n_4346 n_4347 v_835 n_4320 v_837 n_4321 g_839)) else (
                      if r_4218 = 7 then (
                        let w_4280 := F_r_readRound n_3 v_827 v_828 v_829 v_830 v_831 v_832 v_833 v_834 v_837 g_tape g_838 g_825
                        let n_4268 : Int32 := w_4280.1
                        let n_4269 : Int32 := w_4280.2.1
                        let n_4270 : Int32 := w_4280.2.2.1
                        let n_4271 : Int32 := w_4280.2.2.2.1
                        let n_4272 : Int32 := w_4280.2.2.2.2.1
                        let n_4273 : Int32 := w_4280.2.2.2.2.2.1
                        let n_4274 : Int32 := w_4280.2.2.2.2.2.2.1
                        let n_4275 : Int64 := w_4280.2.2.2.2.2.2.2.1
                        let n_4276 : Int32 := w_4280.2.2.2.2.2.2.2.2.1
                        let n_4277 : Nat → Int32 := w_4280.2.2.2.2.2.2.2.2.2
                        let w_4289 := F_r_isSign n_4270 n_4273 59
                        let r_4287 : Int32 := w_4289
                        if r_4287 = 0 then (
                          let w_4296 := F_r_must_0 n_4268 n_4269 n_4270 n_4271
                          let n_4292 : Int32 := w_4296.1
                          let n_4293 : Int32 := w_4296.2
                          G_L45a g_825 g_826 n_4292 n_4293 n_4270 n_4271 n_4272 n_4273 n_4274 n_4275 v_835 v_836 n_4276 n_4277 g_839) else
                        (
                          let w_4306 := F_r_must_1 n_3 n_4268 n_4270 n_4271 n_4272 n_4273 n_4274 n_4275 g_tape
                          let n_4298 : Int32 := w_4306.1
                          let n_4299 : Int32 := w_4306.2.1
                          let n_4300 : Int32 := w_4306.2.2.1
                          let n_4301 : Int32 := w_4306.2.2.2.1
                          let n_4302 : Int32 := w_4306.2.2.2.2.1
                          let n_4303 : Int64 := w_4306.2.2.2.2.2
                          G_L45a g_825 g_826 n_4268 n_4269 n_4298 n_4299 n_4300 n_4301 n_4302 n_4303 v_835 v_836 n_4276 n_4277 g_839)) else (
                        let w_4242 := F_r_wrong v_827 v_828 v_829 v_830
                        let n_4238 : Int32 := w_4242.1
                        let n_4239 : Int32 := w_4242.2
                        let w_4245 := F_r_isSign v_829 v_832 59
                        let r_4243 : Int32 := w_4245
                        if r_4243 = 0 then (
                          let w_4252 := F_r_must_0 n_4238 n_4239 v_829 v_830
                          let n_4248 : Int32 := w_4252.1
                          let n_4249 : Int32 := w_4252.2
                          G_L45a g_825 g_826 n_4248 n_4249 v_829 v_830 v_831 v_832 v_833 v_834 v_835 v_836 v_837 g_838 g_839) else
                        (
                          let w_4262 := F_r_must_1 n_3 n_4238 v_829 v_830 v_831 v_832 v_833 v_834 g_tape
                          let n_4254 : Int32 := w_4262.1
                          let n_4255 : Int32 := w_4262.2.1
                          let n_4256 : Int32 := w_4262.2.2.1
                          let n_4257 : Int32 := w_4262.2.2.2.1
                          let n_4258 : Int32 := w_4262.2.2.2.2.1
                          let n_4259 : Int64 := w_4262.2.2.2.2.2
                          G_L45a g_825 g_826 n_4238 n_4239 n_4254 n_4255 n_4256 n_4257 n_4258 n_4259 v_835 v_836 v_837 g_838 g_839))))))))))) else (
      let w_2923 := F_r_isWell n_1 v_827 v_828
      let r_2921 : Int32 := w_2923.1
      let n_2918 : Int32 := w_2923.2.1
      let n_2919 : Int32 := w_2923.2.2.1
      let n_2920 : Int32 := w_2923.2.2.2
      if r_2921 = 0 then (
        ((-1 : Int32), n_2918, (0 : Int32), n_2, n_3, v_827, v_829, v_830, v_831, v_832, v_833, v_834, n_2919, n_2920, v_828, v_835, v_836, v_837, g_838, g_825, g_826, g_839)) else
      (
        F_r_house_L189a n_2 n_3 g_825 g_826 v_827 v_828 v_829 v_830 v_831 v_832 v_833 v_834 v_835 v_836 v_837 g_839 n_2918 n_2919 n_2920 ((2147483647 - (0 : Int32).toInt).toNat + 1) (0 : Int32) g_838))) k9
theorem F_r_house_L45a_s (g_tape : Nat → Int32) (n_1 : Int32) (n_2 : Int32) (n_3 : Int32) (n9 : Nat) (g_825 : Nat → Int64) (g_826 : Nat → Int32) (v_827 : Int32) (v_828 : Int32) (v_829 : Int32) (v_830 : Int32) (v_831 : Int32) (v_832 : Int32) (v_833 : Int32) (v_834 : Int64) (v_835 : Int32) (v_836 : Int32) (v_837 : Int32) (g_838 : Nat → Int32) (g_839 : Nat → Int32) : F_r_house_L45a g_tape n_1 n_2 n_3 (n9 + 1) g_825 g_826 v_827 v_828 v_829 v_830 v_831 v_832 v_833 v_834 v_835 v_836 v_837 g_838 g_839 = (
    if v_827 = 0 then (
      if v_829 = 0 then (
        let w_3574 := F_r_isWell n_1 v_827 v_828
        let r_3572 : Int32 := w_3574.1
        let n_3569 : Int32 := w_3574.2.1
        let n_3570 : Int32 := w_3574.2.2.1
        let n_3571 : Int32 := w_3574.2.2.2
        if r_3572 = 0 then (
          ((-1 : Int32), n_3569, (0 : Int32), n_2, n_3, v_827, v_829, v_830, v_831, v_832, v_833, v_834, n_3570, n_3571, v_828, v_835, v_836, v_837, g_838, g_825, g_826, g_839)) else
        (
          F_r_house_L189b n_2 n_3 g_825 g_826 v_827 v_828 v_829 v_830 v_831 v_832 v_833 v_834 v_835 v_836 v_837 g_839 n_3569 n_3570 n_3571 ((2147483647 - (0 : Int32).toInt).toNat + 1) (0 : Int32) g_838)) else (
        let w_4220 := F_r_houseWord v_829 v_834
        let r_4218 : Int32 := w_4220
        if r_4218 = 0 then (
          let w_4591 := F_r_readFeature n_3 v_827 v_828 v_829 v_830 v_831 v_832 v_833 v_834 g_tape g_838 g_825 g_826
          let n_4578 : Int32 := w_4591.1
          let n_4579 : Int32 := w_4591.2.1
          let n_4580 : Int32 := w_4591.2.2.1
          let n_4581 : Int32 := w_4591.2.2.2.1
          let n_4582 : Int32 := w_4591.2.2.2.2.1
          let n_4583 : Int32 := w_4591.2.2.2.2.2.1
          let n_4584 : Int32 := w_4591.2.2.2.2.2.2.1
          let n_4585 : Int64 := w_4591.2.2.2.2.2.2.2.1
          let n_4586 : Nat → Int32 := w_4591.2.2.2.2.2.2.2.2.1
          let n_4587 : Nat → Int64 := w_4591.2.2.2.2.2.2.2.2.2.1
          let n_4588 : Nat → Int32 := w_4591.2.2.2.2.2.2.2.2.2.2
          let w_4600 := F_r_isSign n_4580 n_4583 59
          let r_4598 : Int32 := w_4600
          if r_4598 = 0 then (
            let w_4607 := F_r_must_0 n_4578 n_4579 n_4580 n_4581
            let n_4603 : Int32 := w_4607.1
            let n_4604 : Int32 := w_4607.2
            (F_r_house_L45a g_tape n_1 n_2 n_3 n9) n_4587 n_4588 n_4603 n_4604 n_4580 n_4581 n_4582 n_4583 n_4584 n_4585 v_835 v_836 v_837 n_4586 g_839) else
          (
            let w_4617 := F_r_must_1 n_3 n_4578 n_4580 n_4581 n_4582 n_4583 n_4584 n_4585 g_tape
            let n_4609 : Int32 := w_4617.1
            let n_4610 : Int32 := w_4617.2.1
            let n_4611 : Int32 := w_4617.2.2.1
            let n_4612 : Int32 := w_4617.2.2.2.1
            let n_4613 : Int32 := w_4617.2.2.2.2.1
            let n_4614 : Int64 := w_4617.2.2.2.2.2
            (F_r_house_L45a g_tape n_1 n_2 n_3 n9) n_4587 n_4588 n_4578 n_4579 n_4609 n_4610 n_4611 n_4612 n_4613 n_4614 v_835 v_836 v_837 n_4586 g_839)) else (
          if r_4218 = 1 then (
            let w_4546 := F_r_readFeels n_3 v_827 v_828 v_831 v_832 v_833 v_834 g_tape g_838 g_825 g_826
            let n_4534 : Int32 := w_4546.1
            let n_4535 : Int32 := w_4546.2.1
            let n_4536 : Int32 := w_4546.2.2.1
            let n_4537 : Int32 := w_4546.2.2.2.1
            let n_4538 : Int32 := w_4546.2.2.2.2.1
            let n_4539 : Int32 := w_4546.2.2.2.2.2.1
            let n_4540 : Int32 := w_4546.2.2.2.2.2.2.1
            let n_4541 : Int64 := w_4546.2.2.2.2.2.2.2.1
            let n_4542 : Nat → Int32 := w_4546.2.2.2.2.2.2.2.2.1
            let n_4543 : Nat → Int32 := w_4546.2.2.2.2.2.2.2.2.2
            let w_4555 := F_r_isSign n_4536 n_4539 59
            let r_4553 : Int32 := w_4555
            if r_4553 = 0 then (
              let w_4562 := F_r_must_0 n_4534 n_4535 n_4536 n_4537
              let n_4558 : Int32 := w_4562.1
              let n_4559 : Int32 := w_4562.2
              (F_r_house_L45a g_tape n_1 n_2 n_3 n9) g_825 n_4542 n_4558 n_4559 n_4536 n_4537 n_4538 n_4539 n_4540 n_4541 v_835 v_836 v_837 n_4543 g_839) else
            (
              let w_4572 := F_r_must_1 n_3 n_4534 n_4536 n_4537 n_4538 n_4539 n_4540 n_4541 g_tape
              let n_4564 : Int32 := w_4572.1
              let n_4565 : Int32 := w_4572.2.1
              let n_4566 : Int32 := w_4572.2.2.1
              let n_4567 : Int32 := w_4572.2.2.2.1
              let n_4568 : Int32 := w_4572.2.2.2.2.1
              let n_4569 : Int64 := w_4572.2.2.2.2.2
              (F_r_house_L45a g_tape n_1 n_2 n_3 n9) g_825 n_4542 n_4534 n_4535 n_4564 n_4565 n_4566 n_4567 n_4568 n_4569 v_835 v_836 v_837 n_4543 g_839)) else (
            if r_4218 = 2 then (
              let w_4502 := F_r_readKey n_3 v_827 v_828 v_829 v_830 v_831 v_832 v_833 v_834 g_tape g_838 g_825 g_839
              let n_4489 : Int32 := w_4502.1
              let n_4490 : Int32 := w_4502.2.1
              let n_4491 : Int32 := w_4502.2.2.1
              let n_4492 : Int32 := w_4502.2.2.2.1
              let n_4493 : Int32 := w_4502.2.2.2.2.1
              let n_4494 : Int32 := w_4502.2.2.2.2.2.1
              let n_4495 : Int32 := w_4502.2.2.2.2.2.2.1
              let n_4496 : Int64 := w_4502.2.2.2.2.2.2.2.1
              let n_4497 : Nat → Int64 := w_4502.2.2.2.2.2.2.2.2.1
              let n_4498 : Nat → Int32 := w_4502.2.2.2.2.2.2.2.2.2.1
              let n_4499 : Nat → Int32 := w_4502.2.2.2.2.2.2.2.2.2.2
              let w_4511 := F_r_isSign n_4491 n_4494 59
              let r_4509 : Int32 := w_4511
              if r_4509 = 0 then (
                let w_4518 := F_r_must_0 n_4489 n_4490 n_4491 n_4492
                let n_4514 : Int32 := w_4518.1
                let n_4515 : Int32 := w_4518.2
                (F_r_house_L45a g_tape n_1 n_2 n_3 n9) n_4497 g_826 n_4514 n_4515 n_4491 n_4492 n_4493 n_4494 n_4495 n_4496 v_835 v_836 v_837 n_4498 n_4499) else
              (
                let w_4528 := F_r_must_1 n_3 n_4489 n_4491 n_4492 n_4493 n_4494 n_4495 n_4496 g_tape
                let n_4520 : Int32 := w_4528.1
                let n_4521 : Int32 := w_4528.2.1
                let n_4522 : Int32 := w_4528.2.2.1
                let n_4523 : Int32 := w_4528.2.2.2.1
                let n_4524 : Int32 := w_4528.2.2.2.2.1
                let n_4525 : Int64 := w_4528.2.2.2.2.2
                (F_r_house_L45a g_tape n_1 n_2 n_3 n9) n_4497 g_826 n_4489 n_4490 n_4520 n_4521 n_4522 n_4523 n_4524 n_4525 v_835 v_836 v_837 n_4498 n_4499)) else (
              if r_4218 = 3 then (
                let w_4457 := F_r_readRing n_3 v_827 v_828 v_829 v_830 v_831 v_832 v_833 v_834 g_tape g_838 g_825 g_839
                let n_4444 : Int32 := w_4457.1
                let n_4445 : Int32 := w_4457.2.1
                let n_4446 : Int32 := w_4457.2.2.1
                let n_4447 : Int32 := w_4457.2.2.2.1
                let n_4448 : Int32 := w_4457.2.2.2.2.1
                let n_4449 : Int32 := w_4457.2.2.2.2.2.1
                let n_4450 : Int32 := w_4457.2.2.2.2.2.2.1
                let n_4451 : Int64 := w_4457.2.2.2.2.2.2.2.1
                let n_4452 : Nat → Int64 := w_4457.2.2.2.2.2.2.2.2.1
                let n_4453 : Nat → Int32 := w_4457.2.2.2.2.2.2.2.2.2.1
                let n_4454 : Nat → Int32 := w_4457.2.2.2.2.2.2.2.2.2.2
                let w_4466 := F_r_isSign n_4446 n_4449 59
                let r_4464 : Int32 := w_4466
                if r_4464 = 0 then (
                  let w_4473 := F_r_must_0 n_4444 n_4445 n_4446 n_4447
                  let n_4469 : Int32 := w_4473.1
                  let n_4470 : Int32 := w_4473.2
                  (F_r_house_L45a g_tape n_1 n_2 n_3 n9) n_4452 g_826 n_4469 n_4470 n_4446 n_4447 n_4448 n_4449 n_4450 n_4451 v_835 v_836 v_837 n_4453 n_4454) else
                (
                  let w_4483 := F_r_must_1 n_3 n_4444 n_4446 n_4447 n_4448 n_4449 n_4450 n_4451 g_tape
                  let n_4475 : Int32 := w_4483.1
                  let n_4476 : Int32 := w_4483.2.1
                  let n_4477 : Int32 := w_4483.2.2.1
                  let n_4478 : Int32 := w_4483.2.2.2.1
                  let n_4479 : Int32 := w_4483.2.2.2.2.1
                  let n_4480 : Int64 := w_4483.2.2.2.2.2
                  (F_r_house_L45a g_tape n_1 n_2 n_3 n9) n_4452 g_826 n_4444 n_4445 n_4475 n_4476 n_4477 n_4478 n_4479 n_4480 v_835 v_836 v_837 n_4453 n_4454)) else (
                if r_4218 = 4 then (
                  let w_4412 := F_r_readDoor n_3 v_827 v_828 v_829 v_830 v_831 v_832 v_833 v_834 g_tape g_838 g_825
                  let n_4400 : Int32 := w_4412.1
                  let n_4401 : Int32 := w_4412.2.1
                  let n_4402 : Int32 := w_4412.2.2.1
                  let n_4403 : Int32 := w_4412.2.2.2.1
                  let n_4404 : Int32 := w_4412.2.2.2.2.1
                  let n_4405 : Int32 := w_4412.2.2.2.2.2.1
                  let n_4406 : Int32 := w_4412.2.2.2.2.2.2.1
                  let n_4407 : Int64 := w_4412.2.2.2.2.2.2.2.1
                  let n_4408 : Nat → Int64 := w_4412.2.2.2.2.2.2.2.2.1
                  let n_4409 : Nat → Int32 := w_4412.2.2.2.2.2.2.2.2.2
                  let w_4421 := F_r_isSign n_4402 n_4405 59
                  let r_4419 : Int32 := w_4421
                  if r_4419 = 0 then (
                    let w_4428 := F_r_must_0 n_4400 n_4401 n_4402 n_4403
                    let n_4424 : Int32 := w_4428.1
                    let n_4425 : Int32 := w_4428.2
                    (F_r_house_L45a g_tape n_1 n_2 n_3 n9) n_4408 g_826 n_4424 n_4425 n_4402 n_4403 n_4404 n_4405 n_4406 n_4407 v_835 v_836 v_837 n_4409 g_839) else
                  (
                    let w_4438 := F_r_must_1 n_3 n_4400 n_4402 n_4403 n_4404 n_4405 n_4406 n_4407 g_tape
                    let n_4430 : Int32 := w_4438.1
                    let n_4431 : Int32 := w_4438.2.1
                    let n_4432 : Int32 := w_4438.2.2.1
                    let n_4433 : Int32 := w_4438.2.2.2.1
                    let n_4434 : Int32 := w_4438.2.2.2.2.1
                    let n_4435 : Int64 := w_4438.2.2.2.2.2
                    (F_r_house_L45a g_tape n_1 n_2 n_3 n9) n_4408 g_826 n_4400 n_4401 n_4430 n_4431 n_4432 n_4433 n_4434 n_4435 v_835 v_836 v_837 n_4409 g_839)) else (
                  if r_4218 = 5 then (
                    let w_4368 := F_r_readSeconds n_3 v_827 v_828 v_829 v_830 v_831 v_832 v_833 v_834 v_835 g_tape g_838
                    let n_4356 : Int32 := w_4368.1
                    let n_4357 : Int32 := w_4368.2.1
                    let n_4358 : Int32 := w_4368.2.2.1
                    let n_4359 : Int32 := w_4368.2.2.2.1
                    let n_4360 : Int32 := w_4368.2.2.2.2.1
                    let n_4361 : Int32 := w_4368.2.2.2.2.2.1
                    let n_4362 : Int32 := w_4368.2.2.2.2.2.2.1
                    let n_4363 : Int64 := w_4368.2.2.2.2.2.2.2.1
                    let n_4364 : Int32 := w_4368.2.2.2.2.2.2.2.2.1
                    let n_4365 : Nat → Int32 := w_4368.2.2.2.2.2.2.2.2.2
                    let w_4377 := F_r_isSign n_4358 n_4361 59
                    let r_4375 : Int32 := w_4377
                    if r_4375 = 0 then (
                      let w_4384 := F_r_must_0 n_4356 n_4357 n_4358 n_4359
                      let n_4380 : Int32 := w_4384.1
                      let n_4381 : Int32 := w_4384.2
                      (F_r_house_L45a g_tape n_1 n_2 n_3 n9) g_825 g_826 n_4380 n_4381 n_4358 n_4359 n_4360 n_4361 n_4362 n_4363 n_4364 v_836 v_837 n_4365 g_839) else
                    (
                      let w_4394 := F_r_must_1 n_3 n_4356 n_4358 n_4359 n_4360 n_4361 n_4362 n_4363 g_tape
                      let n_4386 : Int32 := w_4394.1
                      let n_4387 : Int32 := w_4394.2.1
                      let n_4388 : Int32 := w_4394.2.2.1
                      let n_4389 : Int32 := w_4394.2.2.2.1
                      let n_4390 : Int32 := w_4394.2.2.2.2.1
                      let n_4391 : Int64 := w_4394.2.2.2.2.2
                      (F_r_house_L45a g_tape n_1 n_2 n_3 n9) g_825 g_826 n_4356 n_4357 n_4386 n_4387 n_4388 n_4389 n_4390 n_4391 n_4364 v_836 v_837 n_4365 g_839)) else (
                    if r_4218 = 6 then (
                      let w_4324 := F_r_readTurned n_3 v_827 v_828 v_829 v_830 v_831 v_832 v_833 v_834 v_836 g_tape g_838
                      let n_4312 : Int32 := w_4324.1
                      let n_4313 : Int32 := w_4324.2.1
                      let n_4314 : Int32 := w_4324.2.2.1
                      let n_4315 : Int32 := w_4324.2.2.2.1
                      let n_4316 : Int32 := w_4324.2.2.2.2.1
                      let n_4317 : Int32 := w_4324.2.2.2.2.2.1
                      let n_4318 : Int32 := w_4324.2.2.2.2.2.2.1
                      let n_4319 : Int64 := w_4324.2.2.2.2.2.2.2.1
                      let n_4320 : Int32 := w_4324.2.2.2.2.2.2.2.2.1
                      let n_4321 : Nat → Int32 := w_4324.2.2.2.2.2.2.2.2.2
                      let w_4333 := F_r_isSign n_4314 n_4317 59
                      let r_4331 : Int32 := w_4333
                      if r_4331 = 0 then (
                        let w_4340 := F_r_must_0 n_4312 n_4313 n_4314 n_4315
                        let n_4336 : Int32 := w_4340.1
                        let n_4337 : Int32 := w_4340.2
                        (F_r_house_L45a g_tape n_1 n_2 n_3 n9) g_825 g_826 n_4336 n_4337 n_4314 n_4315 n_4316 n_4317 n_4318 n_4319 v_835 n_4320 v_837 n_4321 g_839) else
                      (
                        let w_4350 := F_r_must_1 n_3 n_4312 n_4314 n_4315 n_4316 n_4317 n_4318 n_4319 g_tape
                        let n_4342 : Int32 := w_4350.1
                        let n_4343 : Int32 := w_4350.2.1
                        let n_4344 : Int32 := w_4350.2.2.1
                        let n_4345 : Int32 := w_4350.2.2.2.1
                        let n_4346 : Int32 := w_4350.2.2.2.2.1
                        let n_4347 : Int64 := w_4350.2.2.2.2.2
                        (F_r_house_L45a g_tape n_1 n_2 n_3 n9) g_825 g_826 n_4312 n_4313 n_4342 n_4343 n_4344 n_4345 n_4346 n_4347 v_835 n_4320 v_837 n_4321 g_839)) else (
                      if r_4218 = 7 then (
                        let w_4280 := F_r_readRound n_3 v_827 v_828 v_829 v_830 v_831 v_832 v_833 v_834 v_837 g_tape g_838 g_825
                        let n_4268 : Int32 := w_4280.1
                        let n_4269 : Int32 := w_4280.2.1
                        let n_4270 : Int32 := w_4280.2.2.1
                        let n_4271 : Int32 := w_4280.2.2.2.1
                        let n_4272 : Int32 := w_4280.2.2.2.2.1
                        let n_4273 : Int32 := w_4280.2.2.2.2.2.1
                        let n_4274 : Int32 := w_4280.2.2.2.2.2.2.1
                        let n_4275 : Int64 := w_4280.2.2.2.2.2.2.2.1
                        let n_4276 : Int32 := w_4280.2.2.2.2.2.2.2.2.1
                        let n_4277 : Nat → Int32 := w_4280.2.2.2.2.2.2.2.2.2
                        let w_4289 := F_r_isSign n_4270 n_4273 59
                        let r_4287 : Int32 := w_4289
                        if r_4287 = 0 then (
                          let w_4296 := F_r_must_0 n_4268 n_4269 n_4270 n_4271
                          let n_4292 : Int32 := w_4296.1
                          let n_4293 : Int32 := w_4296.2
                          (F_r_house_L45a g_tape n_1 n_2 n_3 n9) g_825 g_826 n_4292 n_4293 n_4270 n_4271 n_4272 n_4273 n_4274 n_4275 v_835 v_836 n_4276 n_4277 g_839) else
                        (
                          let w_4306 := F_r_must_1 n_3 n_4268 n_4270 n_4271 n_4272 n_4273 n_4274 n_4275 g_tape
                          let n_4298 : Int32 := w_4306.1
                          let n_4299 : Int32 := w_4306.2.1
                          let n_4300 : Int32 := w_4306.2.2.1
                          let n_4301 : Int32 := w_4306.2.2.2.1
                          let n_4302 : Int32 := w_4306.2.2.2.2.1
                          let n_4303 : Int64 := w_4306.2.2.2.2.2
                          (F_r_house_L45a g_tape n_1 n_2 n_3 n9) g_825 g_826 n_4268 n_4269 n_4298 n_4299 n_4300 n_4301 n_4302 n_4303 v_835 v_836 n_4276 n_4277 g_839)) else (
                        let w_4242 := F_r_wrong v_827 v_828 v_829 v_830
                        let n_4238 : Int32 := w_4242.1
                        let n_4239 : Int32 := w_4242.2
                        let w_4245 := F_r_isSign v_829 v_832 59
                        let r_4243 : Int32 := w_4245
                        if r_4243 = 0 then (
                          let w_4252 := F_r_must_0 n_4238 n_4239 v_829 v_830
                          let n_4248 : Int32 := w_4252.1
                          let n_4249 : Int32 := w_4252.2
                          (F_r_house_L45a g_tape n_1 n_2 n_3 n9) g_825 g_826 n_4248 n_4249 v_829 v_830 v_831 v_832 v_833 v_834 v_835 v_836 v_837 g_838 g_839) else
                        (
                          let w_4262 := F_r_must_1 n_3 n_4238 v_829 v_830 v_831 v_832 v_833 v_834 g_tape
                          let n_4254 : Int32 := w_4262.1
                          let n_4255 : Int32 := w_4262.2.1
                          let n_4256 : Int32 := w_4262.2.2.1
                          let n_4257 : Int32 := w_4262.2.2.2.1
                          let n_4258 : Int32 := w_4262.2.2.2.2.1
                          let n_4259 : Int64 := w_4262.2.2.2.2.2
                          (F_r_house_L45a g_tape n_1 n_2 n_3 n9) g_825 g_826 n_4238 n_4239 n_4254 n_4255 n_4256 n_4257 n_4258 n_4259 v_835 v_836 v_837 g_838 g_839))))))))))) else (
      let w_2923 := F_r_isWell n_1 v_827 v_828
      let r_2921 : Int32 := w_2923.1
      let n_2918 : Int32 := w_2923.2.1
      let n_2919 : Int32 := w_2923.2.2.1
      let n_2920 : Int32 := w_2923.2.2.2
      if r_2921 = 0 then (
        ((-1 : Int32), n_2918, (0 : Int32), n_2, n_3, v_827, v_829, v_830, v_831, v_832, v_833, v_834, n_2919, n_2920, v_828, v_835, v_836, v_837, g_838, g_825, g_826, g_839)) else
      (
        F_r_house_L189a n_2 n_3 g_825 g_826 v_827 v_828 v_829 v_830 v_831 v_832 v_833 v_834 v_835 v_836 v_837 g_839 n_2918 n_2919 n_2920 ((2147483647 - (0 : Int32).toInt).toNat + 1) (0 : Int32) g_838))) := rfl
noncomputable def F_r_house (m_taped : Int32) (m_textEnd : Int32) (m_faultKind : Int32) (m_faultAt : Int32) (m_bad : Int32) (m_badAt : Int32) (m_token : Int32) (m_at : Int32) (m_behind : Int32) (m_number : Int32) (m_letters : Int32) (m_word : Int64) (m_hasSeconds : Int32) (m_hasTurned : Int32) (m_hasRound : Int32) (g_tape : Nat → Int32) (g_c : Nat → Int32) (g_words : Nat → Int64) (g_hasFeels : Nat → Int32) (g_isOn : Nat → Int32) (nn : Int32) : Int32 × Int32 × Int32 × Int32 × Int32 × Int32 × Int32 × Int32 × Int32 × Int32 × Int32 × Int64 × Int32 × Int32 × Int32 × Int32 × Int32 × Int32 × (Nat → Int32) × (Nat → Int64) × (Nat → Int32) × (Nat → Int32) :=
  let w_13 := F_r_begins_900 0 m_taped m_textEnd m_bad m_token m_at m_behind m_number m_letters m_word g_tape nn
  let r_11 : Int32 := w_13.1
  let n_1 : Int32 := w_13.2.1
  let n_2 : Int32 := w_13.2.2.1
  let n_3 : Int32 := w_13.2.2.2.1
  let n_4 : Int32 := w_13.2.2.2.2.1
  let n_5 : Int32 := w_13.2.2.2.2.2.1
  let n_6 : Int32 := w_13.2.2.2.2.2.2.1
  let n_7 : Int32 := w_13.2.2.2.2.2.2.2.1
  let n_8 : Int32 := w_13.2.2.2.2.2.2.2.2.1
  let n_9 : Int32 := w_13.2.2.2.2.2.2.2.2.2.1
  let n_10 : Int64 := w_13.2.2.2.2.2.2.2.2.2.2
  if r_11 = 0 then (
    ((-1 : Int32), n_1, (0 : Int32), n_2, n_3, n_4, n_5, n_6, n_7, n_8, n_9, n_10, m_faultKind, m_faultAt, m_badAt, m_hasSeconds, m_hasTurned, m_hasRound, g_c, g_words, g_hasFeels, g_isOn)) else
  (
    let w_22 := F_r_empty_1460 g_c
    let n_19 : Nat → Int32 := w_22
    F_r_house_L45a g_tape n_1 n_2 n_3 ((4600 - 5 * n_7.toInt + n_5.toInt - 5 * n_4.toInt).toNat + 1) g_words g_hasFeels n_4 m_badAt n_5 n_6 n_7 n_8 n_9 n_10 (0 : Int32) (0 : Int32) (0 : Int32) n_19 g_isOn)
theorem F_r_house_s (m_taped : Int32) (m_textEnd : Int32) (m_faultKind : Int32) (m_faultAt : Int32) (m_bad : Int32) (m_badAt : Int32) (m_token : Int32) (m_at : Int32) (m_behind : Int32) (m_number : Int32) (m_letters : Int32) (m_word : Int64) (m_hasSeconds : Int32) (m_hasTurned : Int32) (m_hasRound : Int32) (g_tape : Nat → Int32) (g_c : Nat → Int32) (g_words : Nat → Int64) (g_hasFeels : Nat → Int32) (g_isOn : Nat → Int32) (nn : Int32) : F_r_house m_taped m_textEnd m_faultKind m_faultAt m_bad m_badAt m_token m_at m_behind m_number m_letters m_word m_hasSeconds m_hasTurned m_hasRound g_tape g_c g_words g_hasFeels g_isOn nn = (
  let w_13 := F_r_begins_900 0 m_taped m_textEnd m_bad m_token m_at m_behind m_number m_letters m_word g_tape nn
  let r_11 : Int32 := w_13.1
  let n_1 : Int32 := w_13.2.1
  let n_2 : Int32 := w_13.2.2.1
  let n_3 : Int32 := w_13.2.2.2.1
  let n_4 : Int32 := w_13.2.2.2.2.1
  let n_5 : Int32 := w_13.2.2.2.2.2.1
  let n_6 : Int32 := w_13.2.2.2.2.2.2.1
  let n_7 : Int32 := w_13.2.2.2.2.2.2.2.1
  let n_8 : Int32 := w_13.2.2.2.2.2.2.2.2.1
  let n_9 : Int32 := w_13.2.2.2.2.2.2.2.2.2.1
  let n_10 : Int64 := w_13.2.2.2.2.2.2.2.2.2.2
  if r_11 = 0 then (
    ((-1 : Int32), n_1, (0 : Int32), n_2, n_3, n_4, n_5, n_6, n_7, n_8, n_9, n_10, m_faultKind, m_faultAt, m_badAt, m_hasSeconds, m_hasTurned, m_hasRound, g_c, g_words, g_hasFeels, g_isOn)) else
  (
    let w_22 := F_r_empty_1460 g_c
    let n_19 : Nat → Int32 := w_22
    F_r_house_L45a g_tape n_1 n_2 n_3 ((4600 - 5 * n_7.toInt + n_5.toInt - 5 * n_4.toInt).toNat + 1) g_words g_hasFeels n_4 m_badAt n_5 n_6 n_7 n_8 n_9 n_10 (0 : Int32) (0 : Int32) (0 : Int32) n_19 g_isOn)) := rfl
noncomputable def F_r_empty_0_L2a : Nat → Int32 → (Nat → Int32) → (Nat → Int32) := fun k9 => Nat.rec (motive := fun _ => Int32 → (Nat → Int32) → (Nat → Int32)) (fun _ _ => default) (fun _ (G_L2a : Int32 → (Nat → Int32) → (Nat → Int32)) => fun (v_199 : Int32) (g_200 : Nat → Int32) =>
    if 180 ≤ v_199 then (
      let g_231 : Nat → Int32 := (upd g_200 (5 : Int32).toNatClampNeg 1)
      let g_233 : Nat → Int32 := (upd g_231 (6 : Int32).toNatClampNeg 4)
      let g_235 : Nat → Int32 := (upd g_233 (7 : Int32).toNatClampNeg 1)
      let g_237 : Nat → Int32 := (upd g_235 (8 : Int32).toNatClampNeg 9)
      let g_239 : Nat → Int32 := (upd g_237 (9 : Int32).toNatClampNeg 8)
      let g_241 : Nat → Int32 := (upd g_239 (10 : Int32).toNatClampNeg (-1))
      g_241) else (
      let x_245 : Int32 := ((0 : Int32) + v_199)
      let g_246 : Nat → Int32 := (upd g_200 (x_245 : Int32).toNatClampNeg 0)
      let x_247 : Int32 := (v_199 + 1)
      G_L2a x_247 g_246)) k9
theorem F_r_empty_0_L2a_s (n9 : Nat) (v_199 : Int32) (g_200 : Nat → Int32) : F_r_empty_0_L2a (n9 + 1) v_199 g_200 = (
    if 180 ≤ v_199 then (
      let g_231 : Nat → Int32 := (upd g_200 (5 : Int32).toNatClampNeg 1)
      let g_233 : Nat → Int32 := (upd g_231 (6 : Int32).toNatClampNeg 4)
      let g_235 : Nat → Int32 := (upd g_233 (7 : Int32).toNatClampNeg 1)
      let g_237 : Nat → Int32 := (upd g_235 (8 : Int32).toNatClampNeg 9)
      let g_239 : Nat → Int32 := (upd g_237 (9 : Int32).toNatClampNeg 8)
      let g_241 : Nat → Int32 := (upd g_239 (10 : Int32).toNatClampNeg (-1))
      g_241) else (
      let x_245 : Int32 := ((0 : Int32) + v_199)
      let g_246 : Nat → Int32 := (upd g_200 (x_245 : Int32).toNatClampNeg 0)
      let x_247 : Int32 := (v_199 + 1)
      (F_r_empty_0_L2a n9) x_247 g_246)) := rfl
noncomputable def F_r_empty_0 (g_c : Nat → Int32) : (Nat → Int32) :=
  F_r_empty_0_L2a ((2147483647 - (0 : Int32).toInt).toNat + 1) (0 : Int32) g_c
theorem F_r_empty_0_s (g_c : Nat → Int32) : F_r_empty_0 g_c = (
  F_r_empty_0_L2a ((2147483647 - (0 : Int32).toInt).toNat + 1) (0 : Int32) g_c) := rfl
