noncomputable def F_Ho_readSeconds_L30a (t_length : Int32) (c_tape : Nat → Int32) : Nat → Int32 → (Nat → Int32) → Int32 → Int32 → Int32 → Int32 → Int32 → Int64 → Int32 → Int32 → (Int32 × Int32 × Int32 × Int32 × Int32 × Int32 × Int32 × Int64 × Int32 × Int32 × (Nat → Int32)) := fun k9 => Nat.rec (motive := fun _ => Int32 → (Nat → Int32) → Int32 → Int32 → Int32 → Int32 → Int32 → Int64 → Int32 → Int32 → (Int32 × Int32 × Int32 × Int32 × Int32 × Int32 × Int32 × Int64 × Int32 × Int32 × (Nat → Int32))) (fun _ _ _ _ _ _ _ _ _ _ => default) (fun _ (G_L30a : Int32 → (Nat → Int32) → Int32 → Int32 → Int32 → Int32 → Int32 → Int64 → Int32 → Int32 → (Int32 × Int32 × Int32 × Int32 × Int32 × Int32 × Int32 × Int64 × Int32 × Int32 × (Nat → Int32))) => fun (v_285 : Int32) (g_286 : Nat → Int32) (v_287 : Int32) (v_288 : Int32) (v_289 : Int32) (v_290 : Int32) (v_291 : Int32) (v_292 : Int64) (v_293 : Int32) (v_294 : Int32) =>
    if 3 < v_285 then (
      let w_454 := F_Te_takeSign t_length v_287 v_288 v_289 v_290 v_291 v_292 v_293 v_294 c_tape 59
      let r_452 : Int32 := w_454.1
      let nw0_444 : Int32 := w_454.2.1
      let nw1_445 : Int32 := w_454.2.2.1
      let nw2_446 : Int32 := w_454.2.2.2.1
      let nw3_447 : Int32 := w_454.2.2.2.2.1
      let nw4_448 : Int32 := w_454.2.2.2.2.2.1
      let nw5_449 : Int64 := w_454.2.2.2.2.2.2.1
      let nw6_450 : Int32 := w_454.2.2.2.2.2.2.2.1
      let nw7_451 : Int32 := w_454.2.2.2.2.2.2.2.2
      (r_452, (1 : Int32), nw0_444, nw1_445, nw2_446, nw3_447, nw4_448, nw5_449, nw6_450, nw7_451, g_286)) else (
      if v_285.toInt = 0 then (
        let w_469 := F_Te_takeWord t_length v_287 v_288 v_289 v_290 v_291 v_292 v_293 v_294 c_tape 25
        let r_467 : Int32 := w_469.1
        let nw0_459 : Int32 := w_469.2.1
        let nw1_460 : Int32 := w_469.2.2.1
        let nw2_461 : Int32 := w_469.2.2.2.1
        let nw3_462 : Int32 := w_469.2.2.2.2.1
        let nw4_463 : Int32 := w_469.2.2.2.2.2.1
        let nw5_464 : Int64 := w_469.2.2.2.2.2.2.1
        let nw6_465 : Int32 := w_469.2.2.2.2.2.2.2.1
        let nw7_466 : Int32 := w_469.2.2.2.2.2.2.2.2
        if r_467 = 0 then (
          ((0 : Int32), (1 : Int32), nw0_459, nw1_460, nw2_461, nw3_462, nw4_463, nw5_464, nw6_465, nw7_466, g_286)) else (
          let w_482 := F_Te_takeNumber t_length nw0_459 nw1_460 nw2_461 nw3_462 nw4_463 nw5_464 nw6_465 nw7_466 c_tape 1 99
          let r_480 : Int32 := w_482.1
          let nw0_472 : Int32 := w_482.2.1
          let nw1_473 : Int32 := w_482.2.2.1
          let nw2_474 : Int32 := w_482.2.2.2.1
          let nw3_475 : Int32 := w_482.2.2.2.2.1
          let nw4_476 : Int32 := w_482.2.2.2.2.2.1
          let nw5_477 : Int32 := w_482.2.2.2.2.2.2.1
          let nw6_478 : Int32 := w_482.2.2.2.2.2.2.2.1
          let nw7_479 : Int64 := w_482.2.2.2.2.2.2.2.2
          if r_480 = (-1) then (
            ((0 : Int32), (1 : Int32), nw2_474, nw3_475, nw4_476, nw5_477, nw6_478, nw7_479, nw0_472, nw1_473, g_286)) else (
            let w_488 := F_H_setSeconds g_286 v_285 r_480
            let nw0_485 : Nat → Int32 := w_488
            G_L30a (v_285 + 1) nw0_485 nw2_474 nw3_475 nw4_476 nw5_477 nw6_478 nw7_479 nw0_472 nw1_473))) else
      if v_285.toInt = 1 then (
        let w_504 := F_Te_takeWord t_length v_287 v_288 v_289 v_290 v_291 v_292 v_293 v_294 c_tape 26
        let r_502 : Int32 := w_504.1
        let nw0_494 : Int32 := w_504.2.1
        let nw1_495 : Int32 := w_504.2.2.1
        let nw2_496 : Int32 := w_504.2.2.2.1
        let nw3_497 : Int32 := w_504.2.2.2.2.1
        let nw4_498 : Int32 := w_504.2.2.2.2.2.1
        let nw5_499 : Int64 := w_504.2.2.2.2.2.2.1
        let nw6_500 : Int32 := w_504.2.2.2.2.2.2.2.1
        let nw7_501 : Int32 := w_504.2.2.2.2.2.2.2.2
        if r_502 = 0 then (
          ((0 : Int32), (1 : Int32), nw0_494, nw1_495, nw2_496, nw3_497, nw4_498, nw5_499, nw6_500, nw7_501, g_286)) else (
          let w_517 := F_Te_takeNumber t_length nw0_494 nw1_495 nw2_496 nw3_497 nw4_498 nw5_499 nw6_500 nw7_501 c_tape 1 99
          let r_515 : Int32 := w_517.1
          let nw0_507 : Int32 := w_517.2.1
          let nw1_508 : Int32 := w_517.2.2.1
          let nw2_509 : Int32 := w_517.2.2.2.1
          let nw3_510 : Int32 := w_517.2.2.2.2.1
          let nw4_511 : Int32 := w_517.2.2.2.2.2.1
          let nw5_512 : Int32 := w_517.2.2.2.2.2.2.1
          let nw6_513 : Int32 := w_517.2.2.2.2.2.2.2.1
          let nw7_514 : Int64 := w_517.2.2.2.2.2.2.2.2
          if r_515 = (-1) then (
            ((0 : Int32), (1 : Int32), nw2_509, nw3_510, nw4_511, nw5_512, nw6_513, nw7_514, nw0_507, nw1_508, g_286)) else (
            let w_523 := F_H_setSeconds g_286 v_285 r_515
            let nw0_520 : Nat → Int32 := w_523
            G_L30a (v_285 + 1) nw0_520 nw2_509 nw3_510 nw4_511 nw5_512 nw6_513 nw7_514 nw0_507 nw1_508))) else
      if v_285.toInt = 2 then (
        let w_539 := F_Te_takeWord t_length v_287 v_288 v_289 v_290 v_291 v_292 v_293 v_294 c_tape 27
        let r_537 : Int32 := w_539.1
        let nw0_529 : Int32 := w_539.2.1
        let nw1_530 : Int32 := w_539.2.2.1
        let nw2_531 : Int32 := w_539.2.2.2.1
        let nw3_532 : Int32 := w_539.2.2.2.2.1
        let nw4_533 : Int32 := w_539.2.2.2.2.2.1
        let nw5_534 : Int64 := w_539.2.2.2.2.2.2.1
        let nw6_535 : Int32 := w_539.2.2.2.2.2.2.2.1
        let nw7_536 : Int32 := w_539.2.2.2.2.2.2.2.2
        if r_537 = 0 then (
          ((0 : Int32), (1 : Int32), nw0_529, nw1_530, nw2_531, nw3_532, nw4_533, nw5_534, nw6_535, nw7_536, g_286)) else (
          let w_552 := F_Te_takeNumber t_length nw0_529 nw1_530 nw2_531 nw3_532 nw4_533 nw5_534 nw6_535 nw7_536 c_tape 1 99
          let r_550 : Int32 := w_552.1
          let nw0_542 : Int32 := w_552.2.1
          let nw1_543 : Int32 := w_552.2.2.1
          let nw2_544 : Int32 := w_552.2.2.2.1
          let nw3_545 : Int32 := w_552.2.2.2.2.1
          let nw4_546 : Int32 := w_552.2.2.2.2.2.1
          let nw5_547 : Int32 := w_552.2.2.2.2.2.2.1
          let nw6_548 : Int32 := w_552.2.2.2.2.2.2.2.1
          let nw7_549 : Int64 := w_552.2.2.2.2.2.2.2.2
          if r_550 = (-1) then (
            ((0 : Int32), (1 : Int32), nw2_544, nw3_545, nw4_546, nw5_547, nw6_548, nw7_549, nw0_542, nw1_543, g_286)) else (
            let w_558 := F_H_setSeconds g_286 v_285 r_550
            let nw0_555 : Nat → Int32 := w_558
            G_L30a (v_285 + 1) nw0_555 nw2_544 nw3_545 nw4_546 nw5_547 nw6_548 nw7_549 nw0_542 nw1_543))) else
      (
        let w_574 := F_Te_takeWord t_length v_287 v_288 v_289 v_290 v_291 v_292 v_293 v_294 c_tape 28
        let r_572 : Int32 := w_574.1
        let nw0_564 : Int32 := w_574.2.1
        let nw1_565 : Int32 := w_574.2.2.1
        let nw2_566 : Int32 := w_574.2.2.2.1
        let nw3_567 : Int32 := w_574.2.2.2.2.1
        let nw4_568 : Int32 := w_574.2.2.2.2.2.1
        let nw5_569 : Int64 := w_574.2.2.2.2.2.2.1
        let nw6_570 : Int32 := w_574.2.2.2.2.2.2.2.1
        let nw7_571 : Int32 := w_574.2.2.2.2.2.2.2.2
        if r_572 = 0 then (
          ((0 : Int32), (1 : Int32), nw0_564, nw1_565, nw2_566, nw3_567, nw4_568, nw5_569, nw6_570, nw7_571, g_286)) else (
          let w_587 := F_Te_takeNumber t_length nw0_564 nw1_565 nw2_566 nw3_567 nw4_568 nw5_569 nw6_570 nw7_571 c_tape 1 99
          let r_585 : Int32 := w_587.1
          let nw0_577 : Int32 := w_587.2.1
          let nw1_578 : Int32 := w_587.2.2.1
          let nw2_579 : Int32 := w_587.2.2.2.1
          let nw3_580 : Int32 := w_587.2.2.2.2.1
          let nw4_581 : Int32 := w_587.2.2.2.2.2.1
          let nw5_582 : Int32 := w_587.2.2.2.2.2.2.1
          let nw6_583 : Int32 := w_587.2.2.2.2.2.2.2.1
          let nw7_584 : Int64 := w_587.2.2.2.2.2.2.2.2
          if r_585 = (-1) then (
            ((0 : Int32), (1 : Int32), nw2_579, nw3_580, nw4_581, nw5_582, nw6_583, nw7_584, nw0_577, nw1_578, g_286)) else (
            let w_593 := F_H_setSeconds g_286 v_285 r_585
            let nw0_590 : Nat → Int32 := w_593
            G_L30a (v_285 + 1) nw0_590 nw2_579 nw3_580 nw4_581 nw5_582 nw6_583 nw7_584 nw0_577 nw1_578))))) k9
theorem F_Ho_readSeconds_L30a_s (t_length : Int32) (c_tape : Nat → Int32) (n9 : Nat) (v_285 : Int32) (g_286 : Nat → Int32) (v_287 : Int32) (v_288 : Int32) (v_289 : Int32) (v_290 : Int32) (v_291 : Int32) (v_292 : Int64) (v_293 : Int32) (v_294 : Int32) : F_Ho_readSeconds_L30a t_length c_tape (n9 + 1) v_285 g_286 v_287 v_288 v_289 v_290 v_291 v_292 v_293 v_294 = (
    if 3 < v_285 then (
      let w_454 := F_Te_takeSign t_length v_287 v_288 v_289 v_290 v_291 v_292 v_293 v_294 c_tape 59
      let r_452 : Int32 := w_454.1
      let nw0_444 : Int32 := w_454.2.1
      let nw1_445 : Int32 := w_454.2.2.1
      let nw2_446 : Int32 := w_454.2.2.2.1
      let nw3_447 : Int32 := w_454.2.2.2.2.1
      let nw4_448 : Int32 := w_454.2.2.2.2.2.1
      let nw5_449 : Int64 := w_454.2.2.2.2.2.2.1
      let nw6_450 : Int32 := w_454.2.2.2.2.2.2.2.1
      let nw7_451 : Int32 := w_454.2.2.2.2.2.2.2.2
      (r_452, (1 : Int32), nw0_444, nw1_445, nw2_446, nw3_447, nw4_448, nw5_449, nw6_450, nw7_451, g_286)) else (
      if v_285.toInt = 0 then (
        let w_469 := F_Te_takeWord t_length v_287 v_288 v_289 v_290 v_291 v_292 v_293 v_294 c_tape 25
        let r_467 : Int32 := w_469.1
        let nw0_459 : Int32 := w_469.2.1
        let nw1_460 : Int32 := w_469.2.2.1
        let nw2_461 : Int32 := w_469.2.2.2.1
        let nw3_462 : Int32 := w_469.2.2.2.2.1
        let nw4_463 : Int32 := w_469.2.2.2.2.2.1
        let nw5_464 : Int64 := w_469.2.2.2.2.2.2.1
        let nw6_465 : Int32 := w_469.2.2.2.2.2.2.2.1
        let nw7_466 : Int32 := w_469.2.2.2.2.2.2.2.2
        if r_467 = 0 then (
          ((0 : Int32), (1 : Int32), nw0_459, nw1_460, nw2_461, nw3_462, nw4_463, nw5_464, nw6_465, nw7_466, g_286)) else (
          let w_482 := F_Te_takeNumber t_length nw0_459 nw1_460 nw2_461 nw3_462 nw4_463 nw5_464 nw6_465 nw7_466 c_tape 1 99
          let r_480 : Int32 := w_482.1
          let nw0_472 : Int32 := w_482.2.1
          let nw1_473 : Int32 := w_482.2.2.1
          let nw2_474 : Int32 := w_482.2.2.2.1
          let nw3_475 : Int32 := w_482.2.2.2.2.1
          let nw4_476 : Int32 := w_482.2.2.2.2.2.1
          let nw5_477 : Int32 := w_482.2.2.2.2.2.2.1
          let nw6_478 : Int32 := w_482.2.2.2.2.2.2.2.1
          let nw7_479 : Int64 := w_482.2.2.2.2.2.2.2.2
          if r_480 = (-1) then (
            ((0 : Int32), (1 : Int32), nw2_474, nw3_475, nw4_476, nw5_477, nw6_478, nw7_479, nw0_472, nw1_473, g_286)) else (
            let w_488 := F_H_setSeconds g_286 v_285 r_480
            let nw0_485 : Nat → Int32 := w_488
            (F_Ho_readSeconds_L30a t_length c_tape n9) (v_285 + 1) nw0_485 nw2_474 nw3_475 nw4_476 nw5_477 nw6_478 nw7_479 nw0_472 nw1_473))) else
      if v_285.toInt = 1 then (
        let w_504 := F_Te_takeWord t_length v_287 v_288 v_289 v_290 v_291 v_292 v_293 v_294 c_tape 26
        let r_502 : Int32 := w_504.1
        let nw0_494 : Int32 := w_504.2.1
        let nw1_495 : Int32 := w_504.2.2.1
        let nw2_496 : Int32 := w_504.2.2.2.1
        let nw3_497 : Int32 := w_504.2.2.2.2.1
        let nw4_498 : Int32 := w_504.2.2.2.2.2.1
        let nw5_499 : Int64 := w_504.2.2.2.2.2.2.1
        let nw6_500 : Int32 := w_504.2.2.2.2.2.2.2.1
        let nw7_501 : Int32 := w_504.2.2.2.2.2.2.2.2
        if r_502 = 0 then (
          ((0 : Int32), (1 : Int32), nw0_494, nw1_495, nw2_496, nw3_497, nw4_498, nw5_499, nw6_500, nw7_501, g_286)) else (
          let w_517 := F_Te_takeNumber t_length nw0_494 nw1_495 nw2_496 nw3_497 nw4_498 nw5_499 nw6_500 nw7_501 c_tape 1 99
          let r_515 : Int32 := w_517.1
          let nw0_507 : Int32 := w_517.2.1
          let nw1_508 : Int32 := w_517.2.2.1
          let nw2_509 : Int32 := w_517.2.2.2.1
          let nw3_510 : Int32 := w_517.2.2.2.2.1
          let nw4_511 : Int32 := w_517.2.2.2.2.2.1
          let nw5_512 : Int32 := w_517.2.2.2.2.2.2.1
          let nw6_513 : Int32 := w_517.2.2.2.2.2.2.2.1
          let nw7_514 : Int64 := w_517.2.2.2.2.2.2.2.2
          if r_515 = (-1) then (
            ((0 : Int32), (1 : Int32), nw2_509, nw3_510, nw4_511, nw5_512, nw6_513, nw7_514, nw0_507, nw1_508, g_286)) else (
            let w_523 := F_H_setSeconds g_286 v_285 r_515
            let nw0_520 : Nat → Int32 := w_523
            (F_Ho_readSeconds_L30a t_length c_tape n9) (v_285 + 1) nw0_520 nw2_509 nw3_510 nw4_511 nw5_512 nw6_513 nw7_514 nw0_507 nw1_508))) else
      if v_285.toInt = 2 then (
        let w_539 := F_Te_takeWord t_length v_287 v_288 v_289 v_290 v_291 v_292 v_293 v_294 c_tape 27
        let r_537 : Int32 := w_539.1
        let nw0_529 : Int32 := w_539.2.1
        let nw1_530 : Int32 := w_539.2.2.1
        let nw2_531 : Int32 := w_539.2.2.2.1
        let nw3_532 : Int32 := w_539.2.2.2.2.1
        let nw4_533 : Int32 := w_539.2.2.2.2.2.1
        let nw5_534 : Int64 := w_539.2.2.2.2.2.2.1
        let nw6_535 : Int32 := w_539.2.2.2.2.2.2.2.1
        let nw7_536 : Int32 := w_539.2.2.2.2.2.2.2.2
        if r_537 = 0 then (
          ((0 : Int32), (1 : Int32), nw0_529, nw1_530, nw2_531, nw3_532, nw4_533, nw5_534, nw6_535, nw7_536, g_286)) else (
          let w_552 := F_Te_takeNumber t_length nw0_529 nw1_530 nw2_531 nw3_532 nw4_533 nw5_534 nw6_535 nw7_536 c_tape 1 99
          let r_550 : Int32 := w_552.1
          let nw0_542 : Int32 := w_552.2.1
          let nw1_543 : Int32 := w_552.2.2.1
          let nw2_544 : Int32 := w_552.2.2.2.1
          let nw3_545 : Int32 := w_552.2.2.2.2.1
          let nw4_546 : Int32 := w_552.2.2.2.2.2.1
          let nw5_547 : Int32 := w_552.2.2.2.2.2.2.1
          let nw6_548 : Int32 := w_552.2.2.2.2.2.2.2.1
          let nw7_549 : Int64 := w_552.2.2.2.2.2.2.2.2
          if r_550 = (-1) then (
            ((0 : Int32), (1 : Int32), nw2_544, nw3_545, nw4_546, nw5_547, nw6_548, nw7_549, nw0_542, nw1_543, g_286)) else (
            let w_558 := F_H_setSeconds g_286 v_285 r_550
            let nw0_555 : Nat → Int32 := w_558
            (F_Ho_readSeconds_L30a t_length c_tape n9) (v_285 + 1) nw0_555 nw2_544 nw3_545 nw4_546 nw5_547 nw6_548 nw7_549 nw0_542 nw1_543))) else
      (
        let w_574 := F_Te_takeWord t_length v_287 v_288 v_289 v_290 v_291 v_292 v_293 v_294 c_tape 28
        let r_572 : Int32 := w_574.1
        let nw0_564 : Int32 := w_574.2.1
        let nw1_565 : Int32 := w_574.2.2.1
        let nw2_566 : Int32 := w_574.2.2.2.1
        let nw3_567 : Int32 := w_574.2.2.2.2.1
        let nw4_568 : Int32 := w_574.2.2.2.2.2.1
        let nw5_569 : Int64 := w_574.2.2.2.2.2.2.1
        let nw6_570 : Int32 := w_574.2.2.2.2.2.2.2.1
        let nw7_571 : Int32 := w_574.2.2.2.2.2.2.2.2
        if r_572 = 0 then (
          ((0 : Int32), (1 : Int32), nw0_564, nw1_565, nw2_566, nw3_567, nw4_568, nw5_569, nw6_570, nw7_571, g_286)) else (
          let w_587 := F_Te_takeNumber t_length nw0_564 nw1_565 nw2_566 nw3_567 nw4_568 nw5_569 nw6_570 nw7_571 c_tape 1 99
          let r_585 : Int32 := w_587.1
          let nw0_577 : Int32 := w_587.2.1
          let nw1_578 : Int32 := w_587.2.2.1
          let nw2_579 : Int32 := w_587.2.2.2.1
          let nw3_580 : Int32 := w_587.2.2.2.2.1
          let nw4_581 : Int32 := w_587.2.2.2.2.2.1
          let nw5_582 : Int32 := w_587.2.2.2.2.2.2.1
          let nw6_583 : Int32 := w_587.2.2.2.2.2.2.2.1
          let nw7_584 : Int64 := w_587.2.2.2.2.2.2.2.2
          if r_585 = (-1) then (
            ((0 : Int32), (1 : Int32), nw2_579, nw3_580, nw4_581, nw5_582, nw6_583, nw7_584, nw0_577, nw1_578, g_286)) else (
            let w_593 := F_H_setSeconds g_286 v_285 r_585
            let nw0_590 : Nat → Int32 := w_593
            (F_Ho_readSeconds_L30a t_length c_tape n9) (v_285 + 1) nw0_590 nw2_579 nw3_580 nw4_581 nw5_582 nw6_583 nw7_584 nw0_577 nw1_578))))) := rfl
noncomputable def F_Ho_readSeconds (hr_secondsTold : Int32) (t_length : Int32) (t_kind : Int32) (t_start : Int32) (t_end : Int32) (t_number : Int32) (t_sign : Int32) (t_letters : Int64) (t_fault : Int32) (t_faultPlace : Int32) (c_tape : Nat → Int32) (c_hf_seconds : Nat → Int32) : Int32 × Int32 × Int32 × Int32 × Int32 × Int32 × Int32 × Int64 × Int32 × Int32 × (Nat → Int32) :=
  if hr_secondsTold = 0 then (
    let w_11 := F_Te_advance t_length t_end t_number t_sign t_letters c_tape
    let nw0_3 : Int32 := w_11.1
    let nw1_4 : Int32 := w_11.2.1
    let nw2_5 : Int32 := w_11.2.2.1
    let nw3_6 : Int32 := w_11.2.2.2.1
    let nw4_7 : Int32 := w_11.2.2.2.2.1
    let nw5_8 : Int64 := w_11.2.2.2.2.2
    F_Ho_readSeconds_L30a t_length c_tape ((2147483647 - (0 : Int32).toInt).toNat + 1) (0 : Int32) c_hf_seconds nw0_3 nw1_4 nw2_5 nw4_7 nw3_6 nw5_8 t_fault t_faultPlace) else (
    let w_605 := F_Te_refuse t_kind t_start t_fault t_faultPlace 5
    let r_603 : Int32 := w_605.1
    let nw0_601 : Int32 := w_605.2.1
    let nw1_602 : Int32 := w_605.2.2
    (r_603, hr_secondsTold, t_kind, t_start, t_end, t_number, t_sign, t_letters, nw0_601, nw1_602, c_hf_seconds))
theorem F_Ho_readSeconds_s (hr_secondsTold : Int32) (t_length : Int32) (t_kind : Int32) (t_start : Int32) (t_end : Int32) (t_number : Int32) (t_sign : Int32) (t_letters : Int64) (t_fault : Int32) (t_faultPlace : Int32) (c_tape : Nat → Int32) (c_hf_seconds : Nat → Int32) : F_Ho_readSeconds hr_secondsTold t_length t_kind t_start t_end t_number t_sign t_letters t_fault t_faultPlace c_tape c_hf_seconds = (
  if hr_secondsTold = 0 then (
    let w_11 := F_Te_advance t_length t_end t_number t_sign t_letters c_tape
    let nw0_3 : Int32 := w_11.1
    let nw1_4 : Int32 := w_11.2.1
    let nw2_5 : Int32 := w_11.2.2.1
    let nw3_6 : Int32 := w_11.2.2.2.1
    let nw4_7 : Int32 := w_11.2.2.2.2.1
    let nw5_8 : Int64 := w_11.2.2.2.2.2
    F_Ho_readSeconds_L30a t_length c_tape ((2147483647 - (0 : Int32).toInt).toNat + 1) (0 : Int32) c_hf_seconds nw0_3 nw1_4 nw2_5 nw4_7 nw3_6 nw5_8 t_fault t_faultPlace) else (
    let w_605 := F_Te_refuse t_kind t_start t_fault t_faultPlace 5
    let r_603 : Int32 := w_605.1
    let nw0_601 : Int32 := w_605.2.1
    let nw1_602 : Int32 := w_605.2.2
    (r_603, hr_secondsTold, t_kind, t_start, t_end, t_number, t_sign, t_letters, nw0_601, nw1_602, c_hf_seconds))) := rfl
noncomputable def F_Ho_readPart (hr_keysOnRings : Int32) (hr_feelsTold : Int32) (hr_secondsTold : Int32) (hr_turnedTold : Int32) (t_length : Int32) (t_kind : Int32) (t_start : Int32) (t_end : Int32) (t_number : Int32) (t_sign : Int32) (t_letters : Int64) (t_fault : Int32) (t_faultPlace : Int32) (c_tape : Nat → Int32) (c_n_f : Nat → Int64) (c_n_k : Nat → Int64) (c_n_r : Nat → Int64) (c_n_d : Nat → Int64) (hf_features : Int32) (hf_keys : Int32) (hf_rings : Int32) (hf_doors : Int32) (hf_turned : Int32) (hf_roundMany : Int32) (c_hf_featureNames : Nat → Int64) (c_hf_steps : Nat → Int32) (c_hf_turnedFeatures : Nat → Int32) (c_hf_sixteenths : Nat → Int32) (c_hf_keySteps : Nat → Int32) (c_hf_on : Nat → Int32) (c_hf_onMany : Nat → Int32) (c_hf_wanted : Nat → Int32) (c_hf_openers : Nat → Int32) (c_hf_seconds : Nat → Int32) (c_hf_roundDoors : Nat → Int32) : Int32 × Int32 × Int32 × Int32 × Int32 × Int32 × Int32 × Int32 × Int64 × Int32 × (Nat → Int32) × Int32 × Int32 × Int32 × (Nat → Int32) × (Nat → Int64) × Int32 × (Nat → Int32) × (Nat → Int32) × Int32 × (Nat → Int64) × Int32 × (Nat → Int32) × (Nat → Int32) × (Nat → Int64) × Int32 × (Nat → Int32) × Int32 × (Nat → Int32) × (Nat → Int64) × Int32 × (Nat → Int64) × (Nat → Int32) × (Nat → Int32) :=
  let w_3 := F_Te_is t_length t_kind t_start t_end c_tape 0
  let r_1 : Int32 := w_3
  if r_1 = 0 then (
    let w_8 := F_Te_is t_length t_kind t_start t_end c_tape 18
    let r_6 : Int32 := w_8
    if r_6 = 0 then (
      let w_13 := F_Te_is t_length t_kind t_start t_end c_tape 19
      let r_11 : Int32 := w_13
      if r_11 = 0 then (
        let w_18 := F_Te_is t_length t_kind t_start t_end c_tape 20
        let r_16 : Int32 := w_18
        if r_16 = 0 then (
          let w_23 := F_Te_is t_length t_kind t_start t_end c_tape 21
          let r_21 : Int32 := w_23
          if r_21 = 0 then (
            let w_28 := F_Te_is t_length t_kind t_start t_end c_tape 24
            let r_26 : Int32 := w_28
            if r_26 = 0 then (
              let w_33 := F_Te_is t_length t_kind t_start t_end c_tape 17
              let r_31 : Int32 := w_33
              if r_31 = 0 then (
                let w_38 := F_Te_is t_length t_kind t_start t_end c_tape 29
                let r_36 : Int32 := w_38
                if r_36 = 0 then (
                  let w_45 := F_Te_refuse t_kind t_start t_fault t_faultPlace 2
                  let r_43 : Int32 := w_45.1
                  let nw0_41 : Int32 := w_45.2.1
                  let nw1_42 : Int32 := w_45.2.2
                  (r_43, nw0_41, nw1_42, t_kind, t_start, t_end, t_number, t_sign, t_letters, hf_roundMany, c_hf_roundDoors, hr_turnedTold, hf_turned, hr_secondsTold, c_hf_seconds, c_n_d, hf_doors, c_hf_wanted, c_hf_openers, hr_keysOnRings, c_n_r, hf_rings, c_hf_on, c_hf_onMany, c_n_k, hf_keys, c_hf_keySteps, hr_feelsTold, c_hf_sixteenths, c_n_f, hf_features, c_hf_featureNames, c_hf_steps, c_hf_turnedFeatures)) else (
                  let w_60 := F_Ho_readRound t_length t_kind t_start t_end t_number t_sign t_letters t_fault t_faultPlace c_tape c_n_d hf_doors hf_roundMany c_hf_roundDoors
                  let r_58 : Int32 := w_60.1
                  let nw0_48 : Int32 := w_60.2.1
                  let nw1_49 : Int32 := w_60.2.2.1
                  let nw2_50 : Int32 := w_60.2.2.2.1
                  let nw3_51 : Int32 := w_60.2.2.2.2.1
                  let nw4_52 : Int32 := w_60.2.2.2.2.2.1
                  let nw5_53 : Int64 := w_60.2.2.2.2.2.2.1
                  let nw6_54 : Int32 := w_60.2.2.2.2.2.2.2.1
                  let nw7_55 : Int32 := w_60.2.2.2.2.2.2.2.2.1
                  let nw8_56 : Int32 := w_60.2.2.2.2.2.2.2.2.2.1
                  let nw9_57 : Nat → Int32 := w_60.2.2.2.2.2.2.2.2.2.2
                  (r_58, nw6_54, nw7_55, nw0_48, nw1_49, nw2_50, nw3_51, nw4_52, nw5_53, nw8_56, nw9_57, hr_turnedTold, hf_turned, hr_secondsTold, c_hf_seconds, c_n_d, hf_doors, c_hf_wanted, c_hf_openers, hr_keysOnRings, c_n_r, hf_rings, c_hf_on, c_hf_onMany, c_n_k, hf_keys, c_hf_keySteps, hr_feelsTold, c_hf_sixteenths, c_n_f, hf_features, c_hf_featureNames, c_hf_steps, c_hf_turnedFeatures))) else (
                let w_75 := F_Ho_readTurned hr_turnedTold t_length t_kind t_start t_end t_number t_sign t_letters t_fault t_faultPlace c_tape hf_turned
                let r_73 : Int32 := w_75.1
                let nw0_63 : Int32 := w_75.2.1
                let nw1_64 : Int32 := w_75.2.2.1
                let nw2_65 : Int32 := w_75.2.2.2.1
                let nw3_66 : Int32 := w_75.2.2.2.2.1
                let nw4_67 : Int32 := w_75.2.2.2.2.2.1
                let nw5_68 : Int32 := w_75.2.2.2.2.2.2.1
                let nw6_69 : Int64 := w_75.2.2.2.2.2.2.2.1
                let nw7_70 : Int32 := w_75.2.2.2.2.2.2.2.2.1
                let nw8_71 : Int32 := w_75.2.2.2.2.2.2.2.2.2.1
                let nw9_72 : Int32 := w_75.2.2.2.2.2.2.2.2.2.2
                (r_73, nw7_70, nw8_71, nw1_64, nw2_65, nw3_66, nw4_67, nw5_68, nw6_69, hf_roundMany, c_hf_roundDoors, nw0_63, nw9_72, hr_secondsTold, c_hf_seconds, c_n_d, hf_doors, c_hf_wanted, c_hf_openers, hr_keysOnRings, c_n_r, hf_rings, c_hf_on, c_hf_onMany, c_n_k, hf_keys, c_hf_keySteps, hr_feelsTold, c_hf_sixteenths, c_n_f, hf_features, c_hf_featureNames, c_hf_steps, c_hf_turnedFeatures))) else (
              let w_90 := F_Ho_readSeconds hr_secondsTold t_length t_kind t_start t_end t_number t_sign t_letters t_fault t_faultPlace c_tape c_hf_seconds
              let r_88 : Int32 := w_90.1
              let nw0_78 : Int32 := w_90.2.1
              let nw1_79 : Int32 := w_90.2.2.1
              let nw2_80 : Int32 := w_90.2.2.2.1
              let nw3_81 : Int32 := w_90.2.2.2.2.1
              let nw4_82 : Int32 := w_90.2.2.2.2.2.1
              let nw5_83 : Int32 := w_90.2.2.2.2.2.2.1
              let nw6_84 : Int64 := w_90.2.2.2.2.2.2.2.1
              let nw7_85 : Int32 := w_90.2.2.2.2.2.2.2.2.1
              let nw8_86 : Int32 := w_90.2.2.2.2.2.2.2.2.2.1
              let nw9_87 : Nat → Int32 := w_90.2.2.2.2.2.2.2.2.2.2
              (r_88, nw7_85, nw8_86, nw1_79, nw2_80, nw3_81, nw4_82, nw5_83, nw6_84, hf_roundMany, c_hf_roundDoors, hr_turnedTold, hf_turned, nw0_78, nw9_87, c_n_d, hf_doors, c_hf_wanted, c_hf_openers, hr_keysOnRings, c_n_r, hf_rings, c_hf_on, c_hf_onMany, c_n_k, hf_keys, c_hf_keySteps, hr_feelsTold, c_hf_sixteenths, c_n_f, hf_features, c_hf_featureNames, c_hf_steps, c_hf_turnedFeatures))) else (
            let w_107 := F_Ho_readDoor t_length t_kind t_start t_end t_number t_sign t_letters t_fault t_faultPlace c_tape c_n_f c_n_k c_n_r c_n_d hf_features hf_keys hf_rings hf_doors c_hf_wanted c_hf_openers
            let r_105 : Int32 := w_107.1
            let nw0_93 : Int32 := w_107.2.1
            let nw1_94 : Int32 := w_107.2.2.1
            let nw2_95 : Int32 := w_107.2.2.2.1
            let nw3_96 : Int32 := w_107.2.2.2.2.1
            let nw4_97 : Int32 := w_107.2.2.2.2.2.1
            let nw5_98 : Int64 := w_107.2.2.2.2.2.2.1
            let nw6_99 : Int32 := w_107.2.2.2.2.2.2.2.1
            let nw7_100 : Int32 := w_107.2.2.2.2.2.2.2.2.1
            let nw8_101 : Nat → Int64 := w_107.2.2.2.2.2.2.2.2.2.1
            let nw9_102 : Int32 := w_107.2.2.2.2.2.2.2.2.2.2.1
            let nw10_103 : Nat → Int32 := w_107.2.2.2.2.2.2.2.2.2.2.2.1
            let nw11_104 : Nat → Int32 := w_107.2.2.2.2.2.2.2.2.2.2.2.2
            (r_105, nw6_99, nw7_100, nw0_93, nw1_94, nw2_95, nw3_96, nw4_97, nw5_98, hf_roundMany, c_hf_roundDoors, hr_turnedTold, hf_turned, hr_secondsTold, c_hf_seconds, nw8_101, nw9_102, nw10_103, nw11_104, hr_keysOnRings, c_n_r, hf_rings, c_hf_on, c_hf_onMany, c_n_k, hf_keys, c_hf_keySteps, hr_feelsTold, c_hf_sixteenths, c_n_f, hf_features, c_hf_featureNames, c_hf_steps, c_hf_turnedFeatures))) else (
          let w_125 := F_Ho_readRing hr_keysOnRings t_length t_kind t_start t_end t_number t_sign t_letters t_fault t_faultPlace c_tape c_n_f c_n_k c_n_r c_n_d hf_features hf_keys hf_rings hf_doors c_hf_on c_hf_onMany
          let r_123 : Int32 := w_125.1
          let nw0_110 : Int32 := w_125.2.1
          let nw1_111 : Int32 := w_125.2.2.1
          let nw2_112 : Int32 := w_125.2.2.2.1
          let nw3_113 : Int32 := w_125.2.2.2.2.1
          let nw4_114 : Int32 := w_125.2.2.2.2.2.1
          let nw5_115 : Int64 := w_125.2.2.2.2.2.2.1
          let nw6_116 : Int32 := w_125.2.2.2.2.2.2.2.1
          let nw7_117 : Int32 := w_125.2.2.2.2.2.2.2.2.1
          let nw8_118 : Nat → Int64 := w_125.2.2.2.2.2.2.2.2.2.1
          let nw9_119 : Int32 := w_125.2.2.2.2.2.2.2.2.2.2.1
          let nw10_120 : Nat → Int32 := w_125.2.2.2.2.2.2.2.2.2.2.2.1
          let nw11_121 : Int32 := w_125.2.2.2.2.2.2.2.2.2.2.2.2.1
          let nw12_122 : Nat → Int32 := w_125.2.2.2.2.2.2.2.2.2.2.2.2.2
          (r_123, nw6_116, nw7_117, nw0_110, nw1_111, nw2_112, nw3_113, nw4_114, nw5_115, hf_roundMany, c_hf_roundDoors, hr_turnedTold, hf_turned, hr_secondsTold, c_hf_seconds, c_n_d, hf_doors, c_hf_wanted, c_hf_openers, nw11_121, nw8_118, nw9_119, nw12_122, nw10_120, c_n_k, hf_keys, c_hf_keySteps, hr_feelsTold, c_hf_sixteenths, c_n_f, hf_features, c_hf_featureNames, c_hf_steps, c_hf_turnedFeatures))) else (
        let w_141 := F_Ho_readKey t_length t_kind t_start t_end t_number t_sign t_letters t_fault t_faultPlace c_tape c_n_f c_n_k c_n_r c_n_d hf_features hf_keys hf_rings hf_doors c_hf_steps c_hf_keySteps
        let r_139 : Int32 := w_141.1
        let nw0_128 : Int32 := w_141.2.1
        let nw1_129 : Int32 := w_141.2.2.1
        let nw2_130 : Int32 := w_141.2.2.2.1
        let nw3_131 : Int32 := w_141.2.2.2.2.1
        let nw4_132 : Int32 := w_141.2.2.2.2.2.1
        let nw5_133 : Int64 := w_141.2.2.2.2.2.2.1
        let nw6_134 : Int32 := w_141.2.2.2.2.2.2.2.1
        let nw7_135 : Int32 := w_141.2.2.2.2.2.2.2.2.1
        let nw8_136 : Nat → Int32 := w_141.2.2.2.2.2.2.2.2.2.1
        let nw9_137 : Nat → Int64 := w_141.2.2.2.2.2.2.2.2.2.2.1
        let nw10_138 : Int32 := w_141.2.2.2.2.2.2.2.2.2.2.2
        (r_139, nw6_134, nw7_135, nw0_128, nw1_129, nw2_130, nw3_131, nw4_132, nw5_133, hf_roundMany, c_hf_roundDoors, hr_turnedTold, hf_turned, hr_secondsTold, c_hf_seconds, c_n_d, hf_doors, c_hf_wanted, c_hf_openers, hr_keysOnRings, c_n_r, hf_rings, c_hf_on, c_hf_onMany, nw9_137, nw10_138, nw8_136, hr_feelsTold, c_hf_sixteenths, c_n_f, hf_features, c_hf_featureNames, c_hf_steps, c_hf_turnedFeatures))) else (
      let w_156 := F_Ho_readFeels hr_feelsTold t_length t_end t_number t_sign t_letters t_fault t_faultPlace c_tape c_n_f hf_features c_hf_steps c_hf_sixteenths
      let r_154 : Int32 := w_156.1
      let nw0_144 : Int32 := w_156.2.1
      let nw1_145 : Int32 := w_156.2.2.1
      let nw2_146 : Int32 := w_156.2.2.2.1
      let nw3_147 : Int32 := w_156.2.2.2.2.1
      let nw4_148 : Int32 := w_156.2.2.2.2.2.1
      let nw5_149 : Int32 := w_156.2.2.2.2.2.2.1
      let nw6_150 : Int64 := w_156.2.2.2.2.2.2.2.1
      let nw7_151 : Int32 := w_156.2.2.2.2.2.2.2.2.1
      let nw8_152 : Int32 := w_156.2.2.2.2.2.2.2.2.2.1
      let nw9_153 : Nat → Int32 := w_156.2.2.2.2.2.2.2.2.2.2
      (r_154, nw7_151, nw8_152, nw1_145, nw2_146, nw3_147, nw4_148, nw5_149, nw6_150, hf_roundMany, c_hf_roundDoors, hr_turnedTold, hf_turned, hr_secondsTold, c_hf_seconds, c_n_d, hf_doors, c_hf_wanted, c_hf_openers, hr_keysOnRings, c_n_r, hf_rings, c_hf_on, c_hf_onMany, c_n_k, hf_keys, c_hf_keySteps, nw0_144, nw9_153, c_n_f, hf_features, c_hf_featureNames, c_hf_steps, c_hf_turnedFeatures))) else (
    let w_175 := F_Ho_readFeature t_length t_kind t_start t_end t_number t_sign t_letters t_fault t_faultPlace c_tape c_n_f c_n_k c_n_r c_n_d hf_features hf_keys hf_rings hf_doors c_hf_featureNames c_hf_steps c_hf_turnedFeatures c_hf_sixteenths
    let r_173 : Int32 := w_175.1
    let nw0_159 : Int32 := w_175.2.1
    let nw1_160 : Int32 := w_175.2.2.1
    let nw2_161 : Int32 := w_175.2.2.2.1
    let nw3_162 : Int32 := w_175.2.2.2.2.1
    let nw4_163 : Int32 := w_175.2.2.2.2.2.1
    let nw5_164 : Int64 := w_175.2.2.2.2.2.2.1
    let nw6_165 : Int32 := w_175.2.2.2.2.2.2.2.1
    let nw7_166 : Int32 := w_175.2.2.2.2.2.2.2.2.1
    let nw8_167 : Nat → Int64 := w_175.2.2.2.2.2.2.2.2.2.1
    let nw9_168 : Int32 := w_175.2.2.2.2.2.2.2.2.2.2.1
    let nw10_169 : Nat → Int64 := w_175.2.2.2.2.2.2.2.2.2.2.2.1
    let nw11_170 : Nat → Int32 := w_175.2.2.2.2.2.2.2.2.2.2.2.2.1
    let nw12_171 : Nat → Int32 := w_175.2.2.2.2.2.2.2.2.2.2.2.2.2.1
    let nw13_172 : Nat → Int32 := w_175.2.2.2.2.2.2.2.2.2.2.2.2.2.2
    (r_173, nw6_165, nw7_166, nw0_159, nw1_160, nw2_161, nw3_162, nw4_163, nw5_164, hf_roundMany, c_hf_roundDoors, hr_turnedTold, hf_turned, hr_secondsTold, c_hf_seconds, c_n_d, hf_doors, c_hf_wanted, c_hf_openers, hr_keysOnRings, c_n_r, hf_rings, c_hf_on, c_hf_onMany, c_n_k, hf_keys, c_hf_keySteps, hr_feelsTold, nw13_172, nw8_167, nw9_168, nw10_169, nw11_170, nw12_171))
theorem F_Ho_readPart_s (hr_keysOnRings : Int32) (hr_feelsTold : Int32) (hr_secondsTold : Int32) (hr_turnedTold : Int32) (t_length : Int32) (t_kind : Int32) (t_start : Int32) (t_end : Int32) (t_number : Int32) (t_sign : Int32) (t_letters : Int64) (t_fault : Int32) (t_faultPlace : Int32) (c_tape : Nat → Int32) (c_n_f : Nat → Int64) (c_n_k : Nat → Int64) (c_n_r : Nat → Int64) (c_n_d : Nat → Int64) (hf_features : Int32) (hf_keys : Int32) (hf_rings : Int32) (hf_doors : Int32) (hf_turned : Int32) (hf_roundMany : Int32) (c_hf_featureNames : Nat → Int64) (c_hf_steps : Nat → Int32) (c_hf_turnedFeatures : Nat → Int32) (c_hf_sixteenths : Nat → Int32) (c_hf_keySteps : Nat → Int32) (c_hf_on : Nat → Int32) (c_hf_onMany : Nat → Int32) (c_hf_wanted : Nat → Int32) (c_hf_openers : Nat → Int32) (c_hf_seconds : Nat → Int32) (c_hf_roundDoors : Nat → Int32) : F_Ho_readPart hr_keysOnRings hr_feelsTold hr_secondsTold hr_turnedTold t_length t_kind t_start t_end t_number t_sign t_letters t_fault t_faultPlace c_tape c_n_f c_n_k c_n_r c_n_d hf_features hf_keys hf_rings hf_doors hf_turned hf_roundMany c_hf_featureNames c_hf_steps c_hf_turnedFeatures c_hf_sixteenths c_hf_keySteps c_hf_on c_hf_onMany c_hf_wanted c_hf_openers c_hf_seconds c_hf_roundDoors = (
  let w_3 := F_Te_is t_length t_kind t_start t_end c_tape 0
  let r_1 : Int32 := w_3
  if r_1 = 0 then (
    let w_8 := F_Te_is t_length t_kind t_start t_end c_tape 18
    let r_6 : Int32 := w_8
    if r_6 = 0 then (
      let w_13 := F_Te_is t_length t_kind t_start t_end c_tape 19
      let r_11 : Int32 := w_13
      if r_11 = 0 then (
        let w_18 := F_Te_is t_length t_kind t_start t_end c_tape 20
        let r_16 : Int32 := w_18
        if r_16 = 0 then (
          let w_23 := F_Te_is t_length t_kind t_start t_end c_tape 21
          let r_21 : Int32 := w_23
          if r_21 = 0 then (
            let w_28 := F_Te_is t_length t_kind t_start t_end c_tape 24
            let r_26 : Int32 := w_28
            if r_26 = 0 then (
              let w_33 := F_Te_is t_length t_kind t_start t_end c_tape 17
              let r_31 : Int32 := w_33
              if r_31 = 0 then (
                let w_38 := F_Te_is t_length t_kind t_start t_end c_tape 29
                let r_36 : Int32 := w_38
                if r_36 = 0 then (
                  let w_45 := F_Te_refuse t_kind t_start t_fault t_faultPlace 2
                  let r_43 : Int32 := w_45.1
                  let nw0_41 : Int32 := w_45.2.1
                  let nw1_42 : Int32 := w_45.2.2
                  (r_43, nw0_41, nw1_42, t_kind, t_start, t_end, t_number, t_sign, t_letters, hf_roundMany, c_hf_roundDoors, hr_turnedTold, hf_turned, hr_secondsTold, c_hf_seconds, c_n_d, hf_doors, c_hf_wanted, c_hf_openers, hr_keysOnRings, c_n_r, hf_rings, c_hf_on, c_hf_onMany, c_n_k, hf_keys, c_hf_keySteps, hr_feelsTold, c_hf_sixteenths, c_n_f, hf_features, c_hf_featureNames, c_hf_steps, c_hf_turnedFeatures)) else (
                  let w_60 := F_Ho_readRound t_length t_kind t_start t_end t_number t_sign t_letters t_fault t_faultPlace c_tape c_n_d hf_doors hf_roundMany c_hf_roundDoors
                  let r_58 : Int32 := w_60.1
                  let nw0_48 : Int32 := w_60.2.1
                  let nw1_49 : Int32 := w_60.2.2.1
                  let nw2_50 : Int32 := w_60.2.2.2.1
                  let nw3_51 : Int32 := w_60.2.2.2.2.1
                  let nw4_52 : Int32 := w_60.2.2.2.2.2.1
                  let nw5_53 : Int64 := w_60.2.2.2.2.2.2.1
                  let nw6_54 : Int32 := w_60.2.2.2.2.2.2.2.1
                  let nw7_55 : Int32 := w_60.2.2.2.2.2.2.2.2.1
                  let nw8_56 : Int32 := w_60.2.2.2.2.2.2.2.2.2.1
                  let nw9_57 : Nat → Int32 := w_60.2.2.2.2.2.2.2.2.2.2
                  (r_58, nw6_54, nw7_55, nw0_48, nw1_49, nw2_50, nw3_51, nw4_52, nw5_53, nw8_56, nw9_57, hr_turnedTold, hf_turned, hr_secondsTold, c_hf_seconds, c_n_d, hf_doors, c_hf_wanted, c_hf_openers, hr_keysOnRings, c_n_r, hf_rings, c_hf_on, c_hf_onMany, c_n_k, hf_keys, c_hf_keySteps, hr_feelsTold, c_hf_sixteenths, c_n_f, hf_features, c_hf_featureNames, c_hf_steps, c_hf_turnedFeatures))) else (
                let w_75 := F_Ho_readTurned hr_turnedTold t_length t_kind t_start t_end t_number t_sign t_letters t_fault t_faultPlace c_tape hf_turned
                let r_73 : Int32 := w_75.1
                let nw0_63 : Int32 := w_75.2.1
                let nw1_64 : Int32 := w_75.2.2.1
                let nw2_65 : Int32 := w_75.2.2.2.1
                let nw3_66 : Int32 := w_75.2.2.2.2.1
                let nw4_67 : Int32 := w_75.2.2.2.2.2.1
                let nw5_68 : Int32 := w_75.2.2.2.2.2.2.1
                let nw6_69 : Int64 := w_75.2.2.2.2.2.2.2.1
                let nw7_70 : Int32 := w_75.2.2.2.2.2.2.2.2.1
                let nw8_71 : Int32 := w_75.2.2.2.2.2.2.2.2.2.1
                let nw9_72 : Int32 := w_75.2.2.2.2.2.2.2.2.2.2
                (r_73, nw7_70, nw8_71, nw1_64, nw2_65, nw3_66, nw4_67, nw5_68, nw6_69, hf_roundMany, c_hf_roundDoors, nw0_63, nw9_72, hr_secondsTold, c_hf_seconds, c_n_d, hf_doors, c_hf_wanted, c_hf_openers, hr_keysOnRings, c_n_r, hf_rings, c_hf_on, c_hf_onMany, c_n_k, hf_keys, c_hf_keySteps, hr_feelsTold, c_hf_sixteenths, c_n_f, hf_features, c_hf_featureNames, c_hf_steps, c_hf_turnedFeatures))) else (
              let w_90 := F_Ho_readSeconds hr_secondsTold t_length t_kind t_start t_end t_number t_sign t_letters t_fault t_faultPlace c_tape c_hf_seconds
              let r_88 : Int32 := w_90.1
              let nw0_78 : Int32 := w_90.2.1
              let nw1_79 : Int32 := w_90.2.2.1
              let nw2_80 : Int32 := w_90.2.2.2.1
              let nw3_81 : Int32 := w_90.2.2.2.2.1
              let nw4_82 : Int32 := w_90.2.2.2.2.2.1
              let nw5_83 : Int32 := w_90.2.2.2.2.2.2.1
              let nw6_84 : Int64 := w_90.2.2.2.2.2.2.2.1
              let nw7_85 : Int32 := w_90.2.2.2.2.2.2.2.2.1
              let nw8_86 : Int32 := w_90.2.2.2.2.2.2.2.2.2.1
              let nw9_87 : Nat → Int32 := w_90.2.2.2.2.2.2.2.2.2.2
              (r_88, nw7_85, nw8_86, nw1_79, nw2_80, nw3_81, nw4_82, nw5_83, nw6_84, hf_roundMany, c_hf_roundDoors, hr_turnedTold, hf_turned, nw0_78, nw9_87, c_n_d, hf_doors, c_hf_wanted, c_hf_openers, hr_keysOnRings, c_n_r, hf_rings, c_hf_on, c_hf_onMany, c_n_k, hf_keys, c_hf_keySteps, hr_feelsTold, c_hf_sixteenths, c_n_f, hf_features, c_hf_featureNames, c_hf_steps, c_hf_turnedFeatures))) else (
            let w_107 := F_Ho_readDoor t_length t_kind t_start t_end t_number t_sign t_letters t_fault t_faultPlace c_tape c_n_f c_n_k c_n_r c_n_d hf_features hf_keys hf_rings hf_doors c_hf_wanted c_hf_openers
            let r_105 : Int32 := w_107.1
            let nw0_93 : Int32 := w_107.2.1
            let nw1_94 : Int32 := w_107.2.2.1
            let nw2_95 : Int32 := w_107.2.2.2.1
            let nw3_96 : Int32 := w_107.2.2.2.2.1
            let nw4_97 : Int32 := w_107.2.2.2.2.2.1
            let nw5_98 : Int64 := w_107.2.2.2.2.2.2.1
            let nw6_99 : Int32 := w_107.2.2.2.2.2.2.2.1
            let nw7_100 : Int32 := w_107.2.2.2.2.2.2.2.2.1
            let nw8_101 : Nat → Int64 := w_107.2.2.2.2.2.2.2.2.2.1
            let nw9_102 : Int32 := w_107.2.2.2.2.2.2.2.2.2.2.1
            let nw10_103 : Nat → Int32 := w_107.2.2.2.2.2.2.2.2.2.2.2.1
            let nw11_104 : Nat → Int32 := w_107.2.2.2.2.2.2.2.2.2.2.2.2
            (r_105, nw6_99, nw7_100, nw0_93, nw1_94, nw2_95, nw3_96, nw4_97, nw5_98, hf_roundMany, c_hf_roundDoors, hr_turnedTold, hf_turned, hr_secondsTold, c_hf_seconds, nw8_101, nw9_102, nw10_103, nw11_104, hr_keysOnRings, c_n_r, hf_rings, c_hf_on, c_hf_onMany, c_n_k, hf_keys, c_hf_keySteps, hr_feelsTold, c_hf_sixteenths, c_n_f, hf_features, c_hf_featureNames, c_hf_steps, c_hf_turnedFeatures))) else (
          let w_125 := F_Ho_readRing hr_keysOnRings t_length t_kind t_start t_end t_number t_sign t_letters t_fault t_faultPlace c_tape c_n_f c_n_k c_n_r c_n_d hf_features hf_keys hf_rings hf_doors c_hf_on c_hf_onMany
          let r_123 : Int32 := w_125.1
          let nw0_110 : Int32 := w_125.2.1
          let nw1_111 : Int32 := w_125.2.2.1
          let nw2_112 : Int32 := w_125.2.2.2.1
          let nw3_113 : Int32 := w_125.2.2.2.2.1
          let nw4_114 : Int32 := w_125.2.2.2.2.2.1
          let nw5_115 : Int64 := w_125.2.2.2.2.2.2.1
          let nw6_116 : Int32 := w_125.2.2.2.2.2.2.2.1
          let nw7_117 : Int32 := w_125.2.2.2.2.2.2.2.2.1
          let nw8_118 : Nat → Int64 := w_125.2.2.2.2.2.2.2.2.2.1
          let nw9_119 : Int32 := w_125.2.2.2.2.2.2.2.2.2.2.1
          let nw10_120 : Nat → Int32 := w_125.2.2.2.2.2.2.2.2.2.2.2.1
          let nw11_121 : Int32 := w_125.2.2.2.2.2.2.2.2.2.2.2.2.1
          let nw12_122 : Nat → Int32 := w_125.2.2.2.2.2.2.2.2.2.2.2.2.2
          (r_123, nw6_116, nw7_117, nw0_110, nw1_111, nw2_112, nw3_113, nw4_114, nw5_115, hf_roundMany, c_hf_roundDoors, hr_turnedTold, hf_turned, hr_secondsTold, c_hf_seconds, c_n_d, hf_doors, c_hf_wanted, c_hf_openers, nw11_121, nw8_118, nw9_119, nw12_122, nw10_120, c_n_k, hf_keys, c_hf_keySteps, hr_feelsTold, c_hf_sixteenths, c_n_f, hf_features, c_hf_featureNames, c_hf_steps, c_hf_turnedFeatures))) else (
        let w_141 := F_Ho_readKey t_length t_kind t_start t_end t_number t_sign t_letters t_fault t_faultPlace c_tape c_n_f c_n_k c_n_r c_n_d hf_features hf_keys hf_rings hf_doors c_hf_steps c_hf_keySteps
        let r_139 : Int32 := w_141.1
        let nw0_128 : Int32 := w_141.2.1
        let nw1_129 : Int32 := w_141.2.2.1
        let nw2_130 : Int32 := w_141.2.2.2.1
        let nw3_131 : Int32 := w_141.2.2.2.2.1
        let nw4_132 : Int32 := w_141.2.2.2.2.2.1
        let nw5_133 : Int64 := w_141.2.2.2.2.2.2.1
        let nw6_134 : Int32 := w_141.2.2.2.2.2.2.2.1
        let nw7_135 : Int32 := w_141.2.2.2.2.2.2.2.2.1
        let nw8_136 : Nat → Int32 := w_141.2.2.2.2.2.2.2.2.2.1
        let nw9_137 : Nat → Int64 := w_141.2.2.2.2.2.2.2.2.2.2.1
        let nw10_138 : Int32 := w_141.2.2.2.2.2.2.2.2.2.2.2
        (r_139, nw6_134, nw7_135, nw0_128, nw1_129, nw2_130, nw3_131, nw4_132, nw5_133, hf_roundMany, c_hf_roundDoors, hr_turnedTold, hf_turned, hr_secondsTold, c_hf_seconds, c_n_d, hf_doors, c_hf_wanted, c_hf_openers, hr_keysOnRings, c_n_r, hf_rings, c_hf_on, c_hf_onMany, nw9_137, nw10_138, nw8_136, hr_feelsTold, c_hf_sixteenths, c_n_f, hf_features, c_hf_featureNames, c_hf_steps, c_hf_turnedFeatures))) else (
      let w_156 := F_Ho_readFeels hr_feelsTold t_length t_end t_number t_sign t_letters t_fault t_faultPlace c_tape c_n_f hf_features c_hf_steps c_hf_sixteenths
      let r_154 : Int32 := w_156.1
      let nw0_144 : Int32 := w_156.2.1
      let nw1_145 : Int32 := w_156.2.2.1
      let nw2_146 : Int32 := w_156.2.2.2.1
      let nw3_147 : Int32 := w_156.2.2.2.2.1
      let nw4_148 : Int32 := w_156.2.2.2.2.2.1
      let nw5_149 : Int32 := w_156.2.2.2.2.2.2.1
      let nw6_150 : Int64 := w_156.2.2.2.2.2.2.2.1
      let nw7_151 : Int32 := w_156.2.2.2.2.2.2.2.2.1
      let nw8_152 : Int32 := w_156.2.2.2.2.2.2.2.2.2.1
      let nw9_153 : Nat → Int32 := w_156.2.2.2.2.2.2.2.2.2.2
      (r_154, nw7_151, nw8_152, nw1_145, nw2_146, nw3_147, nw4_148, nw5_149, nw6_150, hf_roundMany, c_hf_roundDoors, hr_turnedTold, hf_turned, hr_secondsTold, c_hf_seconds, c_n_d, hf_doors, c_hf_wanted, c_hf_openers, hr_keysOnRings, c_n_r, hf_rings, c_hf_on, c_hf_onMany, c_n_k, hf_keys, c_hf_keySteps, nw0_144, nw9_153, c_n_f, hf_features, c_hf_featureNames, c_hf_steps, c_hf_turnedFeatures))) else (
    let w_175 := F_Ho_readFeature t_length t_kind t_start t_end t_number t_sign t_letters t_fault t_faultPlace c_tape c_n_f c_n_k c_n_r c_n_d hf_features hf_keys hf_rings hf_doors c_hf_featureNames c_hf_steps c_hf_turnedFeatures c_hf_sixteenths
    let r_173 : Int32 := w_175.1
    let nw0_159 : Int32 := w_175.2.1
    let nw1_160 : Int32 := w_175.2.2.1
    let nw2_161 : Int32 := w_175.2.2.2.1
    let nw3_162 : Int32 := w_175.2.2.2.2.1
    let nw4_163 : Int32 := w_175.2.2.2.2.2.1
    let nw5_164 : Int64 := w_175.2.2.2.2.2.2.1
    let nw6_165 : Int32 := w_175.2.2.2.2.2.2.2.1
    let nw7_166 : Int32 := w_175.2.2.2.2.2.2.2.2.1
    let nw8_167 : Nat → Int64 := w_175.2.2.2.2.2.2.2.2.2.1
    let nw9_168 : Int32 := w_175.2.2.2.2.2.2.2.2.2.2.1
    let nw10_169 : Nat → Int64 := w_175.2.2.2.2.2.2.2.2.2.2.2.1
    let nw11_170 : Nat → Int32 := w_175.2.2.2.2.2.2.2.2.2.2.2.2.1
    let nw12_171 : Nat → Int32 := w_175.2.2.2.2.2.2.2.2.2.2.2.2.2.1
    let nw13_172 : Nat → Int32 := w_175.2.2.2.2.2.2.2.2.2.2.2.2.2.2
    (r_173, nw6_165, nw7_166, nw0_159, nw1_160, nw2_161, nw3_162, nw4_163, nw5_164, hf_roundMany, c_hf_roundDoors, hr_turnedTold, hf_turned, hr_secondsTold, c_hf_seconds, c_n_d, hf_doors, c_hf_wanted, c_hf_openers, hr_keysOnRings, c_n_r, hf_rings, c_hf_on, c_hf_onMany, c_n_k, hf_keys, c_hf_keySteps, hr_feelsTold, nw13_172, nw8_167, nw9_168, nw10_169, nw11_170, nw12_171))) := rfl
noncomputable def F_Ho_readAll_L29a (t_length : Int32) (c_tape : Nat → Int32) (nw2_3 : Int32) : Nat → Int32 → Int32 → Int32 → Int32 → Int32 → Int32 → Int32 → Int32 → Int32 → Int32 → Int64 → Int32 → Int32 → (Nat → Int64) → (Nat → Int64) → (Nat → Int64) → (Nat → Int64) → (Nat → Int64) → (Nat → Int32) → (Nat → Int32) → (Nat → Int32) → (Nat → Int32) → (Nat → Int32) → (Nat → Int32) → (Nat → Int32) → (Nat → Int32) → (Nat → Int32) → Int32 → Int32 → Int32 → Int32 → Int32 → Int32 → (Nat → Int32) → (Int32 × Int32 × Int32 × Int32 × Int32 × Int32 × Int32 × Int32 × Int32 × Int32 × Int64 × Int32 × Int32 × (Nat → Int64) × (Nat → Int64) × (Nat → Int64) × (Nat → Int64) × Int32 × Int32 × Int32 × Int32 × Int32 × Int32 × Int32 × (Nat → Int64) × (Nat → Int32) × (Nat → Int32) × (Nat → Int32) × (Nat → Int32) × (Nat → Int32) × (Nat → Int32) × (Nat → Int32) × (Nat → Int32) × (Nat → Int32) × (Nat → Int32)) := fun k9 => Nat.rec (motive := fun _ => Int32 → Int32 → Int32 → Int32 → Int32 → Int32 → Int32 → Int32 → Int32 → Int32 → Int64 → Int32 → Int32 → (Nat → Int64) → (Nat → Int64) → (Nat → Int64) → (Nat → Int64) → (Nat → Int64) → (Nat → Int32) → (Nat → Int32) → (Nat → Int32) → (Nat → Int32) → (Nat → Int32) → (Nat → Int32) → (Nat → Int32) → (Nat → Int32) → (Nat → Int32) → Int32 → Int32 → Int32 → Int32 → Int32 → Int32 → (Nat → Int32) → (Int32 × Int32 × Int32 × Int32 × Int32 × Int32 × Int32 × Int32 × Int32 × Int32 × Int64 × Int32 × Int32 × (Nat → Int64) × (Nat → Int64) × (Nat → Int64) × (Nat → Int64) × Int32 × Int32 × Int32 × Int32 × Int32 × Int32 × Int32 × (Nat → Int64) × (Nat → Int32) × (Nat → Int32) × (Nat → Int32) × (Nat → Int32) × (Nat → Int32) × (Nat → Int32) × (Nat → Int32) × (Nat → Int32) × (Nat → Int32) × (Nat → Int32))) (fun _ _ _ _ _ _ _ _ _ _ _ _ _ _ _ _ _ _ _ _ _ _ _ _ _ _ _ _ _ _ _ _ _ _ => default) (fun _ (G_L29a : Int32 → Int32 → Int32 → Int32 → Int32 → Int32 → Int32 → Int32 → Int32 → Int32 → Int64 → Int32 → Int32 → (Nat → Int64) → (Nat → Int64) → (Nat → Int64) → (Nat → Int64) → (Nat → Int64) → (Nat → Int32) → (Nat → Int32) → (Nat → Int32) → (Nat → Int32) → (Nat → Int32) → (Nat → Int32) → (Nat → Int32) → (Nat → Int32) → (Nat → Int32) → Int32 → Int32 → Int32 → Int32 → Int32 → Int32 → (Nat → Int32) → (Int32 × Int32 × Int32 × Int32 × Int32 × Int32 × Int32 × Int32 × Int32 × Int32 × Int64 × Int32 × Int32 × (Nat → Int64) × (Nat → Int64) × (Nat → Int64) × (Nat → Int64) × Int32 × Int32 × Int32 × Int32 × Int32 × Int32 × Int32 × (Nat → Int64) × (Nat → Int32) × (Nat → Int32) × (Nat → Int32) × (Nat → Int32) × (Nat → Int32) × (Nat → Int32) × (Nat → Int32) × (Nat → Int32) × (Nat → Int32) × (Nat → Int32))) => fun (v_133 : Int32) (v_134 : Int32) (v_135 : Int32) (v_136 : Int32) (v_137 : Int32) (v_138 : Int32) (v_139 : Int32) (v_140 : Int32) (v_141 : Int32) (v_142 : Int32) (v_143 : Int64) (v_144 : Int32) (v_145 : Int32) (g_146 : Nat → Int64) (g_147 : Nat → Int64) (g_148 : Nat → Int64) (g_149 : Nat → Int64) (g_150 : Nat → Int64) (g_151 : Nat → Int32) (g_152 : Nat → Int32) (g_153 : Nat → Int32) (g_154 : Nat → Int32) (g_155 : Nat → Int32) (g_156 : Nat → Int32) (g_157 : Nat → Int32) (g_158 : Nat → Int32) (g_159 : Nat → Int32) (v_160 : Int32) (v_161 : Int32) (v_162 : Int32) (v_163 : Int32) (v_164 : Int32) (v_165 : Int32) (g_166 : Nat → Int32) =>
    if 900 ≤ v_133 then (
      if v_144 = 0 then (
        ((1 : Int32), v_134, v_135, v_136, v_137, v_138, v_139, v_140, v_141, v_142, v_143, v_144, v_145, g_146, g_147, g_148, g_149, v_160, v_161, nw2_3, v_162, v_163, v_164, v_165, g_150, g_151, g_152, g_153, g_154, g_155, g_156, g_157, g_158, g_166, g_159)) else (
        ((0 : Int32), v_134, v_135, v_136, v_137, v_138, v_139, v_140, v_141, v_142, v_143, v_144, v_145, g_146, g_147, g_148, g_149, v_160, v_161, nw2_3, v_162, v_163, v_164, v_165, g_150, g_151, g_152, g_153, g_154, g_155, g_156, g_157, g_158, g_166, g_159))) else (
      let w_231 := F_Te_goesOn v_138 v_144
      let r_229 : Int32 := w_231
      if r_229 = 0 then (
        if v_144 = 0 then (
          ((1 : Int32), v_134, v_135, v_136, v_137, v_138, v_139, v_140, v_141, v_142, v_143, v_144, v_145, g_146, g_147, g_148, g_149, v_160, v_161, nw2_3, v_162, v_163, v_164, v_165, g_150, g_151, g_152, g_153, g_154, g_155, g_156, g_157, g_158, g_166, g_159)) else (
          ((0 : Int32), v_134, v_135, v_136, v_137, v_138, v_139, v_140, v_141, v_142, v_143, v_144, v_145, g_146, g_147, g_148, g_149, v_160, v_161, nw2_3, v_162, v_163, v_164, v_165, g_150, g_151, g_152, g_153, g_154, g_155, g_156, g_157, g_158, g_166, g_159))) else (
        let w_275 := F_Ho_readPart v_134 v_135 v_136 v_137 t_length v_138 v_139 v_140 v_141 v_142 v_143 v_144 v_145 c_tape g_146 g_147 g_148 g_149 v_160 v_161 v_162 v_163 v_164 v_165 g_150 g_151 g_152 g_153 g_154 g_155 g_156 g_157 g_158 g_166 g_159
        let r_273 : Int32 := w_275.1
        let nw0_240 : Int32 := w_275.2.1
        let nw1_241 : Int32 := w_275.2.2.1
        let nw2_242 : Int32 := w_275.2.2.2.1
        let nw3_243 : Int32 := w_275.2.2.2.2.1
        let nw4_244 : Int32 := w_275.2.2.2.2.2.1
        let nw5_245 : Int32 := w_275.2.2.2.2.2.2.1
        let nw6_246 : Int32 := w_275.2.2.2.2.2.2.2.1
        let nw7_247 : Int64 := w_275.2.2.2.2.2.2.2.2.1
        let nw8_248 : Int32 := w_275.2.2.2.2.2.2.2.2.2.1
        let nw9_249 : Nat → Int32 := w_275.2.2.2.2.2.2.2.2.2.2.1
        let nw10_250 : Int32 := w_275.2.2.2.2.2.2.2.2.2.2.2.1
        let nw11_251 : Int32 := w_275.2.2.2.2.2.2.2.2.2.2.2.2.1
        let nw12_252 : Int32 := w_275.2.2.2.2.2.2.2.2.2.2.2.2.2.1
        let nw13_253 : Nat → Int32 := w_275.2.2.2.2.2.2.2.2.2.2.2.2.2.2.1
        let nw14_254 : Nat → Int64 := w_275.2.2.2.2.2.2.2.2.2.2.2.2.2.2.2.1
        let nw15_255 : Int32 := w_275.2.2.2.2.2.2.2.2.2.2.2.2.2.2.2.2.1
        let nw16_256 : Nat → Int32 := w_275.2.2.2.2.2.2.2.2.2.2.2.2.2.2.2.2.2.1
        let nw17_257 : Nat → Int32 := w_275.2.2.2.2.2.2.2.2.2.2.2.2.2.2.2.2.2.2.1
        let nw18_258 : Int32 := w_275.2.2.2.2.2.2.2.2.2.2.2.2.2.2.2.2.2.2.2.1
        let nw19_259 : Nat → Int64 := w_275.2.2.2.2.2.2.2.2.2.2.2.2.2.2.2.2.2.2.2.2.1
        let nw20_260 : Int32 := w_275.2.2.2.2.2.2.2.2.2.2.2.2.2.2.2.2.2.2.2.2.2.1
        let nw21_261 : Nat → Int32 := w_275.2.2.2.2.2.2.2.2.2.2.2.2.2.2.2.2.2.2.2.2.2.2.1
        let nw22_262 : Nat → Int32 := w_275.2.2.2.2.2.2.2.2.2.2.2.2.2.2.2.2.2.2.2.2.2.2.2.1
        let nw23_263 : Nat → Int64 := w_275.2.2.2.2.2.2.2.2.2.2.2.2.2.2.2.2.2.2.2.2.2.2.2.2.1
        let nw24_264 : Int32 := w_275.2.2.2.2.2.2.2.2.2.2.2.2.2.2.2.2.2.2.2.2.2.2.2.2.2.1
        let nw25_265 : Nat → Int32 := w_275.2.2.2.2.2.2.2.2.2.2.2.2.2.2.2.2.2.2.2.2.2.2.2.2.2.2.1
        let nw26_266 : Int32 := w_275.2.2.2.2.2.2.2.2.2.2.2.2.2.2.2.2.2.2.2.2.2.2.2.2.2.2.2.1
        let nw27_267 : Nat → Int32 := w_275.2.2.2.2.2.2.2.2.2.2.2.2.2.2.2.2.2.2.2.2.2.2.2.2.2.2.2.2.1
        let nw28_268 : Nat → Int64 := w_275.2.2.2.2.2.2.2.2.2.2.2.2.2.2.2.2.2.2.2.2.2.2.2.2.2.2.2.2.2.1
        let nw29_269 : Int32 := w_275.2.2.2.2.2.2.2.2.2.2.2.2.2.2.2.2.2.2.2.2.2.2.2.2.2.2.2.2.2.2.1
        let nw30_270 : Nat → Int64 := w_275.2.2.2.2.2.2.2.2.2.2.2.2.2.2.2.2.2.2.2.2.2.2.2.2.2.2.2.2.2.2.2.1
        let nw31_271 : Nat → Int32 := w_275.2.2.2.2.2.2.2.2.2.2.2.2.2.2.2.2.2.2.2.2.2.2.2.2.2.2.2.2.2.2.2.2.1
        let nw32_272 : Nat → Int32 := w_275.2.2.2.2.2.2.2.2.2.2.2.2.2.2.2.2.2.2.2.2.2.2.2.2.2.2.2.2.2.2.2.2.2
        G_L29a (v_133 + 1) nw18_258 nw26_266 nw12_252 nw10_250 nw2_242 nw3_243 nw4_244 nw5_245 nw6_246 nw7_247 nw0_240 nw1_241 nw28_268 nw23_263 nw19_259 nw14_254 nw30_270 nw31_271 nw32_272 nw27_267 nw25_265 nw21_261 nw22_262 nw16_256 nw17_257 nw9_249 nw29_269 nw24_264 nw20_260 nw15_255 nw11_251 nw8_248 nw13_253))) k9
theorem F_Ho_readAll_L29a_s (t_length : Int32) (c_tape : Nat → Int32) (nw2_3 : Int32) (n9 : Nat) (v_133 : Int32) (v_134 : Int32) (v_135 : Int32) (v_136 : Int32) (v_137 : Int32) (v_138 : Int32) (v_139 : Int32) (v_140 : Int32) (v_141 : Int32) (v_142 : Int32) (v_143 : Int64) (v_144 : Int32) (v_145 : Int32) (g_146 : Nat → Int64) (g_147 : Nat → Int64) (g_148 : Nat → Int64) (g_149 : Nat → Int64) (g_150 : Nat → Int64) (g_151 : Nat → Int32) (g_152 : Nat → Int32) (g_153 : Nat → Int32) (g_154 : Nat → Int32) (g_155 : Nat → Int32) (g_156 : Nat → Int32) (g_157 : Nat → Int32) (g_158 : Nat → Int32) (g_159 : Nat → Int32) (v_160 : Int32) (v_161 : Int32) (v_162 : Int32) (v_163 : Int32) (v_164 : Int32) (v_165 : Int32) (g_166 : Nat → Int32) : F_Ho_readAll_L29a t_length c_tape nw2_3 (n9 + 1) v_133 v_134 v_135 v_136 v_137 v_138 v_139 v_140 v_141 v_142 v_143 v_144 v_145 g_146 g_147 g_148 g_149 g_150 g_151 g_152 g_153 g_154 g_155 g_156 g_157 g_158 g_159 v_160 v_161 v_162 v_163 v_164 v_165 g_166 = (
    if 900 ≤ v_133 then (
      if v_144 = 0 then (
        ((1 : Int32), v_134, v_135, v_136, v_137, v_138, v_139, v_140, v_141, v_142, v_143, v_144, v_145, g_146, g_147, g_148, g_149, v_160, v_161, nw2_3, v_162, v_163, v_164, v_165, g_150, g_151, g_152, g_153, g_154, g_155, g_156, g_157, g_158, g_166, g_159)) else (
        ((0 : Int32), v_134, v_135, v_136, v_137, v_138, v_139, v_140, v_141, v_142, v_143, v_144, v_145, g_146, g_147, g_148, g_149, v_160, v_161, nw2_3, v_162, v_163, v_164, v_165, g_150, g_151, g_152, g_153, g_154, g_155, g_156, g_157, g_158, g_166, g_159))) else (
      let w_231 := F_Te_goesOn v_138 v_144
      let r_229 : Int32 := w_231
      if r_229 = 0 then (
        if v_144 = 0 then (
          ((1 : Int32), v_134, v_135, v_136, v_137, v_138, v_139, v_140, v_141, v_142, v_143, v_144, v_145, g_146, g_147, g_148, g_149, v_160, v_161, nw2_3, v_162, v_163, v_164, v_165, g_150, g_151, g_152, g_153, g_154, g_155, g_156, g_157, g_158, g_166, g_159)) else (
          ((0 : Int32), v_134, v_135, v_136, v_137, v_138, v_139, v_140, v_141, v_142, v_143, v_144, v_145, g_146, g_147, g_148, g_149, v_160, v_161, nw2_3, v_162, v_163, v_164, v_165, g_150, g_151, g_152, g_153, g_154, g_155, g_156, g_157, g_158, g_166, g_159))) else (
        let w_275 := F_Ho_readPart v_134 v_135 v_136 v_137 t_length v_138 v_139 v_140 v_141 v_142 v_143 v_144 v_145 c_tape g_146 g_147 g_148 g_149 v_160 v_161 v_162 v_163 v_164 v_165 g_150 g_151 g_152 g_153 g_154 g_155 g_156 g_157 g_158 g_166 g_159
        let r_273 : Int32 := w_275.1
        let nw0_240 : Int32 := w_275.2.1
        let nw1_241 : Int32 := w_275.2.2.1
        let nw2_242 : Int32 := w_275.2.2.2.1
        let nw3_243 : Int32 := w_275.2.2.2.2.1
        let nw4_244 : Int32 := w_275.2.2.2.2.2.1
        let nw5_245 : Int32 := w_275.2.2.2.2.2.2.1
        let nw6_246 : Int32 := w_275.2.2.2.2.2.2.2.1
        let nw7_247 : Int64 := w_275.2.2.2.2.2.2.2.2.1
        let nw8_248 : Int32 := w_275.2.2.2.2.2.2.2.2.2.1
        let nw9_249 : Nat → Int32 := w_275.2.2.2.2.2.2.2.2.2.2.1
        let nw10_250 : Int32 := w_275.2.2.2.2.2.2.2.2.2.2.2.1
        let nw11_251 : Int32 := w_275.2.2.2.2.2.2.2.2.2.2.2.2.1
        let nw12_252 : Int32 := w_275.2.2.2.2.2.2.2.2.2.2.2.2.2.1
        let nw13_253 : Nat → Int32 := w_275.2.2.2.2.2.2.2.2.2.2.2.2.2.2.1
        let nw14_254 : Nat → Int64 := w_275.2.2.2.2.2.2.2.2.2.2.2.2.2.2.2.1
        let nw15_255 : Int32 := w_275.2.2.2.2.2.2.2.2.2.2.2.2.2.2.2.2.1
        let nw16_256 : Nat → Int32 := w_275.2.2.2.2.2.2.2.2.2.2.2.2.2.2.2.2.2.1
        let nw17_257 : Nat → Int32 := w_275.2.2.2.2.2.2.2.2.2.2.2.2.2.2.2.2.2.2.1
        let nw18_258 : Int32 := w_275.2.2.2.2.2.2.2.2.2.2.2.2.2.2.2.2.2.2.2.1
        let nw19_259 : Nat → Int64 := w_275.2.2.2.2.2.2.2.2.2.2.2.2.2.2.2.2.2.2.2.2.1
        let nw20_260 : Int32 := w_275.2.2.2.2.2.2.2.2.2.2.2.2.2.2.2.2.2.2.2.2.2.1
        let nw21_261 : Nat → Int32 := w_275.2.2.2.2.2.2.2.2.2.2.2.2.2.2.2.2.2.2.2.2.2.2.1
        let nw22_262 : Nat → Int32 := w_275.2.2.2.2.2.2.2.2.2.2.2.2.2.2.2.2.2.2.2.2.2.2.2.1
        let nw23_263 : Nat → Int64 := w_275.2.2.2.2.2.2.2.2.2.2.2.2.2.2.2.2.2.2.2.2.2.2.2.2.1
        let nw24_264 : Int32 := w_275.2.2.2.2.2.2.2.2.2.2.2.2.2.2.2.2.2.2.2.2.2.2.2.2.2.1
        let nw25_265 : Nat → Int32 := w_275.2.2.2.2.2.2.2.2.2.2.2.2.2.2.2.2.2.2.2.2.2.2.2.2.2.2.1
        let nw26_266 : Int32 := w_275.2.2.2.2.2.2.2.2.2.2.2.2.2.2.2.2.2.2.2.2.2.2.2.2.2.2.2.1
        let nw27_267 : Nat → Int32 := w_275.2.2.2.2.2.2.2.2.2.2.2.2.2.2.2.2.2.2.2.2.2.2.2.2.2.2.2.2.1
        let nw28_268 : Nat → Int64 := w_275.2.2.2.2.2.2.2.2.2.2.2.2.2.2.2.2.2.2.2.2.2.2.2.2.2.2.2.2.2.1
        let nw29_269 : Int32 := w_275.2.2.2.2.2.2.2.2.2.2.2.2.2.2.2.2.2.2.2.2.2.2.2.2.2.2.2.2.2.2.1
        let nw30_270 : Nat → Int64 := w_275.2.2.2.2.2.2.2.2.2.2.2.2.2.2.2.2.2.2.2.2.2.2.2.2.2.2.2.2.2.2.2.1
        let nw31_271 : Nat → Int32 := w_275.2.2.2.2.2.2.2.2.2.2.2.2.2.2.2.2.2.2.2.2.2.2.2.2.2.2.2.2.2.2.2.2.1
        let nw32_272 : Nat → Int32 := w_275.2.2.2.2.2.2.2.2.2.2.2.2.2.2.2.2.2.2.2.2.2.2.2.2.2.2.2.2.2.2.2.2.2
        (F_Ho_readAll_L29a t_length c_tape nw2_3 n9) (v_133 + 1) nw18_258 nw26_266 nw12_252 nw10_250 nw2_242 nw3_243 nw4_244 nw5_245 nw6_246 nw7_247 nw0_240 nw1_241 nw28_268 nw23_263 nw19_259 nw14_254 nw30_270 nw31_271 nw32_272 nw27_267 nw25_265 nw21_261 nw22_262 nw16_256 nw17_257 nw9_249 nw29_269 nw24_264 nw20_260 nw15_255 nw11_251 nw8_248 nw13_253))) := rfl
noncomputable def F_Ho_readAll (t_length : Int32) (t_kind : Int32) (t_start : Int32) (t_end : Int32) (t_number : Int32) (t_sign : Int32) (t_letters : Int64) (t_fault : Int32) (t_faultPlace : Int32) (c_tape : Nat → Int32) (c_n_f : Nat → Int64) (c_n_k : Nat → Int64) (c_n_r : Nat → Int64) (c_n_d : Nat → Int64) (c_hf_featureNames : Nat → Int64) (c_hf_steps : Nat → Int32) (c_hf_turnedFeatures : Nat → Int32) (c_hf_sixteenths : Nat → Int32) (c_hf_keySteps : Nat → Int32) (c_hf_on : Nat → Int32) (c_hf_onMany : Nat → Int32) (c_hf_wanted : Nat → Int32) (c_hf_openers : Nat → Int32) (c_hf_seconds : Nat → Int32) (c_hf_roundDoors : Nat → Int32) : Int32 × Int32 × Int32 × Int32 × Int32 × Int32 × Int32 × Int32 × Int32 × Int32 × Int64 × Int32 × Int32 × (Nat → Int64) × (Nat → Int64) × (Nat → Int64) × (Nat → Int64) × Int32 × Int32 × Int32 × Int32 × Int32 × Int32 × Int32 × (Nat → Int64) × (Nat → Int32) × (Nat → Int32) × (Nat → Int32) × (Nat → Int32) × (Nat → Int32) × (Nat → Int32) × (Nat → Int32) × (Nat → Int32) × (Nat → Int32) × (Nat → Int32) :=
  let w_11 := F_Ho_clear c_hf_seconds
  let nw0_1 : Int32 := w_11.1
  let nw1_2 : Int32 := w_11.2.1
  let nw2_3 : Int32 := w_11.2.2.1
  let nw3_4 : Int32 := w_11.2.2.2.1
  let nw4_5 : Int32 := w_11.2.2.2.2.1
  let nw5_6 : Int32 := w_11.2.2.2.2.2.1
  let nw6_7 : Int32 := w_11.2.2.2.2.2.2.1
  let nw7_8 : Nat → Int32 := w_11.2.2.2.2.2.2.2
  F_Ho_readAll_L29a t_length c_tape nw2_3 ((2147483647 - (0 : Int32).toInt).toNat + 1) (0 : Int32) (0 : Int32) (0 : Int32) (0 : Int32) (0 : Int32) t_kind t_start t_end t_number t_sign t_letters t_fault t_faultPlace c_n_f c_n_k c_n_r c_n_d c_hf_featureNames c_hf_steps c_hf_turnedFeatures c_hf_sixteenths c_hf_keySteps c_hf_on c_hf_onMany c_hf_wanted c_hf_openers c_hf_roundDoors nw0_1 nw1_2 nw3_4 nw4_5 nw5_6 nw6_7 nw7_8
theorem F_Ho_readAll_s (t_length : Int32) (t_kind : Int32) (t_start : Int32) (t_end : Int32) (t_number : Int32) (t_sign : Int32) (t_letters : Int64) (t_fault : Int32) (t_faultPlace : Int32) (c_tape : Nat → Int32) (c_n_f : Nat → Int64) (c_n_k : Nat → Int64) (c_n_r : Nat → Int64) (c_n_d : Nat → Int64) (c_hf_featureNames : Nat → Int64) (c_hf_steps : Nat → Int32) (c_hf_turnedFeatures : Nat → Int32) (c_hf_sixteenths : Nat → Int32) (c_hf_keySteps : Nat → Int32) (c_hf_on : Nat → Int32) (c_hf_onMany : Nat → Int32) (c_hf_wanted : Nat → Int32) (c_hf_openers : Nat → Int32) (c_hf_seconds : Nat → Int32) (c_hf_roundDoors : Nat → Int32) : F_Ho_readAll t_length t_kind t_start t_end t_number t_sign t_letters t_fault t_faultPlace c_tape c_n_f c_n_k c_n_r c_n_d c_hf_featureNames c_hf_steps c_hf_turnedFeatures c_hf_sixteenths c_hf_keySteps c_hf_on c_hf_onMany c_hf_wanted c_hf_openers c_hf_seconds c_hf_roundDoors = (
  let w_11 := F_Ho_clear c_hf_seconds
  let nw0_1 : Int32 := w_11.1
  let nw1_2 : Int32 := w_11.2.1
  let nw2_3 : Int32 := w_11.2.2.1
  let nw3_4 : Int32 := w_11.2.2.2.1
  let nw4_5 : Int32 := w_11.2.2.2.2.1
  let nw5_6 : Int32 := w_11.2.2.2.2.2.1
  let nw6_7 : Int32 := w_11.2.2.2.2.2.2.1
  let nw7_8 : Nat → Int32 := w_11.2.2.2.2.2.2.2
  F_Ho_readAll_L29a t_length c_tape nw2_3 ((2147483647 - (0 : Int32).toInt).toNat + 1) (0 : Int32) (0 : Int32) (0 : Int32) (0 : Int32) (0 : Int32) t_kind t_start t_end t_number t_sign t_letters t_fault t_faultPlace c_n_f c_n_k c_n_r c_n_d c_hf_featureNames c_hf_steps c_hf_turnedFeatures c_hf_sixteenths c_hf_keySteps c_hf_on c_hf_onMany c_hf_wanted c_hf_openers c_hf_roundDoors nw0_1 nw1_2 nw3_4 nw4_5 nw5_6 nw6_7 nw7_8) := rfl
noncomputable def F_Da_refused (k : Int32) : Int32 :=
  k
theorem F_Da_refused_s (k : Int32) : F_Da_refused k = (
  k) := rfl
noncomputable def F_Da_done : Int32 :=
  (0 : Int32)
theorem F_Da_done_s : F_Da_done = (
  (0 : Int32)) := rfl
noncomputable def F_Da_none (k : Int32) : Int32 :=
  k
theorem F_Da_none_s (k : Int32) : F_Da_none k = (
  k) := rfl
noncomputable def F_Da_told : Int32 :=
  (0 : Int32)
theorem F_Da_told_s : F_Da_told = (
  (0 : Int32)) := rfl
noncomputable def F_X_feed (t_fed : Int32) (c_tape : Nat → Int32) (k1 : Int32) (k2 : Int32) (k3 : Int32) (k4 : Int32) (k5 : Int32) : Int32 × Int32 × (Nat → Int32) :=
  let w_3 := F_Te_hasRoom t_fed 20
  let r_1 : Int32 := w_3
  if r_1 = 0 then (
    ((-1 : Int32), t_fed, c_tape)) else (
    let w_10 := F_Te_append t_fed c_tape k1
    let nw0_6 : Int32 := w_10.1
    let nw1_7 : Nat → Int32 := w_10.2
    let w_15 := F_Te_append nw0_6 nw1_7 k2
    let nw0_11 : Int32 := w_15.1
    let nw1_12 : Nat → Int32 := w_15.2
    let w_20 := F_Te_append nw0_11 nw1_12 k3
    let nw0_16 : Int32 := w_20.1
    let nw1_17 : Nat → Int32 := w_20.2
    let w_25 := F_Te_append nw0_16 nw1_17 k4
    let nw0_21 : Int32 := w_25.1
    let nw1_22 : Nat → Int32 := w_25.2
    let w_30 := F_Te_append nw0_21 nw1_22 k5
    let nw0_26 : Int32 := w_30.1
    let nw1_27 : Nat → Int32 := w_30.2
    (nw0_26, nw0_26, nw1_27))
theorem F_X_feed_s (t_fed : Int32) (c_tape : Nat → Int32) (k1 : Int32) (k2 : Int32) (k3 : Int32) (k4 : Int32) (k5 : Int32) : F_X_feed t_fed c_tape k1 k2 k3 k4 k5 = (
  let w_3 := F_Te_hasRoom t_fed 20
  let r_1 : Int32 := w_3
  if r_1 = 0 then (
    ((-1 : Int32), t_fed, c_tape)) else (
    let w_10 := F_Te_append t_fed c_tape k1
    let nw0_6 : Int32 := w_10.1
    let nw1_7 : Nat → Int32 := w_10.2
    let w_15 := F_Te_append nw0_6 nw1_7 k2
    let nw0_11 : Int32 := w_15.1
    let nw1_12 : Nat → Int32 := w_15.2
    let w_20 := F_Te_append nw0_11 nw1_12 k3
    let nw0_16 : Int32 := w_20.1
    let nw1_17 : Nat → Int32 := w_20.2
    let w_25 := F_Te_append nw0_16 nw1_17 k4
    let nw0_21 : Int32 := w_25.1
    let nw1_22 : Nat → Int32 := w_25.2
    let w_30 := F_Te_append nw0_21 nw1_22 k5
    let nw0_26 : Int32 := w_30.1
    let nw1_27 : Nat → Int32 := w_30.2
    (nw0_26, nw0_26, nw1_27))) := rfl
noncomputable def F_X_fault (t_fault : Int32) (t_faultPlace : Int32) (k1 : Int32) : Int32 :=
  if k1 = 0 then (
    t_fault) else (
    if k1 = 1 then (
      t_faultPlace) else (
      (-1 : Int32)))
theorem F_X_fault_s (t_fault : Int32) (t_faultPlace : Int32) (k1 : Int32) : F_X_fault t_fault t_faultPlace k1 = (
  if k1 = 0 then (
    t_fault) else (
    if k1 = 1 then (
      t_faultPlace) else (
      (-1 : Int32)))) := rfl
noncomputable def F_X_feature (h_features : Int32) (c_h_steps : Nat → Int32) (c_h_turnedFeatures : Nat → Int32) (k1 : Int32) (k2 : Int32) : Int32 × Int32 :=
  let w_3 := F_H_hasFeature h_features k1
  let r_1 : Int32 := w_3
  if r_1 = 0 then (
    let w_45 := F_Da_none 2
    let nw0_42 : Int32 := w_45
    ((-1 : Int32), nw0_42)) else (
    if k2 = 0 then (
      let w_35 := F_H_stepsOf h_features c_h_steps k1
      let r_33 : Int32 := w_35
      let w_39 := F_Da_told
      let nw0_36 : Int32 := w_39
      (r_33, nw0_36)) else (
      if k2 = 1 then (
        let w_18 := F_H_isTurned h_features c_h_turnedFeatures k1
        let r_16 : Int32 := w_18
        if r_16 = 0 then (
          let w_24 := F_Da_told
          let nw0_21 : Int32 := w_24
          ((0 : Int32), nw0_21)) else (
          let w_30 := F_Da_told
          let nw0_27 : Int32 := w_30
          ((1 : Int32), nw0_27))) else (
        let w_13 := F_Da_none 5
        let nw0_10 : Int32 := w_13
        ((-1 : Int32), nw0_10))))
theorem F_X_feature_s (h_features : Int32) (c_h_steps : Nat → Int32) (c_h_turnedFeatures : Nat → Int32) (k1 : Int32) (k2 : Int32) : F_X_feature h_features c_h_steps c_h_turnedFeatures k1 k2 = (
  let w_3 := F_H_hasFeature h_features k1
  let r_1 : Int32 := w_3
  if r_1 = 0 then (
    let w_45 := F_Da_none 2
    let nw0_42 : Int32 := w_45
    ((-1 : Int32), nw0_42)) else (
    if k2 = 0 then (
      let w_35 := F_H_stepsOf h_features c_h_steps k1
      let r_33 : Int32 := w_35
      let w_39 := F_Da_told
      let nw0_36 : Int32 := w_39
      (r_33, nw0_36)) else (
      if k2 = 1 then (
        let w_18 := F_H_isTurned h_features c_h_turnedFeatures k1
        let r_16 : Int32 := w_18
        if r_16 = 0 then (
          let w_24 := F_Da_told
          let nw0_21 : Int32 := w_24
          ((0 : Int32), nw0_21)) else (
          let w_30 := F_Da_told
          let nw0_27 : Int32 := w_30
          ((1 : Int32), nw0_27))) else (
        let w_13 := F_Da_none 5
        let nw0_10 : Int32 := w_13
        ((-1 : Int32), nw0_10))))) := rfl
noncomputable def F_X_feels (h_features : Int32) (c_h_steps : Nat → Int32) (c_h_sixteenths : Nat → Int32) (k1 : Int32) (k2 : Int32) (k3 : Int32) : Int32 × Int32 :=
  let w_3 := F_H_hasStep h_features c_h_steps k1 k2
  let r_1 : Int32 := w_3
  if r_1 = 0 then (
    let w_9 := F_Da_none 2
    let nw0_6 : Int32 := w_9
    ((-1 : Int32), nw0_6)) else (
    let w_14 := F_H_hasStep h_features c_h_steps k1 k3
    let r_12 : Int32 := w_14
    if r_12 = 0 then (
      let w_29 := F_Da_none 2
      let nw0_26 : Int32 := w_29
      ((-1 : Int32), nw0_26)) else (
      let w_19 := F_H_feltAs c_h_sixteenths k1 k2 k3
      let r_17 : Int32 := w_19
      let w_23 := F_Da_told
      let nw0_20 : Int32 := w_23
      (r_17, nw0_20)))
theorem F_X_feels_s (h_features : Int32) (c_h_steps : Nat → Int32) (c_h_sixteenths : Nat → Int32) (k1 : Int32) (k2 : Int32) (k3 : Int32) : F_X_feels h_features c_h_steps c_h_sixteenths k1 k2 k3 = (
  let w_3 := F_H_hasStep h_features c_h_steps k1 k2
  let r_1 : Int32 := w_3
  if r_1 = 0 then (
    let w_9 := F_Da_none 2
    let nw0_6 : Int32 := w_9
    ((-1 : Int32), nw0_6)) else (
    let w_14 := F_H_hasStep h_features c_h_steps k1 k3
    let r_12 : Int32 := w_14
    if r_12 = 0 then (
      let w_29 := F_Da_none 2
      let nw0_26 : Int32 := w_29
      ((-1 : Int32), nw0_26)) else (
      let w_19 := F_H_feltAs c_h_sixteenths k1 k2 k3
      let r_17 : Int32 := w_19
      let w_23 := F_Da_told
      let nw0_20 : Int32 := w_23
      (r_17, nw0_20)))) := rfl
noncomputable def F_X_stepOf (h_features : Int32) (h_keys : Int32) (c_h_steps : Nat → Int32) (c_h_turnedFeatures : Nat → Int32) (c_h_keySteps : Nat → Int32) (k1 : Int32) (k2 : Int32) : Int32 × Int32 :=
  let w_3 := F_H_hasKey h_keys k1
  let r_1 : Int32 := w_3
  if r_1 = 0 then (
    let w_9 := F_Da_none 2
    let nw0_6 : Int32 := w_9
    ((-1 : Int32), nw0_6)) else (
    let w_14 := F_H_hasFeature h_features k2
    let r_12 : Int32 := w_14
    if r_12 = 0 then (
      let w_29 := F_Da_none 2
      let nw0_26 : Int32 := w_29
      ((-1 : Int32), nw0_26)) else (
      let w_19 := F_H_stepAt h_features h_keys c_h_steps c_h_turnedFeatures c_h_keySteps k1 k2 0
      let r_17 : Int32 := w_19
      let w_23 := F_Da_told
      let nw0_20 : Int32 := w_23
      (r_17, nw0_20)))
theorem F_X_stepOf_s (h_features : Int32) (h_keys : Int32) (c_h_steps : Nat → Int32) (c_h_turnedFeatures : Nat → Int32) (c_h_keySteps : Nat → Int32) (k1 : Int32) (k2 : Int32) : F_X_stepOf h_features h_keys c_h_steps c_h_turnedFeatures c_h_keySteps k1 k2 = (
  let w_3 := F_H_hasKey h_keys k1
  let r_1 : Int32 := w_3
  if r_1 = 0 then (
    let w_9 := F_Da_none 2
    let nw0_6 : Int32 := w_9
    ((-1 : Int32), nw0_6)) else (
    let w_14 := F_H_hasFeature h_features k2
    let r_12 : Int32 := w_14
    if r_12 = 0 then (
      let w_29 := F_Da_none 2
      let nw0_26 : Int32 := w_29
      ((-1 : Int32), nw0_26)) else (
      let w_19 := F_H_stepAt h_features h_keys c_h_steps c_h_turnedFeatures c_h_keySteps k1 k2 0
      let r_17 : Int32 := w_19
      let w_23 := F_Da_told
      let nw0_20 : Int32 := w_23
      (r_17, nw0_20)))) := rfl
noncomputable def F_X_door (h_doors : Int32) (c_h_wanted : Nat → Int32) (c_h_openers : Nat → Int32) (k1 : Int32) (k2 : Int32) : Int32 × Int32 :=
  let w_3 := F_H_hasDoor h_doors k1
  let r_1 : Int32 := w_3
  if r_1 = 0 then (
    let w_37 := F_Da_none 2
    let nw0_34 : Int32 := w_37
    ((-1 : Int32), nw0_34)) else (
    if k2 = 0 then (
      let w_27 := F_H_wantedOf h_doors c_h_wanted k1
      let r_25 : Int32 := w_27
      let w_31 := F_Da_told
      let nw0_28 : Int32 := w_31
      (r_25, nw0_28)) else (
      if k2 = 1 then (
        let w_18 := F_H_openersOf h_doors c_h_openers k1
        let r_16 : Int32 := w_18
        let w_22 := F_Da_told
        let nw0_19 : Int32 := w_22
        (r_16, nw0_19)) else (
        let w_13 := F_Da_none 5
        let nw0_10 : Int32 := w_13
        ((-1 : Int32), nw0_10))))
theorem F_X_door_s (h_doors : Int32) (c_h_wanted : Nat → Int32) (c_h_openers : Nat → Int32) (k1 : Int32) (k2 : Int32) : F_X_door h_doors c_h_wanted c_h_openers k1 k2 = (
  let w_3 := F_H_hasDoor h_doors k1
  let r_1 : Int32 := w_3
  if r_1 = 0 then (
    let w_37 := F_Da_none 2
    let nw0_34 : Int32 := w_37
    ((-1 : Int32), nw0_34)) else (
    if k2 = 0 then (
      let w_27 := F_H_wantedOf h_doors c_h_wanted k1
      let r_25 : Int32 := w_27
      let w_31 := F_Da_told
      let nw0_28 : Int32 := w_31
      (r_25, nw0_28)) else (
      if k2 = 1 then (
        let w_18 := F_H_openersOf h_doors c_h_openers k1
        let r_16 : Int32 := w_18
        let w_22 := F_Da_told
        let nw0_19 : Int32 := w_22
        (r_16, nw0_19)) else (
        let w_13 := F_Da_none 5
        let nw0_10 : Int32 := w_13
        ((-1 : Int32), nw0_10))))) := rfl
noncomputable def F_X_round (h_roundMany : Int32) (c_h_roundDoors : Nat → Int32) (k1 : Int32) : Int32 × Int32 :=
  if k1 < 0 then (
    let w_6 := F_Da_none 8
    let nw0_3 : Int32 := w_6
    ((-1 : Int32), nw0_3)) else (
    if k1 < h_roundMany then (
      let w_13 := F_at_12 c_h_roundDoors k1
      let r_11 : Int32 := w_13
      let w_17 := F_Da_told
      let nw0_14 : Int32 := w_17
      (r_11, nw0_14)) else (
      let w_23 := F_Da_none 8
      let nw0_20 : Int32 := w_23
      ((-1 : Int32), nw0_20)))
theorem F_X_round_s (h_roundMany : Int32) (c_h_roundDoors : Nat → Int32) (k1 : Int32) : F_X_round h_roundMany c_h_roundDoors k1 = (
  if k1 < 0 then (
    let w_6 := F_Da_none 8
    let nw0_3 : Int32 := w_6
    ((-1 : Int32), nw0_3)) else (
    if k1 < h_roundMany then (
      let w_13 := F_at_12 c_h_roundDoors k1
      let r_11 : Int32 := w_13
      let w_17 := F_Da_told
      let nw0_14 : Int32 := w_17
      (r_11, nw0_14)) else (
      let w_23 := F_Da_none 8
      let nw0_20 : Int32 := w_23
      ((-1 : Int32), nw0_20)))) := rfl
noncomputable def F_X_lend (h_keys : Int32) (h_lent : Int32) (h_rings : Int32) (c_h_on : Nat → Int32) (c_h_onMany : Nat → Int32) (o_held : Int32) (k1 : Int32) (k2 : Int32) : Int32 × Int32 × Int32 × Int32 :=
  let w_3 := F_H_hasKey h_keys k1
  let r_1 : Int32 := w_3
  if r_1 = 0 then (
    let w_26 := F_Da_refused 2
    let nw0_23 : Int32 := w_26
    ((0 : Int32), nw0_23, h_lent, o_held)) else (
    let w_9 := F_H_setLent h_keys h_lent k1 k2
    let nw0_6 : Int32 := w_9
    let w_12 := F_H_ringOf h_rings c_h_on c_h_onMany k1
    let r_10 : Int32 := w_12
    let w_16 := F_Th_letGoOf o_held r_10
    let nw0_13 : Int32 := w_16
    let w_20 := F_Da_done
    let nw0_17 : Int32 := w_20
    ((1 : Int32), nw0_17, nw0_6, nw0_13))
theorem F_X_lend_s (h_keys : Int32) (h_lent : Int32) (h_rings : Int32) (c_h_on : Nat → Int32) (c_h_onMany : Nat → Int32) (o_held : Int32) (k1 : Int32) (k2 : Int32) : F_X_lend h_keys h_lent h_rings c_h_on c_h_onMany o_held k1 k2 = (
  let w_3 := F_H_hasKey h_keys k1
  let r_1 : Int32 := w_3
  if r_1 = 0 then (
    let w_26 := F_Da_refused 2
    let nw0_23 : Int32 := w_26
    ((0 : Int32), nw0_23, h_lent, o_held)) else (
    let w_9 := F_H_setLent h_keys h_lent k1 k2
    let nw0_6 : Int32 := w_9
    let w_12 := F_H_ringOf h_rings c_h_on c_h_onMany k1
    let r_10 : Int32 := w_12
    let w_16 := F_Th_letGoOf o_held r_10
    let nw0_13 : Int32 := w_16
    let w_20 := F_Da_done
    let nw0_17 : Int32 := w_20
    ((1 : Int32), nw0_17, nw0_6, nw0_13))) := rfl
noncomputable def F_X_put (h_keys : Int32) (h_rings : Int32) (c_h_on : Nat → Int32) (c_h_onMany : Nat → Int32) (o_held : Int32) (k1 : Int32) (k2 : Int32) (k3 : Int32) : Int32 × Int32 × (Nat → Int32) × (Nat → Int32) × Int32 :=
  let w_3 := F_H_hasKey h_keys k1
  let r_1 : Int32 := w_3
  if r_1 = 0 then (
    let w_9 := F_Da_refused 2
    let nw0_6 : Int32 := w_9
    ((0 : Int32), nw0_6, c_h_on, c_h_onMany, o_held)) else (
    let w_14 := F_H_hasRing h_rings k2
    let r_12 : Int32 := w_14
    if r_12 = 0 then (
      let w_65 := F_Da_refused 2
      let nw0_62 : Int32 := w_65
      ((0 : Int32), nw0_62, c_h_on, c_h_onMany, o_held)) else (
      if k3 < 0 then (
        let w_22 := F_Da_refused 5
        let nw0_19 : Int32 := w_22
        ((0 : Int32), nw0_19, c_h_on, c_h_onMany, o_held)) else (
        let w_27 := F_H_manyOn h_rings c_h_onMany k2
        let r_25 : Int32 := w_27
        if k3 ≤ r_25 then (
          let w_32 := F_H_ringOf h_rings c_h_on c_h_onMany k1
          let r_30 : Int32 := w_32
          if r_30 = (-1) then (
            let w_39 := F_H_putOn h_rings c_h_on c_h_onMany k1 k2 k3
            let nw0_35 : Nat → Int32 := w_39.1
            let nw1_36 : Nat → Int32 := w_39.2
            let w_43 := F_Th_letGoOf o_held k2
            let nw0_40 : Int32 := w_43
            let w_47 := F_Da_done
            let nw0_44 : Int32 := w_47
            ((1 : Int32), nw0_44, nw0_35, nw1_36, nw0_40)) else (
            let w_53 := F_Da_refused 9
            let nw0_50 : Int32 := w_53
            ((0 : Int32), nw0_50, c_h_on, c_h_onMany, o_held))) else (
          let w_59 := F_Da_refused 5
          let nw0_56 : Int32 := w_59
          ((0 : Int32), nw0_56, c_h_on, c_h_onMany, o_held)))))
theorem F_X_put_s (h_keys : Int32) (h_rings : Int32) (c_h_on : Nat → Int32) (c_h_onMany : Nat → Int32) (o_held : Int32) (k1 : Int32) (k2 : Int32) (k3 : Int32) : F_X_put h_keys h_rings c_h_on c_h_onMany o_held k1 k2 k3 = (
  let w_3 := F_H_hasKey h_keys k1
  let r_1 : Int32 := w_3
  if r_1 = 0 then (
    let w_9 := F_Da_refused 2
    let nw0_6 : Int32 := w_9
    ((0 : Int32), nw0_6, c_h_on, c_h_onMany, o_held)) else (
    let w_14 := F_H_hasRing h_rings k2
    let r_12 : Int32 := w_14
    if r_12 = 0 then (
      let w_65 := F_Da_refused 2
      let nw0_62 : Int32 := w_65
      ((0 : Int32), nw0_62, c_h_on, c_h_onMany, o_held)) else (
      if k3 < 0 then (
        let w_22 := F_Da_refused 5
        let nw0_19 : Int32 := w_22
        ((0 : Int32), nw0_19, c_h_on, c_h_onMany, o_held)) else (
        let w_27 := F_H_manyOn h_rings c_h_onMany k2
        let r_25 : Int32 := w_27
        if k3 ≤ r_25 then (
          let w_32 := F_H_ringOf h_rings c_h_on c_h_onMany k1
          let r_30 : Int32 := w_32
          if r_30 = (-1) then (
            let w_39 := F_H_putOn h_rings c_h_on c_h_onMany k1 k2 k3
            let nw0_35 : Nat → Int32 := w_39.1
            let nw1_36 : Nat → Int32 := w_39.2
            let w_43 := F_Th_letGoOf o_held k2
            let nw0_40 : Int32 := w_43
            let w_47 := F_Da_done
            let nw0_44 : Int32 := w_47
            ((1 : Int32), nw0_44, nw0_35, nw1_36, nw0_40)) else (
            let w_53 := F_Da_refused 9
            let nw0_50 : Int32 := w_53
            ((0 : Int32), nw0_50, c_h_on, c_h_onMany, o_held))) else (
          let w_59 := F_Da_refused 5
          let nw0_56 : Int32 := w_59
          ((0 : Int32), nw0_56, c_h_on, c_h_onMany, o_held)))))) := rfl
noncomputable def F_X_off (h_keys : Int32) (h_rings : Int32) (c_h_on : Nat → Int32) (c_h_onMany : Nat → Int32) (o_held : Int32) (k1 : Int32) : Int32 × Int32 × (Nat → Int32) × (Nat → Int32) × Int32 :=
  let w_3 := F_H_hasKey h_keys k1
  let r_1 : Int32 := w_3
  if r_1 = 0 then (
    let w_35 := F_Da_refused 2
    let nw0_32 : Int32 := w_35
    ((0 : Int32), nw0_32, c_h_on, c_h_onMany, o_held)) else (
    let w_8 := F_H_ringOf h_rings c_h_on c_h_onMany k1
    let r_6 : Int32 := w_8
    if r_6 = (-1) then (
      let w_29 := F_Da_refused 8
      let nw0_26 : Int32 := w_29
      ((0 : Int32), nw0_26, c_h_on, c_h_onMany, o_held)) else (
      let w_15 := F_H_takeOff h_rings c_h_on c_h_onMany k1 r_6
      let nw0_11 : Nat → Int32 := w_15.1
      let nw1_12 : Nat → Int32 := w_15.2
      let w_19 := F_Th_letGoOf o_held r_6
      let nw0_16 : Int32 := w_19
      let w_23 := F_Da_done
      let nw0_20 : Int32 := w_23
      ((1 : Int32), nw0_20, nw0_11, nw1_12, nw0_16)))
theorem F_X_off_s (h_keys : Int32) (h_rings : Int32) (c_h_on : Nat → Int32) (c_h_onMany : Nat → Int32) (o_held : Int32) (k1 : Int32) : F_X_off h_keys h_rings c_h_on c_h_onMany o_held k1 = (
  let w_3 := F_H_hasKey h_keys k1
  let r_1 : Int32 := w_3
  if r_1 = 0 then (
    let w_35 := F_Da_refused 2
    let nw0_32 : Int32 := w_35
    ((0 : Int32), nw0_32, c_h_on, c_h_onMany, o_held)) else (
    let w_8 := F_H_ringOf h_rings c_h_on c_h_onMany k1
    let r_6 : Int32 := w_8
    if r_6 = (-1) then (
      let w_29 := F_Da_refused 8
      let nw0_26 : Int32 := w_29
      ((0 : Int32), nw0_26, c_h_on, c_h_onMany, o_held)) else (
      let w_15 := F_H_takeOff h_rings c_h_on c_h_onMany k1 r_6
      let nw0_11 : Nat → Int32 := w_15.1
      let nw1_12 : Nat → Int32 := w_15.2
      let w_19 := F_Th_letGoOf o_held r_6
      let nw0_16 : Int32 := w_19
      let w_23 := F_Da_done
      let nw0_20 : Int32 := w_23
      ((1 : Int32), nw0_20, nw0_11, nw1_12, nw0_16)))) := rfl
noncomputable def F_X_take (h_keys : Int32) (h_lent : Int32) (h_rings : Int32) (c_h_on : Nat → Int32) (c_h_onMany : Nat → Int32) (k1 : Int32) : Int32 :=
  let w_3 := F_H_hasRing h_rings k1
  let r_1 : Int32 := w_3
  if r_1 = 0 then (
    let w_33 := F_Da_refused 2
    let nw0_30 : Int32 := w_33
    (0 : Int32)) else (
    let w_8 := F_H_manyThere h_keys h_lent h_rings c_h_on c_h_onMany k1
    let r_6 : Int32 := w_8
    if r_6 = 0 then (
      let w_27 := F_Da_refused 8
      let nw0_24 : Int32 := w_27
      (0 : Int32)) else (
      let w_21 := F_Da_done
      let nw0_18 : Int32 := w_21
      (1 : Int32)))
theorem F_X_take_s (h_keys : Int32) (h_lent : Int32) (h_rings : Int32) (c_h_on : Nat → Int32) (c_h_onMany : Nat → Int32) (k1 : Int32) : F_X_take h_keys h_lent h_rings c_h_on c_h_onMany k1 = (
  let w_3 := F_H_hasRing h_rings k1
  let r_1 : Int32 := w_3
  if r_1 = 0 then (
    let w_33 := F_Da_refused 2
    let nw0_30 : Int32 := w_33
    (0 : Int32)) else (
    let w_8 := F_H_manyThere h_keys h_lent h_rings c_h_on c_h_onMany k1
    let r_6 : Int32 := w_8
    if r_6 = 0 then (
      let w_27 := F_Da_refused 8
      let nw0_24 : Int32 := w_27
      (0 : Int32)) else (
      let w_21 := F_Da_done
      let nw0_18 : Int32 := w_21
      (1 : Int32)))) := rfl
noncomputable def F_X_rule (h_features : Int32) (c_h_featureNames : Nat → Int64) (r_lines : Int32) (r_steps : Int32) (r_asksSure : Int32) (c_r_kinds : Nat → Int32) (c_r_features : Nat → Int32) (c_r_compares : Nat → Int32) (c_r_numbers : Nat → Int32) (c_r_partners : Nat → Int32) (t_fed : Int32) (t_length : Int32) (t_kind : Int32) (t_start : Int32) (t_end : Int32) (t_number : Int32) (t_sign : Int32) (t_letters : Int64) (t_fault : Int32) (t_faultPlace : Int32) (c_tape : Nat → Int32) (rr_depth : Int32) (c_rr_b : Nat → Int32) (rf_lines : Int32) (rf_steps : Int32) (rf_asksSure : Int32) (c_rf_kinds : Nat → Int32) (c_rf_features : Nat → Int32) (c_rf_compares : Nat → Int32) (c_rf_numbers : Nat → Int32) (c_rf_partners : Nat → Int32) (k1 : Int32) : Int32 × Int32 × Int32 × Int32 × Int32 × (Nat → Int32) × (Nat → Int32) × (Nat → Int32) × (Nat → Int32) × (Nat → Int32) × Int32 × Int32 × Int32 × Int32 × Int32 × Int32 × Int32 × Int64 × Int32 × Int32 × Int32 × (Nat → Int32) × Int32 × Int32 × Int32 × (Nat → Int32) × (Nat → Int32) × (Nat → Int32) × (Nat → Int32) × (Nat → Int32) :=
  if k1 < 0 then (
    let w_6 := F_Da_none 5
    let nw0_3 : Int32 := w_6
    ((-1 : Int32), nw0_3, r_lines, r_steps, r_asksSure, c_r_kinds, c_r_features, c_r_compares, c_r_numbers, c_r_partners, t_fed, t_length, t_kind, t_start, t_end, t_number, t_sign, t_letters, t_fault, t_faultPlace, rr_depth, c_rr_b, rf_lines, rf_steps, rf_asksSure, c_rf_kinds, c_rf_features, c_rf_compares, c_rf_numbers, c_rf_partners)) else (
    if t_fed < k1 then (
      let w_14 := F_Da_none 5
      let nw0_11 : Int32 := w_14
      ((-1 : Int32), nw0_11, r_lines, r_steps, r_asksSure, c_r_kinds, c_r_features, c_r_compares, c_r_numbers, c_r_partners, t_fed, t_length, t_kind, t_start, t_end, t_number, t_sign, t_letters, t_fault, t_faultPlace, rr_depth, c_rr_b, rf_lines, rf_steps, rf_asksSure, c_rf_kinds, c_rf_features, c_rf_compares, c_rf_numbers, c_rf_partners)) else (
      if k1 ≤ 300 then (
        let w_31 := F_Te_begin t_number t_sign t_letters c_tape k1
        let nw0_19 : Int32 := w_31.1
        let nw1_20 : Int32 := w_31.2.1
        let nw2_21 : Int32 := w_31.2.2.1
        let nw3_22 : Int32 := w_31.2.2.2.1
        let nw4_23 : Int32 := w_31.2.2.2.2.1
        let nw5_24 : Int32 := w_31.2.2.2.2.2.1
        let nw6_25 : Int32 := w_31.2.2.2.2.2.2.1
        let nw7_26 : Int64 := w_31.2.2.2.2.2.2.2.1
        let nw8_27 : Int32 := w_31.2.2.2.2.2.2.2.2.1
        let nw9_28 : Int32 := w_31.2.2.2.2.2.2.2.2.2
        let w_52 := F_Ru_readAll h_features c_h_featureNames nw1_20 nw2_21 nw3_22 nw4_23 nw5_24 nw6_25 nw7_26 nw8_27 nw9_28 c_tape c_rr_b c_rf_kinds c_rf_features c_rf_compares c_rf_numbers c_rf_partners
        let r_50 : Int32 := w_52.1
        let nw0_32 : Int32 := w_52.2.1
        let nw1_33 : Int32 := w_52.2.2.1
        let nw2_34 : Int32 := w_52.2.2.2.1
        let nw3_35 : Int32 := w_52.2.2.2.2.1
        let nw4_36 : Int32 := w_52.2.2.2.2.2.1
        let nw5_37 : Int32 := w_52.2.2.2.2.2.2.1
        let nw6_38 : Int64 := w_52.2.2.2.2.2.2.2.1
        let nw7_39 : Int32 := w_52.2.2.2.2.2.2.2.2.1
        let nw8_40 : Int32 := w_52.2.2.2.2.2.2.2.2.2.1
        let nw9_41 : Nat → Int32 := w_52.2.2.2.2.2.2.2.2.2.2.1
        let nw10_42 : Int32 := w_52.2.2.2.2.2.2.2.2.2.2.2.1
        let nw11_43 : Int32 := w_52.2.2.2.2.2.2.2.2.2.2.2.2.1
        let nw12_44 : Int32 := w_52.2.2.2.2.2.2.2.2.2.2.2.2.2.1
        let nw13_45 : Nat → Int32 := w_52.2.2.2.2.2.2.2.2.2.2.2.2.2.2.1
        let nw14_46 : Nat → Int32 := w_52.2.2.2.2.2.2.2.2.2.2.2.2.2.2.2.1
        let nw15_47 : Nat → Int32 := w_52.2.2.2.2.2.2.2.2.2.2.2.2.2.2.2.2.1
        let nw16_48 : Nat → Int32 := w_52.2.2.2.2.2.2.2.2.2.2.2.2.2.2.2.2.2.1
        let nw17_49 : Nat → Int32 := w_52.2.2.2.2.2.2.2.2.2.2.2.2.2.2.2.2.2.2
        if r_50 = 0 then (
          let w_75 := F_Da_none 10
          let nw0_72 : Int32 := w_75
          ((-1 : Int32), nw0_72, r_lines, r_steps, r_asksSure, c_r_kinds, c_r_features, c_r_compares, c_r_numbers, c_r_partners, nw0_19, nw1_20, nw1_33, nw2_34, nw3_35, nw4_36, nw5_37, nw6_38, nw7_39, nw8_40, nw0_32, nw9_41, nw10_42, nw11_43, nw12_44, nw13_45, nw14_46, nw15_47, nw16_48, nw17_49)) else (
          let w_65 := F_Ru_copy c_r_kinds c_r_features c_r_compares c_r_numbers c_r_partners nw10_42 nw11_43 nw12_44 nw13_45 nw14_46 nw15_47 nw16_48 nw17_49
          let nw0_55 : Int32 := w_65.1
          let nw1_56 : Int32 := w_65.2.1
          let nw2_57 : Int32 := w_65.2.2.1
          let nw3_58 : Nat → Int32 := w_65.2.2.2.1
          let nw4_59 : Nat → Int32 := w_65.2.2.2.2.1
          let nw5_60 : Nat → Int32 := w_65.2.2.2.2.2.1
          let nw6_61 : Nat → Int32 := w_65.2.2.2.2.2.2.1
          let nw7_62 : Nat → Int32 := w_65.2.2.2.2.2.2.2
          let w_69 := F_Da_told
          let nw0_66 : Int32 := w_69
          (nw1_56, nw0_66, nw0_55, nw1_56, nw2_57, nw3_58, nw4_59, nw5_60, nw6_61, nw7_62, nw0_19, nw1_20, nw1_33, nw2_34, nw3_35, nw4_36, nw5_37, nw6_38, nw7_39, nw8_40, nw0_32, nw9_41, nw10_42, nw11_43, nw12_44, nw13_45, nw14_46, nw15_47, nw16_48, nw17_49))) else (
        let w_81 := F_Da_none 5
        let nw0_78 : Int32 := w_81
        ((-1 : Int32), nw0_78, r_lines, r_steps, r_asksSure, c_r_kinds, c_r_features, c_r_compares, c_r_numbers, c_r_partners, t_fed, t_length, t_kind, t_start, t_end, t_number, t_sign, t_letters, t_fault, t_faultPlace, rr_depth, c_rr_b, rf_lines, rf_steps, rf_asksSure, c_rf_kinds, c_rf_features, c_rf_compares, c_rf_numbers, c_rf_partners))))
theorem F_X_rule_s (h_features : Int32) (c_h_featureNames : Nat → Int64) (r_lines : Int32) (r_steps : Int32) (r_asksSure : Int32) (c_r_kinds : Nat → Int32) (c_r_features : Nat → Int32) (c_r_compares : Nat → Int32) (c_r_numbers : Nat → Int32) (c_r_partners : Nat → Int32) (t_fed : Int32) (t_length : Int32) (t_kind : Int32) (t_start : Int32) (t_end : Int32) (t_number : Int32) (t_sign : Int32) (t_letters : Int64) (t_fault : Int32) (t_faultPlace : Int32) (c_tape : Nat → Int32) (rr_depth : Int32) (c_rr_b : Nat → Int32) (rf_lines : Int32) (rf_steps : Int32) (rf_asksSure : Int32) (c_rf_kinds : Nat → Int32) (c_rf_features : Nat → Int32) (c_rf_compares : Nat → Int32) (c_rf_numbers : Nat → Int32) (c_rf_partners : Nat → Int32) (k1 : Int32) : F_X_rule h_features c_h_featureNames r_lines r_steps r_asksSure c_r_kinds c_r_features c_r_compares c_r_numbers c_r_partners t_fed t_length t_kind t_start t_end t_number t_sign t_letters t_fault t_faultPlace c_tape rr_depth c_rr_b rf_lines rf_steps rf_asksSure c_rf_kinds c_rf_features c_rf_compares c_rf_numbers c_rf_partners k1 = (
  if k1 < 0 then (
    let w_6 := F_Da_none 5
    let nw0_3 : Int32 := w_6
    ((-1 : Int32), nw0_3, r_lines, r_steps, r_asksSure, c_r_kinds, c_r_features, c_r_compares, c_r_numbers, c_r_partners, t_fed, t_length, t_kind, t_start, t_end, t_number, t_sign, t_letters, t_fault, t_faultPlace, rr_depth, c_rr_b, rf_lines, rf_steps, rf_asksSure, c_rf_kinds, c_rf_features, c_rf_compares, c_rf_numbers, c_rf_partners)) else (
    if t_fed < k1 then (
      let w_14 := F_Da_none 5
      let nw0_11 : Int32 := w_14
      ((-1 : Int32), nw0_11, r_lines, r_steps, r_asksSure, c_r_kinds, c_r_features, c_r_compares, c_r_numbers, c_r_partners, t_fed, t_length, t_kind, t_start, t_end, t_number, t_sign, t_letters, t_fault, t_faultPlace, rr_depth, c_rr_b, rf_lines, rf_steps, rf_asksSure, c_rf_kinds, c_rf_features, c_rf_compares, c_rf_numbers, c_rf_partners)) else (
      if k1 ≤ 300 then (
        let w_31 := F_Te_begin t_number t_sign t_letters c_tape k1
        let nw0_19 : Int32 := w_31.1
        let nw1_20 : Int32 := w_31.2.1
        let nw2_21 : Int32 := w_31.2.2.1
        let nw3_22 : Int32 := w_31.2.2.2.1
        let nw4_23 : Int32 := w_31.2.2.2.2.1
        let nw5_24 : Int32 := w_31.2.2.2.2.2.1
        let nw6_25 : Int32 := w_31.2.2.2.2.2.2.1
        let nw7_26 : Int64 := w_31.2.2.2.2.2.2.2.1
        let nw8_27 : Int32 := w_31.2.2.2.2.2.2.2.2.1
        let nw9_28 : Int32 := w_31.2.2.2.2.2.2.2.2.2
        let w_52 := F_Ru_readAll h_features c_h_featureNames nw1_20 nw2_21 nw3_22 nw4_23 nw5_24 nw6_25 nw7_26 nw8_27 nw9_28 c_tape c_rr_b c_rf_kinds c_rf_features c_rf_compares c_rf_numbers c_rf_partners
        let r_50 : Int32 := w_52.1
        let nw0_32 : Int32 := w_52.2.1
        let nw1_33 : Int32 := w_52.2.2.1
        let nw2_34 : Int32 := w_52.2.2.2.1
        let nw3_35 : Int32 := w_52.2.2.2.2.1
        let nw4_36 : Int32 := w_52.2.2.2.2.2.1
        let nw5_37 : Int32 := w_52.2.2.2.2.2.2.1
        let nw6_38 : Int64 := w_52.2.2.2.2.2.2.2.1
        let nw7_39 : Int32 := w_52.2.2.2.2.2.2.2.2.1
        let nw8_40 : Int32 := w_52.2.2.2.2.2.2.2.2.2.1
        let nw9_41 : Nat → Int32 := w_52.2.2.2.2.2.2.2.2.2.2.1
        let nw10_42 : Int32 := w_52.2.2.2.2.2.2.2.2.2.2.2.1
        let nw11_43 : Int32 := w_52.2.2.2.2.2.2.2.2.2.2.2.2.1
        let nw12_44 : Int32 := w_52.2.2.2.2.2.2.2.2.2.2.2.2.2.1
        let nw13_45 : Nat → Int32 := w_52.2.2.2.2.2.2.2.2.2.2.2.2.2.2.1
        let nw14_46 : Nat → Int32 := w_52.2.2.2.2.2.2.2.2.2.2.2.2.2.2.2.1
        let nw15_47 : Nat → Int32 := w_52.2.2.2.2.2.2.2.2.2.2.2.2.2.2.2.2.1
        let nw16_48 : Nat → Int32 := w_52.2.2.2.2.2.2.2.2.2.2.2.2.2.2.2.2.2.1
        let nw17_49 : Nat → Int32 := w_52.2.2.2.2.2.2.2.2.2.2.2.2.2.2.2.2.2.2
        if r_50 = 0 then (
          let w_75 := F_Da_none 10
          let nw0_72 : Int32 := w_75
          ((-1 : Int32), nw0_72, r_lines, r_steps, r_asksSure, c_r_kinds, c_r_features, c_r_compares, c_r_numbers, c_r_partners, nw0_19, nw1_20, nw1_33, nw2_34, nw3_35, nw4_36, nw5_37, nw6_38, nw7_39, nw8_40, nw0_32, nw9_41, nw10_42, nw11_43, nw12_44, nw13_45, nw14_46, nw15_47, nw16_48, nw17_49)) else (
          let w_65 := F_Ru_copy c_r_kinds c_r_features c_r_compares c_r_numbers c_r_partners nw10_42 nw11_43 nw12_44 nw13_45 nw14_46 nw15_47 nw16_48 nw17_49
          let nw0_55 : Int32 := w_65.1
          let nw1_56 : Int32 := w_65.2.1
          let nw2_57 : Int32 := w_65.2.2.1
          let nw3_58 : Nat → Int32 := w_65.2.2.2.1
          let nw4_59 : Nat → Int32 := w_65.2.2.2.2.1
          let nw5_60 : Nat → Int32 := w_65.2.2.2.2.2.1
          let nw6_61 : Nat → Int32 := w_65.2.2.2.2.2.2.1
          let nw7_62 : Nat → Int32 := w_65.2.2.2.2.2.2.2
          let w_69 := F_Da_told
          let nw0_66 : Int32 := w_69
          (nw1_56, nw0_66, nw0_55, nw1_56, nw2_57, nw3_58, nw4_59, nw5_60, nw6_61, nw7_62, nw0_19, nw1_20, nw1_33, nw2_34, nw3_35, nw4_36, nw5_37, nw6_38, nw7_39, nw8_40, nw0_32, nw9_41, nw10_42, nw11_43, nw12_44, nw13_45, nw14_46, nw15_47, nw16_48, nw17_49))) else (
        let w_81 := F_Da_none 5
        let nw0_78 : Int32 := w_81
        ((-1 : Int32), nw0_78, r_lines, r_steps, r_asksSure, c_r_kinds, c_r_features, c_r_compares, c_r_numbers, c_r_partners, t_fed, t_length, t_kind, t_start, t_end, t_number, t_sign, t_letters, t_fault, t_faultPlace, rr_depth, c_rr_b, rf_lines, rf_steps, rf_asksSure, c_rf_kinds, c_rf_features, c_rf_compares, c_rf_numbers, c_rf_partners))))) := rfl
noncomputable def F_X_mark (x_marks : Int32) (h_features : Int32) (h_keys : Int32) (h_lent : Int32) (h_rings : Int32) (h_doors : Int32) (h_turned : Int32) (h_roundMany : Int32) (c_h_featureNames : Nat → Int64) (c_h_steps : Nat → Int32) (c_h_turnedFeatures : Nat → Int32) (c_h_sixteenths : Nat → Int32) (c_h_keySteps : Nat → Int32) (c_h_on : Nat → Int32) (c_h_onMany : Nat → Int32) (c_h_wanted : Nat → Int32) (c_h_openers : Nat → Int32) (c_h_seconds : Nat → Int32) (c_h_roundDoors : Nat → Int32) (o_held : Int32) (o_places : Int32) (c_o_row : Nat → Int32) (c_o_parts : Nat → Int64) (r_lines : Int32) (r_steps : Int32) (r_asksSure : Int32) (c_r_kinds : Nat → Int32) (c_r_features : Nat → Int32) (c_r_compares : Nat → Int32) (c_r_numbers : Nat → Int32) (c_r_partners : Nat → Int32) (kh0_features : Int32) (kh0_keys : Int32) (kh0_lent : Int32) (kh0_rings : Int32) (kh0_doors : Int32) (kh0_turned : Int32) (kh0_roundMany : Int32) (c_kh0_featureNames : Nat → Int64) (c_kh0_steps : Nat → Int32) (c_kh0_turnedFeatures : Nat → Int32) (c_kh0_sixteenths : Nat → Int32) (c_kh0_keySteps : Nat → Int32) (c_kh0_on : Nat → Int32) (c_kh0_onMany : Nat → Int32) (c_kh0_wanted : Nat → Int32) (c_kh0_openers : Nat → Int32) (c_kh0_seconds : Nat → Int32) (c_kh0_roundDoors : Nat → Int32) (ko0_held : Int32) (ko0_places : Int32) (c_ko0_row : Nat → Int32) (c_ko0_parts : Nat → Int64) (kr0_lines : Int32) (kr0_steps : Int32) (kr0_asksSure : Int32) (c_kr0_kinds : Nat → Int32) (c_kr0_features : Nat → Int32) (c_kr0_compares : Nat → Int32) (c_kr0_numbers : Nat → Int32) (c_kr0_partners : Nat → Int32) (kh1_features : Int32) (kh1_keys : Int32) (kh1_lent : Int32) (kh1_rings : Int32) (kh1_doors : Int32) (kh1_turned : Int32) (kh1_roundMany : Int32) (c_kh1_featureNames : Nat → Int64) (c_kh1_steps : Nat → Int32) (c_kh1_turnedFeatures : Nat → Int32) (c_kh1_sixteenths : Nat → Int32) (c_kh1_keySteps : Nat → Int32) (c_kh1_on : Nat → Int32) (c_kh1_onMany : Nat → Int32) (c_kh1_wanted : Nat → Int32) (c_kh1_openers : Nat → Int32) (c_kh1_seconds : Nat → Int32) (c_kh1_roundDoors : Nat → Int32) (ko1_held : Int32) (ko1_places : Int32) (c_ko1_row : Nat → Int32) (c_ko1_parts : Nat → Int64) (kr1_lines : Int32) (kr1_steps : Int32) (kr1_asksSure : Int32) (c_kr1_kinds : Nat → Int32) (c_kr1_features : Nat → Int32) (c_kr1_compares : Nat → Int32) (c_kr1_numbers : Nat → Int32) (c_kr1_partners : Nat → Int32) (kh2_features : Int32) (kh2_keys : Int32) (kh2_lent : Int32) (kh2_rings : Int32) (kh2_doors : Int32) (kh2_turned : Int32) (kh2_roundMany : Int32) (c_kh2_featureNames : Nat → Int64) (c_kh2_steps : Nat → Int32) (c_kh2_turnedFeatures : Nat → Int32) (c_kh2_sixteenths : Nat → Int32) (c_kh2_keySteps : Nat → Int32) (c_kh2_on : Nat → Int32) (c_kh2_onMany : Nat → Int32) (c_kh2_wanted : Nat → Int32) (c_kh2_openers : Nat → Int32) (c_kh2_seconds : Nat → Int32) (c_kh2_roundDoors : Nat → Int32) (ko2_held : Int32) (ko2_places : Int32) (c_ko2_row : Nat → Int32) (c_ko2_parts : Nat → Int64) (kr2_lines : Int32) (kr2_steps : Int32) (kr2_asksSure : Int32) (c_kr2_kinds : Nat → Int32) (c_kr2_features : Nat → Int32) (c_kr2_compares : Nat → Int32) (c_kr2_numbers : Nat → Int32) (c_kr2_partners : Nat → Int32) : Int32 × Int32 × Int32 × Int32 × Int32 × Int32 × Int32 × Int32 × Int32 × Int32 × (Nat → Int64) × (Nat → Int32) × (Nat → Int32) × (Nat → Int32) × (Nat → Int32) × (Nat → Int32) × (Nat → Int32) × (Nat → Int32) × (Nat → Int32) × (Nat → Int32) × (Nat → Int32) × Int32 × Int32 × (Nat → Int32) × (Nat → Int64) × Int32 × Int32 × Int32 × (Nat → Int32) × (Nat → Int32) × (Nat → Int32) × (Nat → Int32) × (Nat → Int32) × Int32 × Int32 × Int32 × Int32 × Int32 × Int32 × Int32 × (Nat → Int64) × (Nat → Int32) × (Nat → Int32) × (Nat → Int32) × (Nat → Int32) × (Nat → Int32) × (Nat → Int32) × (Nat → Int32) × (Nat → Int32) × (Nat → Int32) × (Nat → Int32) × Int32 × Int32 × (Nat → Int32) × (Nat → Int64) × Int32 × Int32 × Int32 × (Nat → Int32) × (Nat → Int32) × (Nat → Int32) × (Nat → Int32) × (Nat → Int32) × Int32 × Int32 × Int32 × Int32 × Int32 × Int32 × Int32 × (Nat → Int64) × (Nat → Int32) × (Nat → Int32) × (Nat → Int32) × (Nat → Int32) × (Nat → Int32) × (Nat → Int32) × (Nat → Int32) × (Nat → Int32) × (Nat → Int32) × (Nat → Int32) × Int32 × Int32 × (Nat → Int32) × (Nat → Int64) × Int32 × Int32 × Int32 × (Nat → Int32) × (Nat → Int32) × (Nat → Int32) × (Nat → Int32) × (Nat → Int32) :=
  if x_marks < 0 then (
    let w_6 := F_Da_none 7
    let nw0_3 : Int32 := w_6
    ((-1 : Int32), nw0_3, x_marks, kh0_features, kh0_keys, kh0_lent, kh0_rings, kh0_doors, kh0_turned, kh0_roundMany, c_kh0_featureNames, c_kh0_steps, c_kh0_turnedFeatures, c_kh0_sixteenths, c_kh0_keySteps, c_kh0_on, c_kh0_onMany, c_kh0_wanted, c_kh0_openers, c_kh0_seconds, c_kh0_roundDoors, ko0_held, ko0_places, c_ko0_row, c_ko0_parts, kr0_lines, kr0_steps, kr0_asksSure, c_kr0_kinds, c_kr0_features, c_kr0_compares, c_kr0_numbers, c_kr0_partners, kh1_features, kh1_keys, kh1_lent, kh1_rings, kh1_doors, kh1_turned, kh1_roundMany, c_kh1_featureNames, c_kh1_steps, c_kh1_turnedFeatures, c_kh1_sixteenths, c_kh1_keySteps, c_kh1_on, c_kh1_onMany, c_kh1_wanted, c_kh1_openers, c_kh1_seconds, c_kh1_roundDoors, ko1_held, ko1_places, c_ko1_row, c_ko1_parts, kr1_lines, kr1_steps, kr1_asksSure, c_kr1_kinds, c_kr1_features, c_kr1_compares, c_kr1_numbers, c_kr1_partners, kh2_features, kh2_keys, kh2_lent, kh2_rings, kh2_doors, kh2_turned, kh2_roundMany, c_kh2_featureNames, c_kh2_steps, c_kh2_turnedFeatures, c_kh2_sixteenths, c_kh2_keySteps, c_kh2_on, c_kh2_onMany, c_kh2_wanted, c_kh2_openers, c_kh2_seconds, c_kh2_roundDoors, ko2_held, ko2_places, c_ko2_row, c_ko2_parts, kr2_lines, kr2_steps, kr2_asksSure, c_kr2_kinds, c_kr2_features, c_kr2_compares, c_kr2_numbers, c_kr2_partners)) else (
    if x_marks < 3 then (
      if x_marks = 0 then (
        let w_31 := F_Ho_copy c_kh0_featureNames c_kh0_steps c_kh0_turnedFeatures c_kh0_sixteenths c_kh0_keySteps c_kh0_on c_kh0_onMany c_kh0_wanted c_kh0_openers c_kh0_seconds c_kh0_roundDoors h_features h_keys h_lent h_rings h_doors h_turned h_roundMany c_h_featureNames c_h_steps c_h_turnedFeatures c_h_sixteenths c_h_keySteps c_h_on c_h_onMany c_h_wanted c_h_openers c_h_seconds c_h_roundDoors
        let nw0_11 : Int32 := w_31.1
        let nw1_12 : Int32 := w_31.2.1
        let nw2_13 : Int32 := w_31.2.2.1
        let nw3_14 : Int32 := w_31.2.2.2.1
        let nw4_15 : Int32 := w_31.2.2.2.2.1
        let nw5_16 : Int32 := w_31.2.2.2.2.2.1
        let nw6_17 : Int32 := w_31.2.2.2.2.2.2.1
        let nw7_18 : Nat → Int64 := w_31.2.2.2.2.2.2.2.1
        let nw8_19 : Nat → Int32 := w_31.2.2.2.2.2.2.2.2.1
        let nw9_20 : Nat → Int32 := w_31.2.2.2.2.2.2.2.2.2.1
        let nw10_21 : Nat → Int32 := w_31.2.2.2.2.2.2.2.2.2.2.1
        let nw11_22 : Nat → Int32 := w_31.2.2.2.2.2.2.2.2.2.2.2.1
        let nw12_23 : Nat → Int32 := w_31.2.2.2.2.2.2.2.2.2.2.2.2.1
        let nw13_24 : Nat → Int32 := w_31.2.2.2.2.2.2.2.2.2.2.2.2.2.1
        let nw14_25 : Nat → Int32 := w_31.2.2.2.2.2.2.2.2.2.2.2.2.2.2.1
        let nw15_26 : Nat → Int32 := w_31.2.2.2.2.2.2.2.2.2.2.2.2.2.2.2.1
        let nw16_27 : Nat → Int32 := w_31.2.2.2.2.2.2.2.2.2.2.2.2.2.2.2.2.1
        let nw17_28 : Nat → Int32 := w_31.2.2.2.2.2.2.2.2.2.2.2.2.2.2.2.2.2
        let w_38 := F_Th_copy o_held o_places c_o_row c_o_parts c_ko0_row c_ko0_parts
        let nw0_32 : Int32 := w_38.1
        let nw1_33 : Int32 := w_38.2.1
        let nw2_34 : Nat → Int32 := w_38.2.2.1
        let nw3_35 : Nat → Int64 := w_38.2.2.2
        let w_49 := F_Ru_copy c_kr0_kinds c_kr0_features c_kr0_compares c_kr0_numbers c_kr0_partners r_lines r_steps r_asksSure c_r_kinds c_r_features c_r_compares c_r_numbers c_r_partners
        let nw0_39 : Int32 := w_49.1
        let nw1_40 : Int32 := w_49.2.1
        let nw2_41 : Int32 := w_49.2.2.1
        let nw3_42 : Nat → Int32 := w_49.2.2.2.1
        let nw4_43 : Nat → Int32 := w_49.2.2.2.2.1
        let nw5_44 : Nat → Int32 := w_49.2.2.2.2.2.1
        let nw6_45 : Nat → Int32 := w_49.2.2.2.2.2.2.1
        let nw7_46 : Nat → Int32 := w_49.2.2.2.2.2.2.2
        let w_53 := F_Da_told
        let nw0_50 : Int32 := w_53
        ((1 : Int32), nw0_50, (1 : Int32), nw0_11, nw1_12, nw2_13, nw3_14, nw4_15, nw5_16, nw6_17, nw7_18, nw8_19, nw9_20, nw10_21, nw11_22, nw12_23, nw13_24, nw14_25, nw15_26, nw16_27, nw17_28, nw0_32, nw1_33, nw2_34, nw3_35, nw0_39, nw1_40, nw2_41, nw3_42, nw4_43, nw5_44, nw6_45, nw7_46, kh1_features, kh1_keys, kh1_lent, kh1_rings, kh1_doors, kh1_turned, kh1_roundMany, c_kh1_featureNames, c_kh1_steps, c_kh1_turnedFeatures, c_kh1_sixteenths, c_kh1_keySteps, c_kh1_on, c_kh1_onMany, c_kh1_wanted, c_kh1_openers, c_kh1_seconds, c_kh1_roundDoors, ko1_held, ko1_places, c_ko1_row, c_ko1_parts, kr1_lines, kr1_steps, kr1_asksSure, c_kr1_kinds, c_kr1_features, c_kr1_compares, c_kr1_numbers, c_kr1_partners, kh2_features, kh2_keys, kh2_lent, kh2_rings, kh2_doors, kh2_turned, kh2_roundMany, c_kh2_featureNames, c_kh2_steps, c_kh2_turnedFeatures, c_kh2_sixteenths, c_kh2_keySteps, c_kh2_on, c_kh2_onMany, c_kh2_wanted, c_kh2_openers, c_kh2_seconds, c_kh2_roundDoors, ko2_held, ko2_places, c_ko2_row, c_ko2_parts, kr2_lines, kr2_steps, kr2_asksSure, c_kr2_kinds, c_kr2_features, c_kr2_compares, c_kr2_numbers, c_kr2_partners)) else
      if x_marks = 1 then (
        let w_75 := F_Ho_copy c_kh1_featureNames c_kh1_steps c_kh1_turnedFeatures c_kh1_sixteenths c_kh1_keySteps c_kh1_on c_kh1_onMany c_kh1_wanted c_kh1_openers c_kh1_seconds c_kh1_roundDoors h_features h_keys h_lent h_rings h_doors h_turned h_roundMany c_h_featureNames c_h_steps c_h_turnedFeatures c_h_sixteenths c_h_keySteps c_h_on c_h_onMany c_h_wanted c_h_openers c_h_seconds c_h_roundDoors
        let nw0_55 : Int32 := w_75.1
        let nw1_56 : Int32 := w_75.2.1
        let nw2_57 : Int32 := w_75.2.2.1
        let nw3_58 : Int32 := w_75.2.2.2.1
        let nw4_59 : Int32 := w_75.2.2.2.2.1
        let nw5_60 : Int32 := w_75.2.2.2.2.2.1
        let nw6_61 : Int32 := w_75.2.2.2.2.2.2.1
        let nw7_62 : Nat → Int64 := w_75.2.2.2.2.2.2.2.1
        let nw8_63 : Nat → Int32 := w_75.2.2.2.2.2.2.2.2.1
        let nw9_64 : Nat → Int32 := w_75.2.2.2.2.2.2.2.2.2.1
        let nw10_65 : Nat → Int32 := w_75.2.2.2.2.2.2.2.2.2.2.1
        let nw11_66 : Nat → Int32 := w_75.2.2.2.2.2.2.2.2.2.2.2.1
        let nw12_67 : Nat → Int32 := w_75.2.2.2.2.2.2.2.2.2.2.2.2.1
        let nw13_68 : Nat → Int32 := w_75.2.2.2.2.2.2.2.2.2.2.2.2.2.1
        let nw14_69 : Nat → Int32 := w_75.2.2.2.2.2.2.2.2.2.2.2.2.2.2.1
        let nw15_70 : Nat → Int32 := w_75.2.2.2.2.2.2.2.2.2.2.2.2.2.2.2.1
        let nw16_71 : Nat → Int32 := w_75.2.2.2.2.2.2.2.2.2.2.2.2.2.2.2.2.1
        let nw17_72 : Nat → Int32 := w_75.2.2.2.2.2.2.2.2.2.2.2.2.2.2.2.2.2
        let w_82 := F_Th_copy o_held o_places c_o_row c_o_parts c_ko1_row c_ko1_parts
        let nw0_76 : Int32 := w_82.1
        let nw1_77 : Int32 := w_82.2.1
        let nw2_78 : Nat → Int32 := w_82.2.2.1
        let nw3_79 : Nat → Int64 := w_82.2.2.2
        let w_93 := F_Ru_copy c_kr1_kinds c_kr1_features c_kr1_compares c_kr1_numbers c_kr1_partners r_lines r_steps r_asksSure c_r_kinds c_r_features c_r_compares c_r_numbers c_r_partners
        let nw0_83 : Int32 := w_93.1
        let nw1_84 : Int32 := w_93.2.1
        let nw2_85 : Int32 := w_93.2.2.1
        let nw3_86 : Nat → Int32 := w_93.2.2.2.1
        let nw4_87 : Nat → Int32 := w_93.2.2.2.2.1
        let nw5_88 : Nat → Int32 := w_93.2.2.2.2.2.1
        let nw6_89 : Nat → Int32 := w_93.2.2.2.2.2.2.1
        let nw7_90 : Nat → Int32 := w_93.2.2.2.2.2.2.2
        let w_97 := F_Da_told
        let nw0_94 : Int32 := w_97
        ((2 : Int32), nw0_94, (2 : Int32), kh0_features, kh0_keys, kh0_lent, kh0_rings, kh0_doors, kh0_turned, kh0_roundMany, c_kh0_featureNames, c_kh0_steps, c_kh0_turnedFeatures, c_kh0_sixteenths, c_kh0_keySteps, c_kh0_on, c_kh0_onMany, c_kh0_wanted, c_kh0_openers, c_kh0_seconds, c_kh0_roundDoors, ko0_held, ko0_places, c_ko0_row, c_ko0_parts, kr0_lines, kr0_steps, kr0_asksSure, c_kr0_kinds, c_kr0_features, c_kr0_compares, c_kr0_numbers, c_kr0_partners, nw0_55, nw1_56, nw2_57, nw3_58, nw4_59, nw5_60, nw6_61, nw7_62, nw8_63, nw9_64, nw10_65, nw11_66, nw12_67, nw13_68, nw14_69, nw15_70, nw16_71, nw17_72, nw0_76, nw1_77, nw2_78, nw3_79, nw0_83, nw1_84, nw2_85, nw3_86, nw4_87, nw5_88, nw6_89, nw7_90, kh2_features, kh2_keys, kh2_lent, kh2_rings, kh2_doors, kh2_turned, kh2_roundMany, c_kh2_featureNames, c_kh2_steps, c_kh2_turnedFeatures, c_kh2_sixteenths, c_kh2_keySteps, c_kh2_on, c_kh2_onMany, c_kh2_wanted, c_kh2_openers, c_kh2_seconds, c_kh2_roundDoors, ko2_held, ko2_places, c_ko2_row, c_ko2_parts, kr2_lines, kr2_steps, kr2_asksSure, c_kr2_kinds, c_kr2_features, c_kr2_compares, c_kr2_numbers, c_kr2_partners)) else
      (
        let w_119 := F_Ho_copy c_kh2_featureNames c_kh2_steps c_kh2_turnedFeatures c_kh2_sixteenths c_kh2_keySteps c_kh2_on c_kh2_onMany c_kh2_wanted c_kh2_openers c_kh2_seconds c_kh2_roundDoors h_features h_keys h_lent h_rings h_doors h_turned h_roundMany c_h_featureNames c_h_steps c_h_turnedFeatures c_h_sixteenths c_h_keySteps c_h_on c_h_onMany c_h_wanted c_h_openers c_h_seconds c_h_roundDoors
        let nw0_99 : Int32 := w_119.1
        let nw1_100 : Int32 := w_119.2.1
        let nw2_101 : Int32 := w_119.2.2.1
        let nw3_102 : Int32 := w_119.2.2.2.1
        let nw4_103 : Int32 := w_119.2.2.2.2.1
        let nw5_104 : Int32 := w_119.2.2.2.2.2.1
        let nw6_105 : Int32 := w_119.2.2.2.2.2.2.1
        let nw7_106 : Nat → Int64 := w_119.2.2.2.2.2.2.2.1
        let nw8_107 : Nat → Int32 := w_119.2.2.2.2.2.2.2.2.1
        let nw9_108 : Nat → Int32 := w_119.2.2.2.2.2.2.2.2.2.1
        let nw10_109 : Nat → Int32 := w_119.2.2.2.2.2.2.2.2.2.2.1
        let nw11_110 : Nat → Int32 := w_119.2.2.2.2.2.2.2.2.2.2.2.1
        let nw12_111 : Nat → Int32 := w_119.2.2.2.2.2.2.2.2.2.2.2.2.1
        let nw13_112 : Nat → Int32 := w_119.2.2.2.2.2.2.2.2.2.2.2.2.2.1
        let nw14_113 : Nat → Int32 := w_119.2.2.2.2.2.2.2.2.2.2.2.2.2.2.1
        let nw15_114 : Nat → Int32 := w_119.2.2.2.2.2.2.2.2.2.2.2.2.2.2.2.1
        let nw16_115 : Nat → Int32 := w_119.2.2.2.2.2.2.2.2.2.2.2.2.2.2.2.2.1
        let nw17_116 : Nat → Int32 := w_119.2.2.2.2.2.2.2.2.2.2.2.2.2.2.2.2.2
        let w_126 := F_Th_copy o_held o_places c_o_row c_o_parts c_ko2_row c_ko2_parts
        let nw0_120 : Int32 := w_126.1
        let nw1_121 : Int32 := w_126.2.1
        let nw2_122 : Nat → Int32 := w_126.2.2.1
        let nw3_123 : Nat → Int64 := w_126.2.2.2
        let w_137 := F_Ru_copy c_kr2_kinds c_kr2_features c_kr2_compares c_kr2_numbers c_kr2_partners r_lines r_steps r_asksSure c_r_kinds c_r_features c_r_compares c_r_numbers c_r_partners
        let nw0_127 : Int32 := w_137.1
        let nw1_128 : Int32 := w_137.2.1
        let nw2_129 : Int32 := w_137.2.2.1
        let nw3_130 : Nat → Int32 := w_137.2.2.2.1
        let nw4_131 : Nat → Int32 := w_137.2.2.2.2.1
        let nw5_132 : Nat → Int32 := w_137.2.2.2.2.2.1
        let nw6_133 : Nat → Int32 := w_137.2.2.2.2.2.2.1
        let nw7_134 : Nat → Int32 := w_137.2.2.2.2.2.2.2
        let w_141 := F_Da_told
        let nw0_138 : Int32 := w_141
        ((3 : Int32), nw0_138, (3 : Int32), kh0_features, kh0_keys, kh0_lent, kh0_rings, kh0_doors, kh0_turned, kh0_roundMany, c_kh0_featureNames, c_kh0_steps, c_kh0_turnedFeatures, c_kh0_sixteenths, c_kh0_keySteps, c_kh0_on, c_kh0_onMany, c_kh0_wanted, c_kh0_openers, c_kh0_seconds, c_kh0_roundDoors, ko0_held, ko0_places, c_ko0_row, c_ko0_parts, kr0_lines, kr0_steps, kr0_asksSure, c_kr0_kinds, c_kr0_features, c_kr0_compares, c_kr0_numbers, c_kr0_partners, kh1_features, kh1_keys, kh1_lent, kh1_rings, kh1_doors, kh1_turned, kh1_roundMany, c_kh1_featureNames, c_kh1_steps, c_kh1_turnedFeatures, c_kh1_sixteenths, c_kh1_keySteps, c_kh1_on, c_kh1_onMany, c_kh1_wanted, c_kh1_openers, c_kh1_seconds, c_kh1_roundDoors, ko1_held, ko1_places, c_ko1_row, c_ko1_parts, kr1_lines, kr1_steps, kr1_asksSure, c_kr1_kinds, c_kr1_features, c_kr1_compares, c_kr1_numbers, c_kr1_partners, nw0_99, nw1_100, nw2_101, nw3_102, nw4_103, nw5_104, nw6_105, nw7_106, nw8_107, nw9_108, nw10_109, nw11_110, nw12_111, nw13_112, nw14_113, nw15_114, nw16_115, nw17_116, nw0_120, nw1_121, nw2_122, nw3_123, nw0_127, nw1_128, nw2_129, nw3_130, nw4_131, nw5_132, nw6_133, nw7_134))) else (
      let w_147 := F_Da_none 7
      let nw0_144 : Int32 := w_147
      ((-1 : Int32), nw0_144, x_marks, kh0_features, kh0_keys, kh0_lent, kh0_rings, kh0_doors, kh0_turned, kh0_roundMany, c_kh0_featureNames, c_kh0_steps, c_kh0_turnedFeatures, c_kh0_sixteenths, c_kh0_keySteps, c_kh0_on, c_kh0_onMany, c_kh0_wanted, c_kh0_openers, c_kh0_seconds, c_kh0_roundDoors, ko0_held, ko0_places, c_ko0_row, c_ko0_parts, kr0_lines, kr0_steps, kr0_asksSure, c_kr0_kinds, c_kr0_features, c_kr0_compares, c_kr0_numbers, c_kr0_partners, kh1_features, kh1_keys, kh1_lent, kh1_rings, kh1_doors, kh1_turned, kh1_roundMany, c_kh1_featureNames, c_kh1_steps, c_kh1_turnedFeatures, c_kh1_sixteenths, c_kh1_keySteps, c_kh1_on, c_kh1_onMany, c_kh1_wanted, c_kh1_openers, c_kh1_seconds, c_kh1_roundDoors, ko1_held, ko1_places, c_ko1_row, c_ko1_parts, kr1_lines, kr1_steps, kr1_asksSure, c_kr1_kinds, c_kr1_features, c_kr1_compares, c_kr1_numbers, c_kr1_partners, kh2_features, kh2_keys, kh2_lent, kh2_rings, kh2_doors, kh2_turned, kh2_roundMany, c_kh2_featureNames, c_kh2_steps, c_kh2_turnedFeatures, c_kh2_sixteenths, c_kh2_keySteps, c_kh2_on, c_kh2_onMany, c_kh2_wanted, c_kh2_openers, c_kh2_seconds, c_kh2_roundDoors, ko2_held, ko2_places, c_ko2_row, c_ko2_parts, kr2_lines, kr2_steps, kr2_asksSure, c_kr2_kinds, c_kr2_features, c_kr2_compares, c_kr2_numbers, c_kr2_partners)))
theorem F_X_mark_s (x_marks : Int32) (h_features : Int32) (h_keys : Int32) (h_lent : Int32) (h_rings : Int32) (h_doors : Int32) (h_turned : Int32) (h_roundMany : Int32) (c_h_featureNames : Nat → Int64) (c_h_steps : Nat → Int32) (c_h_turnedFeatures : Nat → Int32) (c_h_sixteenths : Nat → Int32) (c_h_keySteps : Nat → Int32) (c_h_on : Nat → Int32) (c_h_onMany : Nat → Int32) (c_h_wanted : Nat → Int32) (c_h_openers : Nat → Int32) (c_h_seconds : Nat → Int32) (c_h_roundDoors : Nat → Int32) (o_held : Int32) (o_places : Int32) (c_o_row : Nat → Int32) (c_o_parts : Nat → Int64) (r_lines : Int32) (r_steps : Int32) (r_asksSure : Int32) (c_r_kinds : Nat → Int32) (c_r_features : Nat → Int32) (c_r_compares : Nat → Int32) (c_r_numbers : Nat → Int32) (c_r_partners : Nat → Int32) (kh0_features : Int32) (kh0_keys : Int32) (kh0_lent : Int32) (kh0_rings : Int32) (kh0_doors : Int32) (kh0_turned : Int32) (kh0_roundMany : Int32) (c_kh0_featureNames : Nat → Int64) (c_kh0_steps : Nat → Int32) (c_kh0_turnedFeatures : Nat → Int32) (c_kh0_sixteenths : Nat → Int32) (c_kh0_keySteps : Nat → Int32) (c_kh0_on : Nat → Int32) (c_kh0_onMany : Nat → Int32) (c_kh0_wanted : Nat → Int32) (c_kh0_openers : Nat → Int32) (c_kh0_seconds : Nat → Int32) (c_kh0_roundDoors : Nat → Int32) (ko0_held : Int32) (ko0_places : Int32) (c_ko0_row : Nat → Int32) (c_ko0_parts : Nat → Int64) (kr0_lines : Int32) (kr0_steps : Int32) (kr0_asksSure : Int32) (c_kr0_kinds : Nat → Int32) (c_kr0_features : Nat → Int32) (c_kr0_compares : Nat → Int32) (c_kr0_numbers : Nat → Int32) (c_kr0_partners : Nat → Int32) (kh1_features : Int32) (kh1_keys : Int32) (kh1_lent : Int32) (kh1_rings : Int32) (kh1_doors : Int32) (kh1_turned : Int32) (kh1_roundMany : Int32) (c_kh1_featureNames : Nat → Int64) (c_kh1_steps : Nat → Int32) (c_kh1_turnedFeatures : Nat → Int32) (c_kh1_sixteenths : Nat → Int32) (c_kh1_keySteps : Nat → Int32) (c_kh1_on : Nat → Int32) (c_kh1_onMany : Nat → Int32) (c_kh1_wanted : Nat → Int32) (c_kh1_openers : Nat → Int32) (c_kh1_seconds : Nat → Int32) (c_kh1_roundDoors : Nat → Int32) (ko1_held : Int32) (ko1_places : Int32) (c_ko1_row : Nat → Int32) (c_ko1_parts : Nat → Int64) (kr1_lines : Int32) (kr1_steps : Int32) (kr1_asksSure : Int32) (c_kr1_kinds : Nat → Int32) (c_kr1_features : Nat → Int32) (c_kr1_compares : Nat → Int32) (c_kr1_numbers : Nat → Int32) (c_kr1_partners : Nat → Int32) (kh2_features : Int32) (kh2_keys : Int32) (kh2_lent : Int32) (kh2_rings : Int32) (kh2_doors : Int32) (kh2_turned : Int32) (kh2_roundMany : Int32) (c_kh2_featureNames : Nat → Int64) (c_kh2_steps : Nat → Int32) (c_kh2_turnedFeatures : Nat → Int32) (c_kh2_sixteenths : Nat → Int32) (c_kh2_keySteps : Nat → Int32) (c_kh2_on : Nat → Int32) (c_kh2_onMany : Nat → Int32) (c_kh2_wanted : Nat → Int32) (c_kh2_openers : Nat → Int32) (c_kh2_seconds : Nat → Int32) (c_kh2_roundDoors : Nat → Int32) (ko2_held : Int32) (ko2_places : Int32) (c_ko2_row : Nat → Int32) (c_ko2_parts : Nat → Int64) (kr2_lines : Int32) (kr2_steps : Int32) (kr2_asksSure : Int32) (c_kr2_kinds : Nat → Int32) (c_kr2_features : Nat → Int32) (c_kr2_compares : Nat → Int32) (c_kr2_numbers : Nat → Int32) (c_kr2_partners : Nat → Int32) : F_X_mark x_marks h_features h_keys h_lent h_rings h_doors h_turned h_roundMany c_h_featureNames c_h_steps c_h_turnedFeatures c_h_sixteenths c_h_keySteps c_h_on c_h_onMany c_h_wanted c_h_openers c_h_seconds c_h_roundDoors o_held o_places c_o_row c_o_parts r_lines r_steps r_asksSure c_r_kinds c_r_features c_r_compares c_r_numbers c_r_partners kh0_features kh0_keys kh0_lent kh0_rings kh0_doors kh0_turned kh0_roundMany c_kh0_featureNames c_kh0_steps c_kh0_turnedFeatures c_kh0_sixteenths c_kh0_keySteps c_kh0_on c_kh0_onMany c_kh0_wanted c_kh0_openers c_kh0_seconds c_kh0_roundDoors ko0_held ko0_places c_ko0_row c_ko0_parts kr0_lines kr0_steps kr0_asksSure c_kr0_kinds c_kr0_features c_kr0_compares c_kr0_numbers c_kr0_partners kh1_features kh1_keys kh1_lent kh1_rings kh1_doors kh1_turned kh1_roundMany c_kh1_featureNames c_kh1_steps c_kh1_turnedFeatures c_kh1_sixteenths c_kh1_keySteps c_kh1_on c_kh1_onMany c_kh1_wanted c_kh1_openers c_kh1_seconds c_kh1_roundDoors ko1_held ko1_places c_ko1_row c_ko1_parts kr1_lines kr1_steps kr1_asksSure c_kr1_kinds c_kr1_features c_kr1_compares c_kr1_numbers c_kr1_partners kh2_features kh2_keys kh2_lent kh2_rings kh2_doors kh2_turned kh2_roundMany c_kh2_featureNames c_kh2_steps c_kh2_turnedFeatures c_kh2_sixteenths c_kh2_keySteps c_kh2_on c_kh2_onMany c_kh2_wanted c_kh2_openers c_kh2_seconds c_kh2_roundDoors ko2_held ko2_places c_ko2_row c_ko2_parts kr2_lines kr2_steps kr2_asksSure c_kr2_kinds c_kr2_features c_kr2_compares c_kr2_numbers c_kr2_partners = (
  if x_marks < 0 then (
    let w_6 := F_Da_none 7
    let nw0_3 : Int32 := w_6
    ((-1 : Int32), nw0_3, x_marks, kh0_features, kh0_keys, kh0_lent, kh0_rings, kh0_doors, kh0_turned, kh0_roundMany, c_kh0_featureNames, c_kh0_steps, c_kh0_turnedFeatures, c_kh0_sixteenths, c_kh0_keySteps, c_kh0_on, c_kh0_onMany, c_kh0_wanted, c_kh0_openers, c_kh0_seconds, c_kh0_roundDoors, ko0_held, ko0_places, c_ko0_row, c_ko0_parts, kr0_lines, kr0_steps, kr0_asksSure, c_kr0_kinds, c_kr0_features, c_kr0_compares, c_kr0_numbers, c_kr0_partners, kh1_features, kh1_keys, kh1_lent, kh1_rings, kh1_doors, kh1_turned, kh1_roundMany, c_kh1_featureNames, c_kh1_steps, c_kh1_turnedFeatures, c_kh1_sixteenths, c_kh1_keySteps, c_kh1_on, c_kh1_onMany, c_kh1_wanted, c_kh1_openers, c_kh1_seconds, c_kh1_roundDoors, ko1_held, ko1_places, c_ko1_row, c_ko1_parts, kr1_lines, kr1_steps, kr1_asksSure, c_kr1_kinds, c_kr1_features, c_kr1_compares, c_kr1_numbers, c_kr1_partners, kh2_features, kh2_keys, kh2_lent, kh2_rings, kh2_doors, kh2_turned, kh2_roundMany, c_kh2_featureNames, c_kh2_steps, c_kh2_turnedFeatures, c_kh2_sixteenths, c_kh2_keySteps, c_kh2_on, c_kh2_onMany, c_kh2_wanted, c_kh2_openers, c_kh2_seconds, c_kh2_roundDoors, ko2_held, ko2_places, c_ko2_row, c_ko2_parts, kr2_lines, kr2_steps, kr2_asksSure, c_kr2_kinds, c_kr2_features, c_kr2_compares, c_kr2_numbers, c_kr2_partners)) else (
    if x_marks < 3 then (
      if x_marks = 0 then (
        let w_31 := F_Ho_copy c_kh0_featureNames c_kh0_steps c_kh0_turnedFeatures c_kh0_sixteenths c_kh0_keySteps c_kh0_on c_kh0_onMany c_kh0_wanted c_kh0_openers c_kh0_seconds c_kh0_roundDoors h_features h_keys h_lent h_rings h_doors h_turned h_roundMany c_h_featureNames c_h_steps c_h_turnedFeatures c_h_sixteenths c_h_keySteps c_h_on c_h_onMany c_h_wanted c_h_openers c_h_seconds c_h_roundDoors
        let nw0_11 : Int32 := w_31.1
        let nw1_12 : Int32 := w_31.2.1
        let nw2_13 : Int32 := w_31.2.2.1
        let nw3_14 : Int32 := w_31.2.2.2.1
        let nw4_15 : Int32 := w_31.2.2.2.2.1
        let nw5_16 : Int32 := w_31.2.2.2.2.2.1
        let nw6_17 : Int32 := w_31.2.2.2.2.2.2.1
        let nw7_18 : Nat → Int64 := w_31.2.2.2.2.2.2.2.1
        let nw8_19 : Nat → Int32 := w_31.2.2.2.2.2.2.2.2.1
        let nw9_20 : Nat → Int32 := w_31.2.2.2.2.2.2.2.2.2.1
        let nw10_21 : Nat → Int32 := w_31.2.2.2.2.2.2.2.2.2.2.1
        let nw11_22 : Nat → Int32 := w_31.2.2.2.2.2.2.2.2.2.2.2.1
        let nw12_23 : Nat → Int32 := w_31.2.2.2.2.2.2.2.2.2.2.2.2.1
        let nw13_24 : Nat → Int32 := w_31.2.2.2.2.2.2.2.2.2.2.2.2.2.1
        let nw14_25 : Nat → Int32 := w_31.2.2.2.2.2.2.2.2.2.2.2.2.2.2.1
        let nw15_26 : Nat → Int32 := w_31.2.2.2.2.2.2.2.2.2.2.2.2.2.2.2.1
        let nw16_27 : Nat → Int32 := w_31.2.2.2.2.2.2.2.2.2.2.2.2.2.2.2.2.1
        let nw17_28 : Nat → Int32 := w_31.2.2.2.2.2.2.2.2.2.2.2.2.2.2.2.2.2
        let w_38 := F_Th_copy o_held o_places c_o_row c_o_parts c_ko0_row c_ko0_parts
        let nw0_32 : Int32 := w_38.1
        let nw1_33 : Int32 := w_38.2.1
        let nw2_34 : Nat → Int32 := w_38.2.2.1
        let nw3_35 : Nat → Int64 := w_38.2.2.2
        let w_49 := F_Ru_copy c_kr0_kinds c_kr0_features c_kr0_compares c_kr0_numbers c_kr0_partners r_lines r_steps r_asksSure c_r_kinds c_r_features c_r_compares c_r_numbers c_r_partners
        let nw0_39 : Int32 := w_49.1
        let nw1_40 : Int32 := w_49.2.1
        let nw2_41 : Int32 := w_49.2.2.1
        let nw3_42 : Nat → Int32 := w_49.2.2.2.1
        let nw4_43 : Nat → Int32 := w_49.2.2.2.2.1
        let nw5_44 : Nat → Int32 := w_49.2.2.2.2.2.1
        let nw6_45 : Nat → Int32 := w_49.2.2.2.2.2.2.1
        let nw7_46 : Nat → Int32 := w_49.2.2.2.2.2.2.2
        let w_53 := F_Da_told
        let nw0_50 : Int32 := w_53
        ((1 : Int32), nw0_50, (1 : Int32), nw0_11, nw1_12, nw2_13, nw3_14, nw4_15, nw5_16, nw6_17, nw7_18, nw8_19, nw9_20, nw10_21, nw11_22, nw12_23, nw13_24, nw14_25, nw15_26, nw16_27, nw17_28, nw0_32, nw1_33, nw2_34, nw3_35, nw0_39, nw1_40, nw2_41, nw3_42, nw4_43, nw5_44, nw6_45, nw7_46, kh1_features, kh1_keys, kh1_lent, kh1_rings, kh1_doors, kh1_turned, kh1_roundMany, c_kh1_featureNames, c_kh1_steps, c_kh1_turnedFeatures, c_kh1_sixteenths, c_kh1_keySteps, c_kh1_on, c_kh1_onMany, c_kh1_wanted, c_kh1_openers, c_kh1_seconds, c_kh1_roundDoors, ko1_held, ko1_places, c_ko1_row, c_ko1_parts, kr1_lines, kr1_steps, kr1_asksSure, c_kr1_kinds, c_kr1_features, c_kr1_compares, c_kr1_numbers, c_kr1_partners, kh2_features, kh2_keys, kh2_lent, kh2_rings, kh2_doors, kh2_turned, kh2_roundMany, c_kh2_featureNames, c_kh2_steps, c_kh2_turnedFeatures, c_kh2_sixteenths, c_kh2_keySteps, c_kh2_on, c_kh2_onMany, c_kh2_wanted, c_kh2_openers, c_kh2_seconds, c_kh2_roundDoors, ko2_held, ko2_places, c_ko2_row, c_ko2_parts, kr2_lines, kr2_steps, kr2_asksSure, c_kr2_kinds, c_kr2_features, c_kr2_compares, c_kr2_numbers, c_kr2_partners)) else
      if x_marks = 1 then (
        let w_75 := F_Ho_copy c_kh1_featureNames c_kh1_steps c_kh1_turnedFeatures c_kh1_sixteenths c_kh1_keySteps c_kh1_on c_kh1_onMany c_kh1_wanted c_kh1_openers c_kh1_seconds c_kh1_roundDoors h_features h_keys h_lent h_rings h_doors h_turned h_roundMany c_h_featureNames c_h_steps c_h_turnedFeatures c_h_sixteenths c_h_keySteps c_h_on c_h_onMany c_h_wanted c_h_openers c_h_seconds c_h_roundDoors
        let nw0_55 : Int32 := w_75.1
        let nw1_56 : Int32 := w_75.2.1
        let nw2_57 : Int32 := w_75.2.2.1
        let nw3_58 : Int32 := w_75.2.2.2.1
        let nw4_59 : Int32 := w_75.2.2.2.2.1
        let nw5_60 : Int32 := w_75.2.2.2.2.2.1
        let nw6_61 : Int32 := w_75.2.2.2.2.2.2.1
        let nw7_62 : Nat → Int64 := w_75.2.2.2.2.2.2.2.1
        let nw8_63 : Nat → Int32 := w_75.2.2.2.2.2.2.2.2.1
        let nw9_64 : Nat → Int32 := w_75.2.2.2.2.2.2.2.2.2.1
        let nw10_65 : Nat → Int32 := w_75.2.2.2.2.2.2.2.2.2.2.1
        let nw11_66 : Nat → Int32 := w_75.2.2.2.2.2.2.2.2.2.2.2.1
        let nw12_67 : Nat → Int32 := w_75.2.2.2.2.2.2.2.2.2.2.2.2.1
        let nw13_68 : Nat → Int32 := w_75.2.2.2.2.2.2.2.2.2.2.2.2.2.1
        let nw14_69 : Nat → Int32 := w_75.2.2.2.2.2.2.2.2.2.2.2.2.2.2.1
        let nw15_70 : Nat → Int32 := w_75.2.2.2.2.2.2.2.2.2.2.2.2.2.2.2.1
        let nw16_71 : Nat → Int32 := w_75.2.2.2.2.2.2.2.2.2.2.2.2.2.2.2.2.1
        let nw17_72 : Nat → Int32 := w_75.2.2.2.2.2.2.2.2.2.2.2.2.2.2.2.2.2
        let w_82 := F_Th_copy o_held o_places c_o_row c_o_parts c_ko1_row c_ko1_parts
        let nw0_76 : Int32 := w_82.1
        let nw1_77 : Int32 := w_82.2.1
        let nw2_78 : Nat → Int32 := w_82.2.2.1
        let nw3_79 : Nat → Int64 := w_82.2.2.2
        let w_93 := F_Ru_copy c_kr1_kinds c_kr1_features c_kr1_compares c_kr1_numbers c_kr1_partners r_lines r_steps r_asksSure c_r_kinds c_r_features c_r_compares c_r_numbers c_r_partners
        let nw0_83 : Int32 := w_93.1
        let nw1_84 : Int32 := w_93.2.1
        let nw2_85 : Int32 := w_93.2.2.1
        let nw3_86 : Nat → Int32 := w_93.2.2.2.1
        let nw4_87 : Nat → Int32 := w_93.2.2.2.2.1
        let nw5_88 : Nat → Int32 := w_93.2.2.2.2.2.1
        let nw6_89 : Nat → Int32 := w_93.2.2.2.2.2.2.1
        let nw7_90 : Nat → Int32 := w_93.2.2.2.2.2.2.2
        let w_97 := F_Da_told
        let nw0_94 : Int32 := w_97
        ((2 : Int32), nw0_94, (2 : Int32), kh0_features, kh0_keys, kh0_lent, kh0_rings, kh0_doors, kh0_turned, kh0_roundMany, c_kh0_featureNames, c_kh0_steps, c_kh0_turnedFeatures, c_kh0_sixteenths, c_kh0_keySteps, c_kh0_on, c_kh0_onMany, c_kh0_wanted, c_kh0_openers, c_kh0_seconds, c_kh0_roundDoors, ko0_held, ko0_places, c_ko0_row, c_ko0_parts, kr0_lines, kr0_steps, kr0_asksSure, c_kr0_kinds, c_kr0_features, c_kr0_compares, c_kr0_numbers, c_kr0_partners, nw0_55, nw1_56, nw2_57, nw3_58, nw4_59, nw5_60, nw6_61, nw7_62, nw8_63, nw9_64, nw10_65, nw11_66, nw12_67, nw13_68, nw14_69, nw15_70, nw16_71, nw17_72, nw0_76, nw1_77, nw2_78, nw3_79, nw0_83, nw1_84, nw2_85, nw3_86, nw4_87, nw5_88, nw6_89, nw7_90, kh2_features, kh2_keys, kh2_lent, kh2_rings, kh2_doors, kh2_turned, kh2_roundMany, c_kh2_featureNames, c_kh2_steps, c_kh2_turnedFeatures, c_kh2_sixteenths, c_kh2_keySteps, c_kh2_on, c_kh2_onMany, c_kh2_wanted, c_kh2_openers, c_kh2_seconds, c_kh2_roundDoors, ko2_held, ko2_places, c_ko2_row, c_ko2_parts, kr2_lines, kr2_steps, kr2_asksSure, c_kr2_kinds, c_kr2_features, c_kr2_compares, c_kr2_numbers, c_kr2_partners)) else
      (
        let w_119 := F_Ho_copy c_kh2_featureNames c_kh2_steps c_kh2_turnedFeatures c_kh2_sixteenths c_kh2_keySteps c_kh2_on c_kh2_onMany c_kh2_wanted c_kh2_openers c_kh2_seconds c_kh2_roundDoors h_features h_keys h_lent h_rings h_doors h_turned h_roundMany c_h_featureNames c_h_steps c_h_turnedFeatures c_h_sixteenths c_h_keySteps c_h_on c_h_onMany c_h_wanted c_h_openers c_h_seconds c_h_roundDoors
        let nw0_99 : Int32 := w_119.1
        let nw1_100 : Int32 := w_119.2.1
        let nw2_101 : Int32 := w_119.2.2.1
        let nw3_102 : Int32 := w_119.2.2.2.1
        let nw4_103 : Int32 := w_119.2.2.2.2.1
        let nw5_104 : Int32 := w_119.2.2.2.2.2.1
        let nw6_105 : Int32 := w_119.2.2.2.2.2.2.1
        let nw7_106 : Nat → Int64 := w_119.2.2.2.2.2.2.2.1
        let nw8_107 : Nat → Int32 := w_119.2.2.2.2.2.2.2.2.1
        let nw9_108 : Nat → Int32 := w_119.2.2.2.2.2.2.2.2.2.1
        let nw10_109 : Nat → Int32 := w_119.2.2.2.2.2.2.2.2.2.2.1
        let nw11_110 : Nat → Int32 := w_119.2.2.2.2.2.2.2.2.2.2.2.1
        let nw12_111 : Nat → Int32 := w_119.2.2.2.2.2.2.2.2.2.2.2.2.1
        let nw13_112 : Nat → Int32 := w_119.2.2.2.2.2.2.2.2.2.2.2.2.2.1
        let nw14_113 : Nat → Int32 := w_119.2.2.2.2.2.2.2.2.2.2.2.2.2.2.1
        let nw15_114 : Nat → Int32 := w_119.2.2.2.2.2.2.2.2.2.2.2.2.2.2.2.1
        let nw16_115 : Nat → Int32 := w_119.2.2.2.2.2.2.2.2.2.2.2.2.2.2.2.2.1
        let nw17_116 : Nat → Int32 := w_119.2.2.2.2.2.2.2.2.2.2.2.2.2.2.2.2.2
        let w_126 := F_Th_copy o_held o_places c_o_row c_o_parts c_ko2_row c_ko2_parts
        let nw0_120 : Int32 := w_126.1
        let nw1_121 : Int32 := w_126.2.1
        let nw2_122 : Nat → Int32 := w_126.2.2.1
        let nw3_123 : Nat → Int64 := w_126.2.2.2
        let w_137 := F_Ru_copy c_kr2_kinds c_kr2_features c_kr2_compares c_kr2_numbers c_kr2_partners r_lines r_steps r_asksSure c_r_kinds c_r_features c_r_compares c_r_numbers c_r_partners
        let nw0_127 : Int32 := w_137.1
        let nw1_128 : Int32 := w_137.2.1
        let nw2_129 : Int32 := w_137.2.2.1
        let nw3_130 : Nat → Int32 := w_137.2.2.2.1
        let nw4_131 : Nat → Int32 := w_137.2.2.2.2.1
        let nw5_132 : Nat → Int32 := w_137.2.2.2.2.2.1
        let nw6_133 : Nat → Int32 := w_137.2.2.2.2.2.2.1
        let nw7_134 : Nat → Int32 := w_137.2.2.2.2.2.2.2
        let w_141 := F_Da_told
        let nw0_138 : Int32 := w_141
        ((3 : Int32), nw0_138, (3 : Int32), kh0_features, kh0_keys, kh0_lent, kh0_rings, kh0_doors, kh0_turned, kh0_roundMany, c_kh0_featureNames, c_kh0_steps, c_kh0_turnedFeatures, c_kh0_sixteenths, c_kh0_keySteps, c_kh0_on, c_kh0_onMany, c_kh0_wanted, c_kh0_openers, c_kh0_seconds, c_kh0_roundDoors, ko0_held, ko0_places, c_ko0_row, c_ko0_parts, kr0_lines, kr0_steps, kr0_asksSure, c_kr0_kinds, c_kr0_features, c_kr0_compares, c_kr0_numbers, c_kr0_partners, kh1_features, kh1_keys, kh1_lent, kh1_rings, kh1_doors, kh1_turned, kh1_roundMany, c_kh1_featureNames, c_kh1_steps, c_kh1_turnedFeatures, c_kh1_sixteenths, c_kh1_keySteps, c_kh1_on, c_kh1_onMany, c_kh1_wanted, c_kh1_openers, c_kh1_seconds, c_kh1_roundDoors, ko1_held, ko1_places, c_ko1_row, c_ko1_parts, kr1_lines, kr1_steps, kr1_asksSure, c_kr1_kinds, c_kr1_features, c_kr1_compares, c_kr1_numbers, c_kr1_partners, nw0_99, nw1_100, nw2_101, nw3_102, nw4_103, nw5_104, nw6_105, nw7_106, nw8_107, nw9_108, nw10_109, nw11_110, nw12_111, nw13_112, nw14_113, nw15_114, nw16_115, nw17_116, nw0_120, nw1_121, nw2_122, nw3_123, nw0_127, nw1_128, nw2_129, nw3_130, nw4_131, nw5_132, nw6_133, nw7_134))) else (
      let w_147 := F_Da_none 7
      let nw0_144 : Int32 := w_147
      ((-1 : Int32), nw0_144, x_marks, kh0_features, kh0_keys, kh0_lent, kh0_rings, kh0_doors, kh0_turned, kh0_roundMany, c_kh0_featureNames, c_kh0_steps, c_kh0_turnedFeatures, c_kh0_sixteenths, c_kh0_keySteps, c_kh0_on, c_kh0_onMany, c_kh0_wanted, c_kh0_openers, c_kh0_seconds, c_kh0_roundDoors, ko0_held, ko0_places, c_ko0_row, c_ko0_parts, kr0_lines, kr0_steps, kr0_asksSure, c_kr0_kinds, c_kr0_features, c_kr0_compares, c_kr0_numbers, c_kr0_partners, kh1_features, kh1_keys, kh1_lent, kh1_rings, kh1_doors, kh1_turned, kh1_roundMany, c_kh1_featureNames, c_kh1_steps, c_kh1_turnedFeatures, c_kh1_sixteenths, c_kh1_keySteps, c_kh1_on, c_kh1_onMany, c_kh1_wanted, c_kh1_openers, c_kh1_seconds, c_kh1_roundDoors, ko1_held, ko1_places, c_ko1_row, c_ko1_parts, kr1_lines, kr1_steps, kr1_asksSure, c_kr1_kinds, c_kr1_features, c_kr1_compares, c_kr1_numbers, c_kr1_partners, kh2_features, kh2_keys, kh2_lent, kh2_rings, kh2_doors, kh2_turned, kh2_roundMany, c_kh2_featureNames, c_kh2_steps, c_kh2_turnedFeatures, c_kh2_sixteenths, c_kh2_keySteps, c_kh2_on, c_kh2_onMany, c_kh2_wanted, c_kh2_openers, c_kh2_seconds, c_kh2_roundDoors, ko2_held, ko2_places, c_ko2_row, c_ko2_parts, kr2_lines, kr2_steps, kr2_asksSure, c_kr2_kinds, c_kr2_features, c_kr2_compares, c_kr2_numbers, c_kr2_partners)))) := rfl
noncomputable def F_X_back (x_marks : Int32) (h_features : Int32) (h_keys : Int32) (h_lent : Int32) (h_rings : Int32) (h_doors : Int32) (h_turned : Int32) (h_roundMany : Int32) (c_h_featureNames : Nat → Int64) (c_h_steps : Nat → Int32) (c_h_turnedFeatures : Nat → Int32) (c_h_sixteenths : Nat → Int32) (c_h_keySteps : Nat → Int32) (c_h_on : Nat → Int32) (c_h_onMany : Nat → Int32) (c_h_wanted : Nat → Int32) (c_h_openers : Nat → Int32) (c_h_seconds : Nat → Int32) (c_h_roundDoors : Nat → Int32) (o_held : Int32) (o_places : Int32) (c_o_row : Nat → Int32) (c_o_parts : Nat → Int64) (r_lines : Int32) (r_steps : Int32) (r_asksSure : Int32) (c_r_kinds : Nat → Int32) (c_r_features : Nat → Int32) (c_r_compares : Nat → Int32) (c_r_numbers : Nat → Int32) (c_r_partners : Nat → Int32) (kh0_features : Int32) (kh0_keys : Int32) (kh0_lent : Int32) (kh0_rings : Int32) (kh0_doors : Int32) (kh0_turned : Int32) (kh0_roundMany : Int32) (c_kh0_featureNames : Nat → Int64) (c_kh0_steps : Nat → Int32) (c_kh0_turnedFeatures : Nat → Int32) (c_kh0_sixteenths : Nat → Int32) (c_kh0_keySteps : Nat → Int32) (c_kh0_on : Nat → Int32) (c_kh0_onMany : Nat → Int32) (c_kh0_wanted : Nat → Int32) (c_kh0_openers : Nat → Int32) (c_kh0_seconds : Nat → Int32) (c_kh0_roundDoors : Nat → Int32) (ko0_held : Int32) (ko0_places : Int32) (c_ko0_row : Nat → Int32) (c_ko0_parts : Nat → Int64) (kr0_lines : Int32) (kr0_steps : Int32) (kr0_asksSure : Int32) (c_kr0_kinds : Nat → Int32) (c_kr0_features : Nat → Int32) (c_kr0_compares : Nat → Int32) (c_kr0_numbers : Nat → Int32) (c_kr0_partners : Nat → Int32) (kh1_features : Int32) (kh1_keys : Int32) (kh1_lent : Int32) (kh1_rings : Int32) (kh1_doors : Int32) (kh1_turned : Int32) (kh1_roundMany : Int32) (c_kh1_featureNames : Nat → Int64) (c_kh1_steps : Nat → Int32) (c_kh1_turnedFeatures : Nat → Int32) (c_kh1_sixteenths : Nat → Int32) (c_kh1_keySteps : Nat → Int32) (c_kh1_on : Nat → Int32) (c_kh1_onMany : Nat → Int32) (c_kh1_wanted : Nat → Int32) (c_kh1_openers : Nat → Int32) (c_kh1_seconds : Nat → Int32) (c_kh1_roundDoors : Nat → Int32) (ko1_held : Int32) (ko1_places : Int32) (c_ko1_row : Nat → Int32) (c_ko1_parts : Nat → Int64) (kr1_lines : Int32) (kr1_steps : Int32) (kr1_asksSure : Int32) (c_kr1_kinds : Nat → Int32) (c_kr1_features : Nat → Int32) (c_kr1_compares : Nat → Int32) (c_kr1_numbers : Nat → Int32) (c_kr1_partners : Nat → Int32) (kh2_features : Int32) (kh2_keys : Int32) (kh2_lent : Int32) (kh2_rings : Int32) (kh2_doors : Int32) (kh2_turned : Int32) (kh2_roundMany : Int32) (c_kh2_featureNames : Nat → Int64) (c_kh2_steps : Nat → Int32) (c_kh2_turnedFeatures : Nat → Int32) (c_kh2_sixteenths : Nat → Int32) (c_kh2_keySteps : Nat → Int32) (c_kh2_on : Nat → Int32) (c_kh2_onMany : Nat → Int32) (c_kh2_wanted : Nat → Int32) (c_kh2_openers : Nat → Int32) (c_kh2_seconds : Nat → Int32) (c_kh2_roundDoors : Nat → Int32) (ko2_held : Int32) (ko2_places : Int32) (c_ko2_row : Nat → Int32) (c_ko2_parts : Nat → Int64) (kr2_lines : Int32) (kr2_steps : Int32) (kr2_asksSure : Int32) (c_kr2_kinds : Nat → Int32) (c_kr2_features : Nat → Int32) (c_kr2_compares : Nat → Int32) (c_kr2_numbers : Nat → Int32) (c_kr2_partners : Nat → Int32) : Int32 × Int32 × Int32 × Int32 × Int32 × Int32 × Int32 × Int32 × Int32 × Int32 × (Nat → Int64) × (Nat → Int32) × (Nat → Int32) × (Nat → Int32) × (Nat → Int32) × (Nat → Int32) × (Nat → Int32) × (Nat → Int32) × (Nat → Int32) × (Nat → Int32) × (Nat → Int32) × Int32 × Int32 × (Nat → Int32) × (Nat → Int64) × Int32 × Int32 × Int32 × (Nat → Int32) × (Nat → Int32) × (Nat → Int32) × (Nat → Int32) × (Nat → Int32) :=
  if x_marks < 1 then (
    let w_6 := F_Da_none 8
    let nw0_3 : Int32 := w_6
    ((-1 : Int32), nw0_3, x_marks, h_features, h_keys, h_lent, h_rings, h_doors, h_turned, h_roundMany, c_h_featureNames, c_h_steps, c_h_turnedFeatures, c_h_sixteenths, c_h_keySteps, c_h_on, c_h_onMany, c_h_wanted, c_h_openers, c_h_seconds, c_h_roundDoors, o_held, o_places, c_o_row, c_o_parts, r_lines, r_steps, r_asksSure, c_r_kinds, c_r_features, c_r_compares, c_r_numbers, c_r_partners)) else (
    if x_marks ≤ 3 then (
      let x_11 : Int32 := (x_marks - 1)
      if x_11 = 0 then (
        let w_32 := F_Ho_copy c_h_featureNames c_h_steps c_h_turnedFeatures c_h_sixteenths c_h_keySteps c_h_on c_h_onMany c_h_wanted c_h_openers c_h_seconds c_h_roundDoors kh0_features kh0_keys kh0_lent kh0_rings kh0_doors kh0_turned kh0_roundMany c_kh0_featureNames c_kh0_steps c_kh0_turnedFeatures c_kh0_sixteenths c_kh0_keySteps c_kh0_on c_kh0_onMany c_kh0_wanted c_kh0_openers c_kh0_seconds c_kh0_roundDoors
        let nw0_12 : Int32 := w_32.1
        let nw1_13 : Int32 := w_32.2.1
        let nw2_14 : Int32 := w_32.2.2.1
        let nw3_15 : Int32 := w_32.2.2.2.1
        let nw4_16 : Int32 := w_32.2.2.2.2.1
        let nw5_17 : Int32 := w_32.2.2.2.2.2.1
        let nw6_18 : Int32 := w_32.2.2.2.2.2.2.1
        let nw7_19 : Nat → Int64 := w_32.2.2.2.2.2.2.2.1
        let nw8_20 : Nat → Int32 := w_32.2.2.2.2.2.2.2.2.1
        let nw9_21 : Nat → Int32 := w_32.2.2.2.2.2.2.2.2.2.1
        let nw10_22 : Nat → Int32 := w_32.2.2.2.2.2.2.2.2.2.2.1
        let nw11_23 : Nat → Int32 := w_32.2.2.2.2.2.2.2.2.2.2.2.1
        let nw12_24 : Nat → Int32 := w_32.2.2.2.2.2.2.2.2.2.2.2.2.1
        let nw13_25 : Nat → Int32 := w_32.2.2.2.2.2.2.2.2.2.2.2.2.2.1
        let nw14_26 : Nat → Int32 := w_32.2.2.2.2.2.2.2.2.2.2.2.2.2.2.1
        let nw15_27 : Nat → Int32 := w_32.2.2.2.2.2.2.2.2.2.2.2.2.2.2.2.1
        let nw16_28 : Nat → Int32 := w_32.2.2.2.2.2.2.2.2.2.2.2.2.2.2.2.2.1
        let nw17_29 : Nat → Int32 := w_32.2.2.2.2.2.2.2.2.2.2.2.2.2.2.2.2.2
        let w_39 := F_Th_copy ko0_held ko0_places c_ko0_row c_ko0_parts c_o_row c_o_parts
        let nw0_33 : Int32 := w_39.1
        let nw1_34 : Int32 := w_39.2.1
        let nw2_35 : Nat → Int32 := w_39.2.2.1
        let nw3_36 : Nat → Int64 := w_39.2.2.2
        let w_50 := F_Ru_copy c_r_kinds c_r_features c_r_compares c_r_numbers c_r_partners kr0_lines kr0_steps kr0_asksSure c_kr0_kinds c_kr0_features c_kr0_compares c_kr0_numbers c_kr0_partners
        let nw0_40 : Int32 := w_50.1
        let nw1_41 : Int32 := w_50.2.1
        let nw2_42 : Int32 := w_50.2.2.1
        let nw3_43 : Nat → Int32 := w_50.2.2.2.1
        let nw4_44 : Nat → Int32 := w_50.2.2.2.2.1
        let nw5_45 : Nat → Int32 := w_50.2.2.2.2.2.1
        let nw6_46 : Nat → Int32 := w_50.2.2.2.2.2.2.1
        let nw7_47 : Nat → Int32 := w_50.2.2.2.2.2.2.2
        let w_54 := F_Da_told
        let nw0_51 : Int32 := w_54
        ((0 : Int32), nw0_51, (0 : Int32), nw0_12, nw1_13, nw2_14, nw3_15, nw4_16, nw5_17, nw6_18, nw7_19, nw8_20, nw9_21, nw10_22, nw11_23, nw12_24, nw13_25, nw14_26, nw15_27, nw16_28, nw17_29, nw0_33, nw1_34, nw2_35, nw3_36, nw0_40, nw1_41, nw2_42, nw3_43, nw4_44, nw5_45, nw6_46, nw7_47)) else
      if x_11 = 1 then (
        let w_76 := F_Ho_copy c_h_featureNames c_h_steps c_h_turnedFeatures c_h_sixteenths c_h_keySteps c_h_on c_h_onMany c_h_wanted c_h_openers c_h_seconds c_h_roundDoors kh1_features kh1_keys kh1_lent kh1_rings kh1_doors kh1_turned kh1_roundMany c_kh1_featureNames c_kh1_steps c_kh1_turnedFeatures c_kh1_sixteenths c_kh1_keySteps c_kh1_on c_kh1_onMany c_kh1_wanted c_kh1_openers c_kh1_seconds c_kh1_roundDoors
        let nw0_56 : Int32 := w_76.1
        let nw1_57 : Int32 := w_76.2.1
        let nw2_58 : Int32 := w_76.2.2.1
        let nw3_59 : Int32 := w_76.2.2.2.1
        let nw4_60 : Int32 := w_76.2.2.2.2.1
        let nw5_61 : Int32 := w_76.2.2.2.2.2.1
        let nw6_62 : Int32 := w_76.2.2.2.2.2.2.1
        let nw7_63 : Nat → Int64 := w_76.2.2.2.2.2.2.2.1
        let nw8_64 : Nat → Int32 := w_76.2.2.2.2.2.2.2.2.1
        let nw9_65 : Nat → Int32 := w_76.2.2.2.2.2.2.2.2.2.1
        let nw10_66 : Nat → Int32 := w_76.2.2.2.2.2.2.2.2.2.2.1
        let nw11_67 : Nat → Int32 := w_76.2.2.2.2.2.2.2.2.2.2.2.1
        let nw12_68 : Nat → Int32 := w_76.2.2.2.2.2.2.2.2.2.2.2.2.1
        let nw13_69 : Nat → Int32 := w_76.2.2.2.2.2.2.2.2.2.2.2.2.2.1
        let nw14_70 : Nat → Int32 := w_76.2.2.2.2.2.2.2.2.2.2.2.2.2.2.1
        let nw15_71 : Nat → Int32 := w_76.2.2.2.2.2.2.2.2.2.2.2.2.2.2.2.1
        let nw16_72 : Nat → Int32 := w_76.2.2.2.2.2.2.2.2.2.2.2.2.2.2.2.2.1
        let nw17_73 : Nat → Int32 := w_76.2.2.2.2.2.2.2.2.2.2.2.2.2.2.2.2.2
        let w_83 := F_Th_copy ko1_held ko1_places c_ko1_row c_ko1_parts c_o_row c_o_parts
        let nw0_77 : Int32 := w_83.1
        let nw1_78 : Int32 := w_83.2.1
        let nw2_79 : Nat → Int32 := w_83.2.2.1
        let nw3_80 : Nat → Int64 := w_83.2.2.2
        let w_94 := F_Ru_copy c_r_kinds c_r_features c_r_compares c_r_numbers c_r_partners kr1_lines kr1_steps kr1_asksSure c_kr1_kinds c_kr1_features c_kr1_compares c_kr1_numbers c_kr1_partners
        let nw0_84 : Int32 := w_94.1
        let nw1_85 : Int32 := w_94.2.1
        let nw2_86 : Int32 := w_94.2.2.1
        let nw3_87 : Nat → Int32 := w_94.2.2.2.1
        let nw4_88 : Nat → Int32 := w_94.2.2.2.2.1
        let nw5_89 : Nat → Int32 := w_94.2.2.2.2.2.1
        let nw6_90 : Nat → Int32 := w_94.2.2.2.2.2.2.1
        let nw7_91 : Nat → Int32 := w_94.2.2.2.2.2.2.2
        let w_98 := F_Da_told
        let nw0_95 : Int32 := w_98
        ((1 : Int32), nw0_95, (1 : Int32), nw0_56, nw1_57, nw2_58, nw3_59, nw4_60, nw5_61, nw6_62, nw7_63, nw8_64, nw9_65, nw10_66, nw11_67, nw12_68, nw13_69, nw14_70, nw15_71, nw16_72, nw17_73, nw0_77, nw1_78, nw2_79, nw3_80, nw0_84, nw1_85, nw2_86, nw3_87, nw4_88, nw5_89, nw6_90, nw7_91)) else
      (
        let w_120 := F_Ho_copy c_h_featureNames c_h_steps c_h_turnedFeatures c_h_sixteenths c_h_keySteps c_h_on c_h_onMany c_h_wanted c_h_openers c_h_seconds c_h_roundDoors kh2_features kh2_keys kh2_lent kh2_rings kh2_doors kh2_turned kh2_roundMany c_kh2_featureNames c_kh2_steps c_kh2_turnedFeatures c_kh2_sixteenths c_kh2_keySteps c_kh2_on c_kh2_onMany c_kh2_wanted c_kh2_openers c_kh2_seconds c_kh2_roundDoors
        let nw0_100 : Int32 := w_120.1
        let nw1_101 : Int32 := w_120.2.1
        let nw2_102 : Int32 := w_120.2.2.1
        let nw3_103 : Int32 := w_120.2.2.2.1
        let nw4_104 : Int32 := w_120.2.2.2.2.1
        let nw5_105 : Int32 := w_120.2.2.2.2.2.1
        let nw6_106 : Int32 := w_120.2.2.2.2.2.2.1
        let nw7_107 : Nat → Int64 := w_120.2.2.2.2.2.2.2.1
        let nw8_108 : Nat → Int32 := w_120.2.2.2.2.2.2.2.2.1
        let nw9_109 : Nat → Int32 := w_120.2.2.2.2.2.2.2.2.2.1
        let nw10_110 : Nat → Int32 := w_120.2.2.2.2.2.2.2.2.2.2.1
        let nw11_111 : Nat → Int32 := w_120.2.2.2.2.2.2.2.2.2.2.2.1
        let nw12_112 : Nat → Int32 := w_120.2.2.2.2.2.2.2.2.2.2.2.2.1
        let nw13_113 : Nat → Int32 := w_120.2.2.2.2.2.2.2.2.2.2.2.2.2.1
        let nw14_114 : Nat → Int32 := w_120.2.2.2.2.2.2.2.2.2.2.2.2.2.2.1
        let nw15_115 : Nat → Int32 := w_120.2.2.2.2.2.2.2.2.2.2.2.2.2.2.2.1
        let nw16_116 : Nat → Int32 := w_120.2.2.2.2.2.2.2.2.2.2.2.2.2.2.2.2.1
        let nw17_117 : Nat → Int32 := w_120.2.2.2.2.2.2.2.2.2.2.2.2.2.2.2.2.2
        let w_127 := F_Th_copy ko2_held ko2_places c_ko2_row c_ko2_parts c_o_row c_o_parts
        let nw0_121 : Int32 := w_127.1
        let nw1_122 : Int32 := w_127.2.1
        let nw2_123 : Nat → Int32 := w_127.2.2.1
        let nw3_124 : Nat → Int64 := w_127.2.2.2
        let w_138 := F_Ru_copy c_r_kinds c_r_features c_r_compares c_r_numbers c_r_partners kr2_lines kr2_steps kr2_asksSure c_kr2_kinds c_kr2_features c_kr2_compares c_kr2_numbers c_kr2_partners
        let nw0_128 : Int32 := w_138.1
        let nw1_129 : Int32 := w_138.2.1
        let nw2_130 : Int32 := w_138.2.2.1
        let nw3_131 : Nat → Int32 := w_138.2.2.2.1
        let nw4_132 : Nat → Int32 := w_138.2.2.2.2.1
        let nw5_133 : Nat → Int32 := w_138.2.2.2.2.2.1
        let nw6_134 : Nat → Int32 := w_138.2.2.2.2.2.2.1
        let nw7_135 : Nat → Int32 := w_138.2.2.2.2.2.2.2
        let w_142 := F_Da_told
        let nw0_139 : Int32 := w_142
        ((2 : Int32), nw0_139, (2 : Int32), nw0_100, nw1_101, nw2_102, nw3_103, nw4_104, nw5_105, nw6_106, nw7_107, nw8_108, nw9_109, nw10_110, nw11_111, nw12_112, nw13_113, nw14_114, nw15_115, nw16_116, nw17_117, nw0_121, nw1_122, nw2_123, nw3_124, nw0_128, nw1_129, nw2_130, nw3_131, nw4_132, nw5_133, nw6_134, nw7_135))) else (
      let w_148 := F_Da_none 8
      let nw0_145 : Int32 := w_148
      ((-1 : Int32), nw0_145, x_marks, h_features, h_keys, h_lent, h_rings, h_doors, h_turned, h_roundMany, c_h_featureNames, c_h_steps, c_h_turnedFeatures, c_h_sixteenths, c_h_keySteps, c_h_on, c_h_onMany, c_h_wanted, c_h_openers, c_h_seconds, c_h_roundDoors, o_held, o_places, c_o_row, c_o_parts, r_lines, r_steps, r_asksSure, c_r_kinds, c_r_features, c_r_compares, c_r_numbers, c_r_partners)))
theorem F_X_back_s (x_marks : Int32) (h_features : Int32) (h_keys : Int32) (h_lent : Int32) (h_rings : Int32) (h_doors : Int32) (h_turned : Int32) (h_roundMany : Int32) (c_h_featureNames : Nat → Int64) (c_h_steps : Nat → Int32) (c_h_turnedFeatures : Nat → Int32) (c_h_sixteenths : Nat → Int32) (c_h_keySteps : Nat → Int32) (c_h_on : Nat → Int32) (c_h_onMany : Nat → Int32) (c_h_wanted : Nat → Int32) (c_h_openers : Nat → Int32) (c_h_seconds : Nat → Int32) (c_h_roundDoors : Nat → Int32) (o_held : Int32) (o_places : Int32) (c_o_row : Nat → Int32) (c_o_parts : Nat → Int64) (r_lines : Int32) (r_steps : Int32) (r_asksSure : Int32) (c_r_kinds : Nat → Int32) (c_r_features : Nat → Int32) (c_r_compares : Nat → Int32) (c_r_numbers : Nat → Int32) (c_r_partners : Nat → Int32) (kh0_features : Int32) (kh0_keys : Int32) (kh0_lent : Int32) (kh0_rings : Int32) (kh0_doors : Int32) (kh0_turned : Int32) (kh0_roundMany : Int32) (c_kh0_featureNames : Nat → Int64) (c_kh0_steps : Nat → Int32) (c_kh0_turnedFeatures : Nat → Int32) (c_kh0_sixteenths : Nat → Int32) (c_kh0_keySteps : Nat → Int32) (c_kh0_on : Nat → Int32) (c_kh0_onMany : Nat → Int32) (c_kh0_wanted : Nat → Int32) (c_kh0_openers : Nat → Int32) (c_kh0_seconds : Nat → Int32) (c_kh0_roundDoors : Nat → Int32) (ko0_held : Int32) (ko0_places : Int32) (c_ko0_row : Nat → Int32) (c_ko0_parts : Nat → Int64) (kr0_lines : Int32) (kr0_steps : Int32) (kr0_asksSure : Int32) (c_kr0_kinds : Nat → Int32) (c_kr0_features : Nat → Int32) (c_kr0_compares : Nat → Int32) (c_kr0_numbers : Nat → Int32) (c_kr0_partners : Nat → Int32) (kh1_features : Int32) (kh1_keys : Int32) (kh1_lent : Int32) (kh1_rings : Int32) (kh1_doors : Int32) (kh1_turned : Int32) (kh1_roundMany : Int32) (c_kh1_featureNames : Nat → Int64) (c_kh1_steps : Nat → Int32) (c_kh1_turnedFeatures : Nat → Int32) (c_kh1_sixteenths : Nat → Int32) (c_kh1_keySteps : Nat → Int32) (c_kh1_on : Nat → Int32) (c_kh1_onMany : Nat → Int32) (c_kh1_wanted : Nat → Int32) (c_kh1_openers : Nat → Int32) (c_kh1_seconds : Nat → Int32) (c_kh1_roundDoors : Nat → Int32) (ko1_held : Int32) (ko1_places : Int32) (c_ko1_row : Nat → Int32) (c_ko1_parts : Nat → Int64) (kr1_lines : Int32) (kr1_steps : Int32) (kr1_asksSure : Int32) (c_kr1_kinds : Nat → Int32) (c_kr1_features : Nat → Int32) (c_kr1_compares : Nat → Int32) (c_kr1_numbers : Nat → Int32) (c_kr1_partners : Nat → Int32) (kh2_features : Int32) (kh2_keys : Int32) (kh2_lent : Int32) (kh2_rings : Int32) (kh2_doors : Int32) (kh2_turned : Int32) (kh2_roundMany : Int32) (c_kh2_featureNames : Nat → Int64) (c_kh2_steps : Nat → Int32) (c_kh2_turnedFeatures : Nat → Int32) (c_kh2_sixteenths : Nat → Int32) (c_kh2_keySteps : Nat → Int32) (c_kh2_on : Nat → Int32) (c_kh2_onMany : Nat → Int32) (c_kh2_wanted : Nat → Int32) (c_kh2_openers : Nat → Int32) (c_kh2_seconds : Nat → Int32) (c_kh2_roundDoors : Nat → Int32) (ko2_held : Int32) (ko2_places : Int32) (c_ko2_row : Nat → Int32) (c_ko2_parts : Nat → Int64) (kr2_lines : Int32) (kr2_steps : Int32) (kr2_asksSure : Int32) (c_kr2_kinds : Nat → Int32) (c_kr2_features : Nat → Int32) (c_kr2_compares : Nat → Int32) (c_kr2_numbers : Nat → Int32) (c_kr2_partners : Nat → Int32) : F_X_back x_marks h_features h_keys h_lent h_rings h_doors h_turned h_roundMany c_h_featureNames c_h_steps c_h_turnedFeatures c_h_sixteenths c_h_keySteps c_h_on c_h_onMany c_h_wanted c_h_openers c_h_seconds c_h_roundDoors o_held o_places c_o_row c_o_parts r_lines r_steps r_asksSure c_r_kinds c_r_features c_r_compares c_r_numbers c_r_partners kh0_features kh0_keys kh0_lent kh0_rings kh0_doors kh0_turned kh0_roundMany c_kh0_featureNames c_kh0_steps c_kh0_turnedFeatures c_kh0_sixteenths c_kh0_keySteps c_kh0_on c_kh0_onMany c_kh0_wanted c_kh0_openers c_kh0_seconds c_kh0_roundDoors ko0_held ko0_places c_ko0_row c_ko0_parts kr0_lines kr0_steps kr0_asksSure c_kr0_kinds c_kr0_features c_kr0_compares c_kr0_numbers c_kr0_partners kh1_features kh1_keys kh1_lent kh1_rings kh1_doors kh1_turned kh1_roundMany c_kh1_featureNames c_kh1_steps c_kh1_turnedFeatures c_kh1_sixteenths c_kh1_keySteps c_kh1_on c_kh1_onMany c_kh1_wanted c_kh1_openers c_kh1_seconds c_kh1_roundDoors ko1_held ko1_places c_ko1_row c_ko1_parts kr1_lines kr1_steps kr1_asksSure c_kr1_kinds c_kr1_features c_kr1_compares c_kr1_numbers c_kr1_partners kh2_features kh2_keys kh2_lent kh2_rings kh2_doors kh2_turned kh2_roundMany c_kh2_featureNames c_kh2_steps c_kh2_turnedFeatures c_kh2_sixteenths c_kh2_keySteps c_kh2_on c_kh2_onMany c_kh2_wanted c_kh2_openers c_kh2_seconds c_kh2_roundDoors ko2_held ko2_places c_ko2_row c_ko2_parts kr2_lines kr2_steps kr2_asksSure c_kr2_kinds c_kr2_features c_kr2_compares c_kr2_numbers c_kr2_partners = (
  if x_marks < 1 then (
    let w_6 := F_Da_none 8
    let nw0_3 : Int32 := w_6
    ((-1 : Int32), nw0_3, x_marks, h_features, h_keys, h_lent, h_rings, h_doors, h_turned, h_roundMany, c_h_featureNames, c_h_steps, c_h_turnedFeatures, c_h_sixteenths, c_h_keySteps, c_h_on, c_h_onMany, c_h_wanted, c_h_openers, c_h_seconds, c_h_roundDoors, o_held, o_places, c_o_row, c_o_parts, r_lines, r_steps, r_asksSure, c_r_kinds, c_r_features, c_r_compares, c_r_numbers, c_r_partners)) else (
    if x_marks ≤ 3 then (
      let x_11 : Int32 := (x_marks - 1)
      if x_11 = 0 then (
        let w_32 := F_Ho_copy c_h_featureNames c_h_steps c_h_turnedFeatures c_h_sixteenths c_h_keySteps c_h_on c_h_onMany c_h_wanted c_h_openers c_h_seconds c_h_roundDoors kh0_features kh0_keys kh0_lent kh0_rings kh0_doors kh0_turned kh0_roundMany c_kh0_featureNames c_kh0_steps c_kh0_turnedFeatures c_kh0_sixteenths c_kh0_keySteps c_kh0_on c_kh0_onMany c_kh0_wanted c_kh0_openers c_kh0_seconds c_kh0_roundDoors
        let nw0_12 : Int32 := w_32.1
        let nw1_13 : Int32 := w_32.2.1
        let nw2_14 : Int32 := w_32.2.2.1
        let nw3_15 : Int32 := w_32.2.2.2.1
        let nw4_16 : Int32 := w_32.2.2.2.2.1
        let nw5_17 : Int32 := w_32.2.2.2.2.2.1
        let nw6_18 : Int32 := w_32.2.2.2.2.2.2.1
        let nw7_19 : Nat → Int64 := w_32.2.2.2.2.2.2.2.1
        let nw8_20 : Nat → Int32 := w_32.2.2.2.2.2.2.2.2.1
        let nw9_21 : Nat → Int32 := w_32.2.2.2.2.2.2.2.2.2.1
        let nw10_22 : Nat → Int32 := w_32.2.2.2.2.2.2.2.2.2.2.1
        let nw11_23 : Nat → Int32 := w_32.2.2.2.2.2.2.2.2.2.2.2.1
        let nw12_24 : Nat → Int32 := w_32.2.2.2.2.2.2.2.2.2.2.2.2.1
        let nw13_25 : Nat → Int32 := w_32.2.2.2.2.2.2.2.2.2.2.2.2.2.1
        let nw14_26 : Nat → Int32 := w_32.2.2.2.2.2.2.2.2.2.2.2.2.2.2.1
        let nw15_27 : Nat → Int32 := w_32.2.2.2.2.2.2.2.2.2.2.2.2.2.2.2.1
        let nw16_28 : Nat → Int32 := w_32.2.2.2.2.2.2.2.2.2.2.2.2.2.2.2.2.1
        let nw17_29 : Nat → Int32 := w_32.2.2.2.2.2.2.2.2.2.2.2.2.2.2.2.2.2
        let w_39 := F_Th_copy ko0_held ko0_places c_ko0_row c_ko0_parts c_o_row c_o_parts
        let nw0_33 : Int32 := w_39.1
        let nw1_34 : Int32 := w_39.2.1
        let nw2_35 : Nat → Int32 := w_39.2.2.1
        let nw3_36 : Nat → Int64 := w_39.2.2.2
        let w_50 := F_Ru_copy c_r_kinds c_r_features c_r_compares c_r_numbers c_r_partners kr0_lines kr0_steps kr0_asksSure c_kr0_kinds c_kr0_features c_kr0_compares c_kr0_numbers c_kr0_partners
        let nw0_40 : Int32 := w_50.1
        let nw1_41 : Int32 := w_50.2.1
        let nw2_42 : Int32 := w_50.2.2.1
        let nw3_43 : Nat → Int32 := w_50.2.2.2.1
        let nw4_44 : Nat → Int32 := w_50.2.2.2.2.1
        let nw5_45 : Nat → Int32 := w_50.2.2.2.2.2.1
        let nw6_46 : Nat → Int32 := w_50.2.2.2.2.2.2.1
        let nw7_47 : Nat → Int32 := w_50.2.2.2.2.2.2.2
        let w_54 := F_Da_told
        let nw0_51 : Int32 := w_54
        ((0 : Int32), nw0_51, (0 : Int32), nw0_12, nw1_13, nw2_14, nw3_15, nw4_16, nw5_17, nw6_18, nw7_19, nw8_20, nw9_21, nw10_22, nw11_23, nw12_24, nw13_25, nw14_26, nw15_27, nw16_28, nw17_29, nw0_33, nw1_34, nw2_35, nw3_36, nw0_40, nw1_41, nw2_42, nw3_43, nw4_44, nw5_45, nw6_46, nw7_47)) else
      if x_11 = 1 then (
        let w_76 := F_Ho_copy c_h_featureNames c_h_steps c_h_turnedFeatures c_h_sixteenths c_h_keySteps c_h_on c_h_onMany c_h_wanted c_h_openers c_h_seconds c_h_roundDoors kh1_features kh1_keys kh1_lent kh1_rings kh1_doors kh1_turned kh1_roundMany c_kh1_featureNames c_kh1_steps c_kh1_turnedFeatures c_kh1_sixteenths c_kh1_keySteps c_kh1_on c_kh1_onMany c_kh1_wanted c_kh1_openers c_kh1_seconds c_kh1_roundDoors
        let nw0_56 : Int32 := w_76.1
        let nw1_57 : Int32 := w_76.2.1
        let nw2_58 : Int32 := w_76.2.2.1
        let nw3_59 : Int32 := w_76.2.2.2.1
        let nw4_60 : Int32 := w_76.2.2.2.2.1
        let nw5_61 : Int32 := w_76.2.2.2.2.2.1
        let nw6_62 : Int32 := w_76.2.2.2.2.2.2.1
        let nw7_63 : Nat → Int64 := w_76.2.2.2.2.2.2.2.1
        let nw8_64 : Nat → Int32 := w_76.2.2.2.2.2.2.2.2.1
        let nw9_65 : Nat → Int32 := w_76.2.2.2.2.2.2.2.2.2.1
        let nw10_66 : Nat → Int32 := w_76.2.2.2.2.2.2.2.2.2.2.1
        let nw11_67 : Nat → Int32 := w_76.2.2.2.2.2.2.2.2.2.2.2.1
        let nw12_68 : Nat → Int32 := w_76.2.2.2.2.2.2.2.2.2.2.2.2.1
        let nw13_69 : Nat → Int32 := w_76.2.2.2.2.2.2.2.2.2.2.2.2.2.1
        let nw14_70 : Nat → Int32 := w_76.2.2.2.2.2.2.2.2.2.2.2.2.2.2.1
        let nw15_71 : Nat → Int32 := w_76.2.2.2.2.2.2.2.2.2.2.2.2.2.2.2.1
        let nw16_72 : Nat → Int32 := w_76.2.2.2.2.2.2.2.2.2.2.2.2.2.2.2.2.1
        let nw17_73 : Nat → Int32 := w_76.2.2.2.2.2.2.2.2.2.2.2.2.2.2.2.2.2
        let w_83 := F_Th_copy ko1_held ko1_places c_ko1_row c_ko1_parts c_o_row c_o_parts
        let nw0_77 : Int32 := w_83.1
        let nw1_78 : Int32 := w_83.2.1
        let nw2_79 : Nat → Int32 := w_83.2.2.1
        let nw3_80 : Nat → Int64 := w_83.2.2.2
        let w_94 := F_Ru_copy c_r_kinds c_r_features c_r_compares c_r_numbers c_r_partners kr1_lines kr1_steps kr1_asksSure c_kr1_kinds c_kr1_features c_kr1_compares c_kr1_numbers c_kr1_partners
        let nw0_84 : Int32 := w_94.1
        let nw1_85 : Int32 := w_94.2.1
        let nw2_86 : Int32 := w_94.2.2.1
        let nw3_87 : Nat → Int32 := w_94.2.2.2.1
        let nw4_88 : Nat → Int32 := w_94.2.2.2.2.1
        let nw5_89 : Nat → Int32 := w_94.2.2.2.2.2.1
        let nw6_90 : Nat → Int32 := w_94.2.2.2.2.2.2.1
        let nw7_91 : Nat → Int32 := w_94.2.2.2.2.2.2.2
        let w_98 := F_Da_told
        let nw0_95 : Int32 := w_98
        ((1 : Int32), nw0_95, (1 : Int32), nw0_56, nw1_57, nw2_58, nw3_59, nw4_60, nw5_61, nw6_62, nw7_63, nw8_64, nw9_65, nw10_66, nw11_67, nw12_68, nw13_69, nw14_70, nw15_71, nw16_72, nw17_73, nw0_77, nw1_78, nw2_79, nw3_80, nw0_84, nw1_85, nw2_86, nw3_87, nw4_88, nw5_89, nw6_90, nw7_91)) else
      (
        let w_120 := F_Ho_copy c_h_featureNames c_h_steps c_h_turnedFeatures c_h_sixteenths c_h_keySteps c_h_on c_h_onMany c_h_wanted c_h_openers c_h_seconds c_h_roundDoors kh2_features kh2_keys kh2_lent kh2_rings kh2_doors kh2_turned kh2_roundMany c_kh2_featureNames c_kh2_steps c_kh2_turnedFeatures c_kh2_sixteenths c_kh2_keySteps c_kh2_on c_kh2_onMany c_kh2_wanted c_kh2_openers c_kh2_seconds c_kh2_roundDoors
        let nw0_100 : Int32 := w_120.1
        let nw1_101 : Int32 := w_120.2.1
        let nw2_102 : Int32 := w_120.2.2.1
        let nw3_103 : Int32 := w_120.2.2.2.1
        let nw4_104 : Int32 := w_120.2.2.2.2.1
        let nw5_105 : Int32 := w_120.2.2.2.2.2.1
        let nw6_106 : Int32 := w_120.2.2.2.2.2.2.1
        let nw7_107 : Nat → Int64 := w_120.2.2.2.2.2.2.2.1
        let nw8_108 : Nat → Int32 := w_120.2.2.2.2.2.2.2.2.1
        let nw9_109 : Nat → Int32 := w_120.2.2.2.2.2.2.2.2.2.1
        let nw10_110 : Nat → Int32 := w_120.2.2.2.2.2.2.2.2.2.2.1
        let nw11_111 : Nat → Int32 := w_120.2.2.2.2.2.2.2.2.2.2.2.1
        let nw12_112 : Nat → Int32 := w_120.2.2.2.2.2.2.2.2.2.2.2.2.1
        let nw13_113 : Nat → Int32 := w_120.2.2.2.2.2.2.2.2.2.2.2.2.2.1
        let nw14_114 : Nat → Int32 := w_120.2.2.2.2.2.2.2.2.2.2.2.2.2.2.1
        let nw15_115 : Nat → Int32 := w_120.2.2.2.2.2.2.2.2.2.2.2.2.2.2.2.1
        let nw16_116 : Nat → Int32 := w_120.2.2.2.2.2.2.2.2.2.2.2.2.2.2.2.2.1
        let nw17_117 : Nat → Int32 := w_120.2.2.2.2.2.2.2.2.2.2.2.2.2.2.2.2.2
        let w_127 := F_Th_copy ko2_held ko2_places c_ko2_row c_ko2_parts c_o_row c_o_parts
        let nw0_121 : Int32 := w_127.1
        let nw1_122 : Int32 := w_127.2.1
        let nw2_123 : Nat → Int32 := w_127.2.2.1
        let nw3_124 : Nat → Int64 := w_127.2.2.2
        let w_138 := F_Ru_copy c_r_kinds c_r_features c_r_compares c_r_numbers c_r_partners kr2_lines kr2_steps kr2_asksSure c_kr2_kinds c_kr2_features c_kr2_compares c_kr2_numbers c_kr2_partners
        let nw0_128 : Int32 := w_138.1
        let nw1_129 : Int32 := w_138.2.1
        let nw2_130 : Int32 := w_138.2.2.1
        let nw3_131 : Nat → Int32 := w_138.2.2.2.1
        let nw4_132 : Nat → Int32 := w_138.2.2.2.2.1
        let nw5_133 : Nat → Int32 := w_138.2.2.2.2.2.1
        let nw6_134 : Nat → Int32 := w_138.2.2.2.2.2.2.1
        let nw7_135 : Nat → Int32 := w_138.2.2.2.2.2.2.2
        let w_142 := F_Da_told
        let nw0_139 : Int32 := w_142
        ((2 : Int32), nw0_139, (2 : Int32), nw0_100, nw1_101, nw2_102, nw3_103, nw4_104, nw5_105, nw6_106, nw7_107, nw8_108, nw9_109, nw10_110, nw11_111, nw12_112, nw13_113, nw14_114, nw15_115, nw16_116, nw17_117, nw0_121, nw1_122, nw2_123, nw3_124, nw0_128, nw1_129, nw2_130, nw3_131, nw4_132, nw5_133, nw6_134, nw7_135))) else (
      let w_148 := F_Da_none 8
      let nw0_145 : Int32 := w_148
      ((-1 : Int32), nw0_145, x_marks, h_features, h_keys, h_lent, h_rings, h_doors, h_turned, h_roundMany, c_h_featureNames, c_h_steps, c_h_turnedFeatures, c_h_sixteenths, c_h_keySteps, c_h_on, c_h_onMany, c_h_wanted, c_h_openers, c_h_seconds, c_h_roundDoors, o_held, o_places, c_o_row, c_o_parts, r_lines, r_steps, r_asksSure, c_r_kinds, c_r_features, c_r_compares, c_r_numbers, c_r_partners)))) := rfl
