noncomputable def F_r_orderFrom_0 (m_thereMany : Int32) (m_orderHow : Int32) (m_orderMany : Int32) (m_hasBest : Int32) (m_bestTop : Int64) (m_bestBy : Int64) (m_meanTop : Int64) (m_meanBy : Int64) (g_c : Nat → Int32) (g_there : Nat → Int32) (g_tried : Nat → Int32) (g_order : Nat → Int32) : Int32 × Int64 × Int64 × Int64 × Int64 × (Nat → Int32) × (Nat → Int32) :=
  let w_12 := F_r_judge m_thereMany m_orderHow m_orderMany m_hasBest m_bestTop m_bestBy m_meanTop m_meanBy g_c g_there g_tried g_order
  let n_3 : Int32 := w_12.1
  let n_4 : Int64 := w_12.2.1
  let n_5 : Int64 := w_12.2.2.1
  let n_6 : Int64 := w_12.2.2.2.1
  let n_7 : Int64 := w_12.2.2.2.2.1
  let n_8 : Nat → Int32 := w_12.2.2.2.2.2.1
  let n_9 : Nat → Int32 := w_12.2.2.2.2.2.2
  (n_3, n_4, n_5, n_6, n_7, n_8, n_9)
theorem F_r_orderFrom_0_s (m_thereMany : Int32) (m_orderHow : Int32) (m_orderMany : Int32) (m_hasBest : Int32) (m_bestTop : Int64) (m_bestBy : Int64) (m_meanTop : Int64) (m_meanBy : Int64) (g_c : Nat → Int32) (g_there : Nat → Int32) (g_tried : Nat → Int32) (g_order : Nat → Int32) : F_r_orderFrom_0 m_thereMany m_orderHow m_orderMany m_hasBest m_bestTop m_bestBy m_meanTop m_meanBy g_c g_there g_tried g_order = (
  let w_12 := F_r_judge m_thereMany m_orderHow m_orderMany m_hasBest m_bestTop m_bestBy m_meanTop m_meanBy g_c g_there g_tried g_order
  let n_3 : Int32 := w_12.1
  let n_4 : Int64 := w_12.2.1
  let n_5 : Int64 := w_12.2.2.1
  let n_6 : Int64 := w_12.2.2.2.1
  let n_7 : Int64 := w_12.2.2.2.2.1
  let n_8 : Nat → Int32 := w_12.2.2.2.2.2.1
  let n_9 : Nat → Int32 := w_12.2.2.2.2.2.2
  (n_3, n_4, n_5, n_6, n_7, n_8, n_9)) := rfl
noncomputable def F_r_orderFrom_1_L15a (m_thereMany : Int32) (m_orderHow : Int32) (m_orderMany : Int32) (g_c : Nat → Int32) (g_best : Nat → Int32) (nn : Int32) : Nat → Int32 → Int32 → Int64 → Int64 → Int64 → Int64 → (Nat → Int32) → (Nat → Int32) → (Nat → Int32) → (Int32 × Int64 × Int64 × Int64 × Int64 × (Nat → Int32) × (Nat → Int32) × (Nat → Int32)) := fun k9 => Nat.rec (motive := fun _ => Int32 → Int32 → Int64 → Int64 → Int64 → Int64 → (Nat → Int32) → (Nat → Int32) → (Nat → Int32) → (Int32 × Int64 × Int64 × Int64 × Int64 × (Nat → Int32) × (Nat → Int32) × (Nat → Int32))) (fun _ _ _ _ _ _ _ _ _ => default) (fun _ (G_L15a : Int32 → Int32 → Int64 → Int64 → Int64 → Int64 → (Nat → Int32) → (Nat → Int32) → (Nat → Int32) → (Int32 × Int64 × Int64 × Int64 × Int64 × (Nat → Int32) × (Nat → Int32) × (Nat → Int32))) => fun (v_442 : Int32) (v_443 : Int32) (v_444 : Int64) (v_445 : Int64) (v_446 : Int64) (v_447 : Int64) (g_448 : Nat → Int32) (g_449 : Nat → Int32) (g_450 : Nat → Int32) =>
    let x_520 : Int32 := (g_c (1 : Int32).toNatClampNeg)
    if x_520 ≤ v_442 then (
      (v_443, v_444, v_445, v_446, v_447, g_448, g_449, g_450)) else (
      let w_527 := F_r_isOrdered m_orderMany g_best v_442
      let r_525 : Int32 := w_527
      if r_525 = 0 then (
        let x_530 : Int32 := (v_442 + 1)
        G_L15a x_530 v_443 v_444 v_445 v_446 v_447 g_448 g_449 g_450) else
      (
        let w_534 := F_r_isUsed g_449 v_442 nn
        let r_532 : Int32 := w_534
        if r_532 = 0 then (
          let g_537 : Nat → Int32 := (upd g_449 (nn : Int32).toNatClampNeg v_442)
          let x_538 : Int32 := (nn + 1)
          let w_548 := F_r_orderFrom_0 m_thereMany m_orderHow m_orderMany v_443 v_444 v_445 v_446 v_447 g_c g_448 g_537 g_450
          let n_539 : Int32 := w_548.1
          let n_540 : Int64 := w_548.2.1
          let n_541 : Int64 := w_548.2.2.1
          let n_542 : Int64 := w_548.2.2.2.1
          let n_543 : Int64 := w_548.2.2.2.2.1
          let n_544 : Nat → Int32 := w_548.2.2.2.2.2.1
          let n_545 : Nat → Int32 := w_548.2.2.2.2.2.2
          let x_552 : Int32 := (v_442 + 1)
          G_L15a x_552 n_539 n_540 n_541 n_542 n_543 n_544 g_537 n_545) else
        (
          let x_554 : Int32 := (v_442 + 1)
          G_L15a x_554 v_443 v_444 v_445 v_446 v_447 g_448 g_449 g_450)))) k9
theorem F_r_orderFrom_1_L15a_s (m_thereMany : Int32) (m_orderHow : Int32) (m_orderMany : Int32) (g_c : Nat → Int32) (g_best : Nat → Int32) (nn : Int32) (n9 : Nat) (v_442 : Int32) (v_443 : Int32) (v_444 : Int64) (v_445 : Int64) (v_446 : Int64) (v_447 : Int64) (g_448 : Nat → Int32) (g_449 : Nat → Int32) (g_450 : Nat → Int32) : F_r_orderFrom_1_L15a m_thereMany m_orderHow m_orderMany g_c g_best nn (n9 + 1) v_442 v_443 v_444 v_445 v_446 v_447 g_448 g_449 g_450 = (
    let x_520 : Int32 := (g_c (1 : Int32).toNatClampNeg)
    if x_520 ≤ v_442 then (
      (v_443, v_444, v_445, v_446, v_447, g_448, g_449, g_450)) else (
      let w_527 := F_r_isOrdered m_orderMany g_best v_442
      let r_525 : Int32 := w_527
      if r_525 = 0 then (
        let x_530 : Int32 := (v_442 + 1)
        (F_r_orderFrom_1_L15a m_thereMany m_orderHow m_orderMany g_c g_best nn n9) x_530 v_443 v_444 v_445 v_446 v_447 g_448 g_449 g_450) else
      (
        let w_534 := F_r_isUsed g_449 v_442 nn
        let r_532 : Int32 := w_534
        if r_532 = 0 then (
          let g_537 : Nat → Int32 := (upd g_449 (nn : Int32).toNatClampNeg v_442)
          let x_538 : Int32 := (nn + 1)
          let w_548 := F_r_orderFrom_0 m_thereMany m_orderHow m_orderMany v_443 v_444 v_445 v_446 v_447 g_c g_448 g_537 g_450
          let n_539 : Int32 := w_548.1
          let n_540 : Int64 := w_548.2.1
          let n_541 : Int64 := w_548.2.2.1
          let n_542 : Int64 := w_548.2.2.2.1
          let n_543 : Int64 := w_548.2.2.2.2.1
          let n_544 : Nat → Int32 := w_548.2.2.2.2.2.1
          let n_545 : Nat → Int32 := w_548.2.2.2.2.2.2
          let x_552 : Int32 := (v_442 + 1)
          (F_r_orderFrom_1_L15a m_thereMany m_orderHow m_orderMany g_c g_best nn n9) x_552 n_539 n_540 n_541 n_542 n_543 n_544 g_537 n_545) else
        (
          let x_554 : Int32 := (v_442 + 1)
          (F_r_orderFrom_1_L15a m_thereMany m_orderHow m_orderMany g_c g_best nn n9) x_554 v_443 v_444 v_445 v_446 v_447 g_448 g_449 g_450)))) := rfl
noncomputable def F_r_orderFrom_1 (m_thereMany : Int32) (m_orderHow : Int32) (m_orderMany : Int32) (m_hasBest : Int32) (m_bestTop : Int64) (m_bestBy : Int64) (m_meanTop : Int64) (m_meanBy : Int64) (g_c : Nat → Int32) (g_there : Nat → Int32) (g_tried : Nat → Int32) (g_best : Nat → Int32) (g_order : Nat → Int32) (nn : Int32) : Int32 × Int64 × Int64 × Int64 × Int64 × (Nat → Int32) × (Nat → Int32) × (Nat → Int32) :=
  F_r_orderFrom_1_L15a m_thereMany m_orderHow m_orderMany g_c g_best nn ((2147483647 - (0 : Int32).toInt).toNat + 1) (0 : Int32) m_hasBest m_bestTop m_bestBy m_meanTop m_meanBy g_there g_tried g_order
theorem F_r_orderFrom_1_s (m_thereMany : Int32) (m_orderHow : Int32) (m_orderMany : Int32) (m_hasBest : Int32) (m_bestTop : Int64) (m_bestBy : Int64) (m_meanTop : Int64) (m_meanBy : Int64) (g_c : Nat → Int32) (g_there : Nat → Int32) (g_tried : Nat → Int32) (g_best : Nat → Int32) (g_order : Nat → Int32) (nn : Int32) : F_r_orderFrom_1 m_thereMany m_orderHow m_orderMany m_hasBest m_bestTop m_bestBy m_meanTop m_meanBy g_c g_there g_tried g_best g_order nn = (
  F_r_orderFrom_1_L15a m_thereMany m_orderHow m_orderMany g_c g_best nn ((2147483647 - (0 : Int32).toInt).toNat + 1) (0 : Int32) m_hasBest m_bestTop m_bestBy m_meanTop m_meanBy g_there g_tried g_order) := rfl
noncomputable def F_r_orderFrom_2_L15a (m_thereMany : Int32) (m_orderHow : Int32) (m_orderMany : Int32) (g_c : Nat → Int32) (g_best : Nat → Int32) (nn : Int32) : Nat → Int32 → Int32 → Int64 → Int64 → Int64 → Int64 → (Nat → Int32) → (Nat → Int32) → (Nat → Int32) → (Int32 × Int64 × Int64 × Int64 × Int64 × (Nat → Int32) × (Nat → Int32) × (Nat → Int32)) := fun k9 => Nat.rec (motive := fun _ => Int32 → Int32 → Int64 → Int64 → Int64 → Int64 → (Nat → Int32) → (Nat → Int32) → (Nat → Int32) → (Int32 × Int64 × Int64 × Int64 × Int64 × (Nat → Int32) × (Nat → Int32) × (Nat → Int32))) (fun _ _ _ _ _ _ _ _ _ => default) (fun _ (G_L15a : Int32 → Int32 → Int64 → Int64 → Int64 → Int64 → (Nat → Int32) → (Nat → Int32) → (Nat → Int32) → (Int32 × Int64 × Int64 × Int64 × Int64 × (Nat → Int32) × (Nat → Int32) × (Nat → Int32))) => fun (v_453 : Int32) (v_454 : Int32) (v_455 : Int64) (v_456 : Int64) (v_457 : Int64) (v_458 : Int64) (g_459 : Nat → Int32) (g_460 : Nat → Int32) (g_461 : Nat → Int32) =>
    let x_533 : Int32 := (g_c (1 : Int32).toNatClampNeg)
    if x_533 ≤ v_453 then (
      (v_454, v_455, v_456, v_457, v_458, g_459, g_460, g_461)) else (
      let w_540 := F_r_isOrdered m_orderMany g_best v_453
      let r_538 : Int32 := w_540
      if r_538 = 0 then (
        let x_543 : Int32 := (v_453 + 1)
        G_L15a x_543 v_454 v_455 v_456 v_457 v_458 g_459 g_460 g_461) else
      (
        let w_547 := F_r_isUsed g_460 v_453 nn
        let r_545 : Int32 := w_547
        if r_545 = 0 then (
          let g_550 : Nat → Int32 := (upd g_460 (nn : Int32).toNatClampNeg v_453)
          let x_551 : Int32 := (nn + 1)
          let w_562 := F_r_orderFrom_1 m_thereMany m_orderHow m_orderMany v_454 v_455 v_456 v_457 v_458 g_c g_459 g_550 g_best g_461 x_551
          let n_552 : Int32 := w_562.1
          let n_553 : Int64 := w_562.2.1
          let n_554 : Int64 := w_562.2.2.1
          let n_555 : Int64 := w_562.2.2.2.1
          let n_556 : Int64 := w_562.2.2.2.2.1
          let n_557 : Nat → Int32 := w_562.2.2.2.2.2.1
          let n_558 : Nat → Int32 := w_562.2.2.2.2.2.2.1
          let n_559 : Nat → Int32 := w_562.2.2.2.2.2.2.2
          let x_566 : Int32 := (v_453 + 1)
          G_L15a x_566 n_552 n_553 n_554 n_555 n_556 n_557 n_558 n_559) else
        (
          let x_568 : Int32 := (v_453 + 1)
          G_L15a x_568 v_454 v_455 v_456 v_457 v_458 g_459 g_460 g_461)))) k9
theorem F_r_orderFrom_2_L15a_s (m_thereMany : Int32) (m_orderHow : Int32) (m_orderMany : Int32) (g_c : Nat → Int32) (g_best : Nat → Int32) (nn : Int32) (n9 : Nat) (v_453 : Int32) (v_454 : Int32) (v_455 : Int64) (v_456 : Int64) (v_457 : Int64) (v_458 : Int64) (g_459 : Nat → Int32) (g_460 : Nat → Int32) (g_461 : Nat → Int32) : F_r_orderFrom_2_L15a m_thereMany m_orderHow m_orderMany g_c g_best nn (n9 + 1) v_453 v_454 v_455 v_456 v_457 v_458 g_459 g_460 g_461 = (
    let x_533 : Int32 := (g_c (1 : Int32).toNatClampNeg)
    if x_533 ≤ v_453 then (
      (v_454, v_455, v_456, v_457, v_458, g_459, g_460, g_461)) else (
      let w_540 := F_r_isOrdered m_orderMany g_best v_453
      let r_538 : Int32 := w_540
      if r_538 = 0 then (
        let x_543 : Int32 := (v_453 + 1)
        (F_r_orderFrom_2_L15a m_thereMany m_orderHow m_orderMany g_c g_best nn n9) x_543 v_454 v_455 v_456 v_457 v_458 g_459 g_460 g_461) else
      (
        let w_547 := F_r_isUsed g_460 v_453 nn
        let r_545 : Int32 := w_547
        if r_545 = 0 then (
          let g_550 : Nat → Int32 := (upd g_460 (nn : Int32).toNatClampNeg v_453)
          let x_551 : Int32 := (nn + 1)
          let w_562 := F_r_orderFrom_1 m_thereMany m_orderHow m_orderMany v_454 v_455 v_456 v_457 v_458 g_c g_459 g_550 g_best g_461 x_551
          let n_552 : Int32 := w_562.1
          let n_553 : Int64 := w_562.2.1
          let n_554 : Int64 := w_562.2.2.1
          let n_555 : Int64 := w_562.2.2.2.1
          let n_556 : Int64 := w_562.2.2.2.2.1
          let n_557 : Nat → Int32 := w_562.2.2.2.2.2.1
          let n_558 : Nat → Int32 := w_562.2.2.2.2.2.2.1
          let n_559 : Nat → Int32 := w_562.2.2.2.2.2.2.2
          let x_566 : Int32 := (v_453 + 1)
          (F_r_orderFrom_2_L15a m_thereMany m_orderHow m_orderMany g_c g_best nn n9) x_566 n_552 n_553 n_554 n_555 n_556 n_557 n_558 n_559) else
        (
          let x_568 : Int32 := (v_453 + 1)
          (F_r_orderFrom_2_L15a m_thereMany m_orderHow m_orderMany g_c g_best nn n9) x_568 v_454 v_455 v_456 v_457 v_458 g_459 g_460 g_461)))) := rfl
noncomputable def F_r_orderFrom_2 (m_thereMany : Int32) (m_orderHow : Int32) (m_orderMany : Int32) (m_hasBest : Int32) (m_bestTop : Int64) (m_bestBy : Int64) (m_meanTop : Int64) (m_meanBy : Int64) (g_c : Nat → Int32) (g_there : Nat → Int32) (g_tried : Nat → Int32) (g_best : Nat → Int32) (g_order : Nat → Int32) (nn : Int32) : Int32 × Int64 × Int64 × Int64 × Int64 × (Nat → Int32) × (Nat → Int32) × (Nat → Int32) :=
  F_r_orderFrom_2_L15a m_thereMany m_orderHow m_orderMany g_c g_best nn ((2147483647 - (0 : Int32).toInt).toNat + 1) (0 : Int32) m_hasBest m_bestTop m_bestBy m_meanTop m_meanBy g_there g_tried g_order
theorem F_r_orderFrom_2_s (m_thereMany : Int32) (m_orderHow : Int32) (m_orderMany : Int32) (m_hasBest : Int32) (m_bestTop : Int64) (m_bestBy : Int64) (m_meanTop : Int64) (m_meanBy : Int64) (g_c : Nat → Int32) (g_there : Nat → Int32) (g_tried : Nat → Int32) (g_best : Nat → Int32) (g_order : Nat → Int32) (nn : Int32) : F_r_orderFrom_2 m_thereMany m_orderHow m_orderMany m_hasBest m_bestTop m_bestBy m_meanTop m_meanBy g_c g_there g_tried g_best g_order nn = (
  F_r_orderFrom_2_L15a m_thereMany m_orderHow m_orderMany g_c g_best nn ((2147483647 - (0 : Int32).toInt).toNat + 1) (0 : Int32) m_hasBest m_bestTop m_bestBy m_meanTop m_meanBy g_there g_tried g_order) := rfl
noncomputable def F_r_orderFrom_3_L15a (m_thereMany : Int32) (m_orderHow : Int32) (m_orderMany : Int32) (g_c : Nat → Int32) (g_best : Nat → Int32) (nn : Int32) : Nat → Int32 → Int32 → Int64 → Int64 → Int64 → Int64 → (Nat → Int32) → (Nat → Int32) → (Nat → Int32) → (Int32 × Int64 × Int64 × Int64 × Int64 × (Nat → Int32) × (Nat → Int32) × (Nat → Int32)) := fun k9 => Nat.rec (motive := fun _ => Int32 → Int32 → Int64 → Int64 → Int64 → Int64 → (Nat → Int32) → (Nat → Int32) → (Nat → Int32) → (Int32 × Int64 × Int64 × Int64 × Int64 × (Nat → Int32) × (Nat → Int32) × (Nat → Int32))) (fun _ _ _ _ _ _ _ _ _ => default) (fun _ (G_L15a : Int32 → Int32 → Int64 → Int64 → Int64 → Int64 → (Nat → Int32) → (Nat → Int32) → (Nat → Int32) → (Int32 × Int64 × Int64 × Int64 × Int64 × (Nat → Int32) × (Nat → Int32) × (Nat → Int32))) => fun (v_453 : Int32) (v_454 : Int32) (v_455 : Int64) (v_456 : Int64) (v_457 : Int64) (v_458 : Int64) (g_459 : Nat → Int32) (g_460 : Nat → Int32) (g_461 : Nat → Int32) =>
    let x_533 : Int32 := (g_c (1 : Int32).toNatClampNeg)
    if x_533 ≤ v_453 then (
      (v_454, v_455, v_456, v_457, v_458, g_459, g_460, g_461)) else (
      let w_540 := F_r_isOrdered m_orderMany g_best v_453
      let r_538 : Int32 := w_540
      if r_538 = 0 then (
        let x_543 : Int32 := (v_453 + 1)
        G_L15a x_543 v_454 v_455 v_456 v_457 v_458 g_459 g_460 g_461) else
      (
        let w_547 := F_r_isUsed g_460 v_453 nn
        let r_545 : Int32 := w_547
        if r_545 = 0 then (
          let g_550 : Nat → Int32 := (upd g_460 (nn : Int32).toNatClampNeg v_453)
          let x_551 : Int32 := (nn + 1)
          let w_562 := F_r_orderFrom_2 m_thereMany m_orderHow m_orderMany v_454 v_455 v_456 v_457 v_458 g_c g_459 g_550 g_best g_461 x_551
          let n_552 : Int32 := w_562.1
          let n_553 : Int64 := w_562.2.1
          let n_554 : Int64 := w_562.2.2.1
          let n_555 : Int64 := w_562.2.2.2.1
          let n_556 : Int64 := w_562.2.2.2.2.1
          let n_557 : Nat → Int32 := w_562.2.2.2.2.2.1
          let n_558 : Nat → Int32 := w_562.2.2.2.2.2.2.1
          let n_559 : Nat → Int32 := w_562.2.2.2.2.2.2.2
          let x_566 : Int32 := (v_453 + 1)
          G_L15a x_566 n_552 n_553 n_554 n_555 n_556 n_557 n_558 n_559) else
        (
          let x_568 : Int32 := (v_453 + 1)
          G_L15a x_568 v_454 v_455 v_456 v_457 v_458 g_459 g_460 g_461)))) k9
theorem F_r_orderFrom_3_L15a_s (m_thereMany : Int32) (m_orderHow : Int32) (m_orderMany : Int32) (g_c : Nat → Int32) (g_best : Nat → Int32) (nn : Int32) (n9 : Nat) (v_453 : Int32) (v_454 : Int32) (v_455 : Int64) (v_456 : Int64) (v_457 : Int64) (v_458 : Int64) (g_459 : Nat → Int32) (g_460 : Nat → Int32) (g_461 : Nat → Int32) : F_r_orderFrom_3_L15a m_thereMany m_orderHow m_orderMany g_c g_best nn (n9 + 1) v_453 v_454 v_455 v_456 v_457 v_458 g_459 g_460 g_461 = (
    let x_533 : Int32 := (g_c (1 : Int32).toNatClampNeg)
    if x_533 ≤ v_453 then (
      (v_454, v_455, v_456, v_457, v_458, g_459, g_460, g_461)) else (
      let w_540 := F_r_isOrdered m_orderMany g_best v_453
      let r_538 : Int32 := w_540
      if r_538 = 0 then (
        let x_543 : Int32 := (v_453 + 1)
        (F_r_orderFrom_3_L15a m_thereMany m_orderHow m_orderMany g_c g_best nn n9) x_543 v_454 v_455 v_456 v_457 v_458 g_459 g_460 g_461) else
      (
        let w_547 := F_r_isUsed g_460 v_453 nn
        let r_545 : Int32 := w_547
        if r_545 = 0 then (
          let g_550 : Nat → Int32 := (upd g_460 (nn : Int32).toNatClampNeg v_453)
          let x_551 : Int32 := (nn + 1)
          let w_562 := F_r_orderFrom_2 m_thereMany m_orderHow m_orderMany v_454 v_455 v_456 v_457 v_458 g_c g_459 g_550 g_best g_461 x_551
          let n_552 : Int32 := w_562.1
          let n_553 : Int64 := w_562.2.1
          let n_554 : Int64 := w_562.2.2.1
          let n_555 : Int64 := w_562.2.2.2.1
          let n_556 : Int64 := w_562.2.2.2.2.1
          let n_557 : Nat → Int32 := w_562.2.2.2.2.2.1
          let n_558 : Nat → Int32 := w_562.2.2.2.2.2.2.1
          let n_559 : Nat → Int32 := w_562.2.2.2.2.2.2.2
          let x_566 : Int32 := (v_453 + 1)
          (F_r_orderFrom_3_L15a m_thereMany m_orderHow m_orderMany g_c g_best nn n9) x_566 n_552 n_553 n_554 n_555 n_556 n_557 n_558 n_559) else
        (
          let x_568 : Int32 := (v_453 + 1)
          (F_r_orderFrom_3_L15a m_thereMany m_orderHow m_orderMany g_c g_best nn n9) x_568 v_454 v_455 v_456 v_457 v_458 g_459 g_460 g_461)))) := rfl
noncomputable def F_r_orderFrom_3 (m_thereMany : Int32) (m_orderHow : Int32) (m_orderMany : Int32) (m_hasBest : Int32) (m_bestTop : Int64) (m_bestBy : Int64) (m_meanTop : Int64) (m_meanBy : Int64) (g_c : Nat → Int32) (g_there : Nat → Int32) (g_tried : Nat → Int32) (g_best : Nat → Int32) (g_order : Nat → Int32) (nn : Int32) : Int32 × Int64 × Int64 × Int64 × Int64 × (Nat → Int32) × (Nat → Int32) × (Nat → Int32) :=
  F_r_orderFrom_3_L15a m_thereMany m_orderHow m_orderMany g_c g_best nn ((2147483647 - (0 : Int32).toInt).toNat + 1) (0 : Int32) m_hasBest m_bestTop m_bestBy m_meanTop m_meanBy g_there g_tried g_order
theorem F_r_orderFrom_3_s (m_thereMany : Int32) (m_orderHow : Int32) (m_orderMany : Int32) (m_hasBest : Int32) (m_bestTop : Int64) (m_bestBy : Int64) (m_meanTop : Int64) (m_meanBy : Int64) (g_c : Nat → Int32) (g_there : Nat → Int32) (g_tried : Nat → Int32) (g_best : Nat → Int32) (g_order : Nat → Int32) (nn : Int32) : F_r_orderFrom_3 m_thereMany m_orderHow m_orderMany m_hasBest m_bestTop m_bestBy m_meanTop m_meanBy g_c g_there g_tried g_best g_order nn = (
  F_r_orderFrom_3_L15a m_thereMany m_orderHow m_orderMany g_c g_best nn ((2147483647 - (0 : Int32).toInt).toNat + 1) (0 : Int32) m_hasBest m_bestTop m_bestBy m_meanTop m_meanBy g_there g_tried g_order) := rfl
noncomputable def F_r_orderFrom_4_L15a (m_thereMany : Int32) (m_orderHow : Int32) (m_orderMany : Int32) (g_c : Nat → Int32) (g_best : Nat → Int32) (nn : Int32) : Nat → Int32 → Int32 → Int64 → Int64 → Int64 → Int64 → (Nat → Int32) → (Nat → Int32) → (Nat → Int32) → (Int32 × Int64 × Int64 × Int64 × Int64 × (Nat → Int32) × (Nat → Int32) × (Nat → Int32)) := fun k9 => Nat.rec (motive := fun _ => Int32 → Int32 → Int64 → Int64 → Int64 → Int64 → (Nat → Int32) → (Nat → Int32) → (Nat → Int32) → (Int32 × Int64 × Int64 × Int64 × Int64 × (Nat → Int32) × (Nat → Int32) × (Nat → Int32))) (fun _ _ _ _ _ _ _ _ _ => default) (fun _ (G_L15a : Int32 → Int32 → Int64 → Int64 → Int64 → Int64 → (Nat → Int32) → (Nat → Int32) → (Nat → Int32) → (Int32 × Int64 × Int64 × Int64 × Int64 × (Nat → Int32) × (Nat → Int32) × (Nat → Int32))) => fun (v_453 : Int32) (v_454 : Int32) (v_455 : Int64) (v_456 : Int64) (v_457 : Int64) (v_458 : Int64) (g_459 : Nat → Int32) (g_460 : Nat → Int32) (g_461 : Nat → Int32) =>
    let x_533 : Int32 := (g_c (1 : Int32).toNatClampNeg)
    if x_533 ≤ v_453 then (
      (v_454, v_455, v_456, v_457, v_458, g_459, g_460, g_461)) else (
      let w_540 := F_r_isOrdered m_orderMany g_best v_453
      let r_538 : Int32 := w_540
      if r_538 = 0 then (
        let x_543 : Int32 := (v_453 + 1)
        G_L15a x_543 v_454 v_455 v_456 v_457 v_458 g_459 g_460 g_461) else
      (
        let w_547 := F_r_isUsed g_460 v_453 nn
        let r_545 : Int32 := w_547
        if r_545 = 0 then (
          let g_550 : Nat → Int32 := (upd g_460 (nn : Int32).toNatClampNeg v_453)
          let x_551 : Int32 := (nn + 1)
          let w_562 := F_r_orderFrom_3 m_thereMany m_orderHow m_orderMany v_454 v_455 v_456 v_457 v_458 g_c g_459 g_550 g_best g_461 x_551
          let n_552 : Int32 := w_562.1
          let n_553 : Int64 := w_562.2.1
          let n_554 : Int64 := w_562.2.2.1
          let n_555 : Int64 := w_562.2.2.2.1
          let n_556 : Int64 := w_562.2.2.2.2.1
          let n_557 : Nat → Int32 := w_562.2.2.2.2.2.1
          let n_558 : Nat → Int32 := w_562.2.2.2.2.2.2.1
          let n_559 : Nat → Int32 := w_562.2.2.2.2.2.2.2
          let x_566 : Int32 := (v_453 + 1)
          G_L15a x_566 n_552 n_553 n_554 n_555 n_556 n_557 n_558 n_559) else
        (
          let x_568 : Int32 := (v_453 + 1)
          G_L15a x_568 v_454 v_455 v_456 v_457 v_458 g_459 g_460 g_461)))) k9
theorem F_r_orderFrom_4_L15a_s (m_thereMany : Int32) (m_orderHow : Int32) (m_orderMany : Int32) (g_c : Nat → Int32) (g_best : Nat → Int32) (nn : Int32) (n9 : Nat) (v_453 : Int32) (v_454 : Int32) (v_455 : Int64) (v_456 : Int64) (v_457 : Int64) (v_458 : Int64) (g_459 : Nat → Int32) (g_460 : Nat → Int32) (g_461 : Nat → Int32) : F_r_orderFrom_4_L15a m_thereMany m_orderHow m_orderMany g_c g_best nn (n9 + 1) v_453 v_454 v_455 v_456 v_457 v_458 g_459 g_460 g_461 = (
    let x_533 : Int32 := (g_c (1 : Int32).toNatClampNeg)
    if x_533 ≤ v_453 then (
      (v_454, v_455, v_456, v_457, v_458, g_459, g_460, g_461)) else (
      let w_540 := F_r_isOrdered m_orderMany g_best v_453
      let r_538 : Int32 := w_540
      if r_538 = 0 then (
        let x_543 : Int32 := (v_453 + 1)
        (F_r_orderFrom_4_L15a m_thereMany m_orderHow m_orderMany g_c g_best nn n9) x_543 v_454 v_455 v_456 v_457 v_458 g_459 g_460 g_461) else
      (
        let w_547 := F_r_isUsed g_460 v_453 nn
        let r_545 : Int32 := w_547
        if r_545 = 0 then (
          let g_550 : Nat → Int32 := (upd g_460 (nn : Int32).toNatClampNeg v_453)
          let x_551 : Int32 := (nn + 1)
          let w_562 := F_r_orderFrom_3 m_thereMany m_orderHow m_orderMany v_454 v_455 v_456 v_457 v_458 g_c g_459 g_550 g_best g_461 x_551
          let n_552 : Int32 := w_562.1
          let n_553 : Int64 := w_562.2.1
          let n_554 : Int64 := w_562.2.2.1
          let n_555 : Int64 := w_562.2.2.2.1
          let n_556 : Int64 := w_562.2.2.2.2.1
          let n_557 : Nat → Int32 := w_562.2.2.2.2.2.1
          let n_558 : Nat → Int32 := w_562.2.2.2.2.2.2.1
          let n_559 : Nat → Int32 := w_562.2.2.2.2.2.2.2
          let x_566 : Int32 := (v_453 + 1)
          (F_r_orderFrom_4_L15a m_thereMany m_orderHow m_orderMany g_c g_best nn n9) x_566 n_552 n_553 n_554 n_555 n_556 n_557 n_558 n_559) else
        (
          let x_568 : Int32 := (v_453 + 1)
          (F_r_orderFrom_4_L15a m_thereMany m_orderHow m_orderMany g_c g_best nn n9) x_568 v_454 v_455 v_456 v_457 v_458 g_459 g_460 g_461)))) := rfl
noncomputable def F_r_orderFrom_4 (m_thereMany : Int32) (m_orderHow : Int32) (m_orderMany : Int32) (m_hasBest : Int32) (m_bestTop : Int64) (m_bestBy : Int64) (m_meanTop : Int64) (m_meanBy : Int64) (g_c : Nat → Int32) (g_there : Nat → Int32) (g_tried : Nat → Int32) (g_best : Nat → Int32) (g_order : Nat → Int32) (nn : Int32) : Int32 × Int64 × Int64 × Int64 × Int64 × (Nat → Int32) × (Nat → Int32) × (Nat → Int32) :=
  F_r_orderFrom_4_L15a m_thereMany m_orderHow m_orderMany g_c g_best nn ((2147483647 - (0 : Int32).toInt).toNat + 1) (0 : Int32) m_hasBest m_bestTop m_bestBy m_meanTop m_meanBy g_there g_tried g_order
theorem F_r_orderFrom_4_s (m_thereMany : Int32) (m_orderHow : Int32) (m_orderMany : Int32) (m_hasBest : Int32) (m_bestTop : Int64) (m_bestBy : Int64) (m_meanTop : Int64) (m_meanBy : Int64) (g_c : Nat → Int32) (g_there : Nat → Int32) (g_tried : Nat → Int32) (g_best : Nat → Int32) (g_order : Nat → Int32) (nn : Int32) : F_r_orderFrom_4 m_thereMany m_orderHow m_orderMany m_hasBest m_bestTop m_bestBy m_meanTop m_meanBy g_c g_there g_tried g_best g_order nn = (
  F_r_orderFrom_4_L15a m_thereMany m_orderHow m_orderMany g_c g_best nn ((2147483647 - (0 : Int32).toInt).toNat + 1) (0 : Int32) m_hasBest m_bestTop m_bestBy m_meanTop m_meanBy g_there g_tried g_order) := rfl
noncomputable def F_r_orderFrom_5_L15a (m_thereMany : Int32) (m_orderHow : Int32) (m_orderMany : Int32) (g_c : Nat → Int32) (g_best : Nat → Int32) (nn : Int32) : Nat → Int32 → Int32 → Int64 → Int64 → Int64 → Int64 → (Nat → Int32) → (Nat → Int32) → (Nat → Int32) → (Int32 × Int64 × Int64 × Int64 × Int64 × (Nat → Int32) × (Nat → Int32) × (Nat → Int32)) := fun k9 => Nat.rec (motive := fun _ => Int32 → Int32 → Int64 → Int64 → Int64 → Int64 → (Nat → Int32) → (Nat → Int32) → (Nat → Int32) → (Int32 × Int64 × Int64 × Int64 × Int64 × (Nat → Int32) × (Nat → Int32) × (Nat → Int32))) (fun _ _ _ _ _ _ _ _ _ => default) (fun _ (G_L15a : Int32 → Int32 → Int64 → Int64 → Int64 → Int64 → (Nat → Int32) → (Nat → Int32) → (Nat → Int32) → (Int32 × Int64 × Int64 × Int64 × Int64 × (Nat → Int32) × (Nat → Int32) × (Nat → Int32))) => fun (v_453 : Int32) (v_454 : Int32) (v_455 : Int64) (v_456 : Int64) (v_457 : Int64) (v_458 : Int64) (g_459 : Nat → Int32) (g_460 : Nat → Int32) (g_461 : Nat → Int32) =>
    let x_533 : Int32 := (g_c (1 : Int32).toNatClampNeg)
    if x_533 ≤ v_453 then (
      (v_454, v_455, v_456, v_457, v_458, g_459, g_460, g_461)) else (
      let w_540 := F_r_isOrdered m_orderMany g_best v_453
      let r_538 : Int32 := w_540
      if r_538 = 0 then (
        let x_543 : Int32 := (v_453 + 1)
        G_L15a x_543 v_454 v_455 v_456 v_457 v_458 g_459 g_460 g_461) else
      (
        let w_547 := F_r_isUsed g_460 v_453 nn
        let r_545 : Int32 := w_547
        if r_545 = 0 then (
          let g_550 : Nat → Int32 := (upd g_460 (nn : Int32).toNatClampNeg v_453)
          let x_551 : Int32 := (nn + 1)
          let w_562 := F_r_orderFrom_4 m_thereMany m_orderHow m_orderMany v_454 v_455 v_456 v_457 v_458 g_c g_459 g_550 g_best g_461 x_551
          let n_552 : Int32 := w_562.1
          let n_553 : Int64 := w_562.2.1
          let n_554 : Int64 := w_562.2.2.1
          let n_555 : Int64 := w_562.2.2.2.1
          let n_556 : Int64 := w_562.2.2.2.2.1
          let n_557 : Nat → Int32 := w_562.2.2.2.2.2.1
          let n_558 : Nat → Int32 := w_562.2.2.2.2.2.2.1
          let n_559 : Nat → Int32 := w_562.2.2.2.2.2.2.2
          let x_566 : Int32 := (v_453 + 1)
          G_L15a x_566 n_552 n_553 n_554 n_555 n_556 n_557 n_558 n_559) else
        (
          let x_568 : Int32 := (v_453 + 1)
          G_L15a x_568 v_454 v_455 v_456 v_457 v_458 g_459 g_460 g_461)))) k9
theorem F_r_orderFrom_5_L15a_s (m_thereMany : Int32) (m_orderHow : Int32) (m_orderMany : Int32) (g_c : Nat → Int32) (g_best : Nat → Int32) (nn : Int32) (n9 : Nat) (v_453 : Int32) (v_454 : Int32) (v_455 : Int64) (v_456 : Int64) (v_457 : Int64) (v_458 : Int64) (g_459 : Nat → Int32) (g_460 : Nat → Int32) (g_461 : Nat → Int32) : F_r_orderFrom_5_L15a m_thereMany m_orderHow m_orderMany g_c g_best nn (n9 + 1) v_453 v_454 v_455 v_456 v_457 v_458 g_459 g_460 g_461 = (
    let x_533 : Int32 := (g_c (1 : Int32).toNatClampNeg)
    if x_533 ≤ v_453 then (
      (v_454, v_455, v_456, v_457, v_458, g_459, g_460, g_461)) else (
      let w_540 := F_r_isOrdered m_orderMany g_best v_453
      let r_538 : Int32 := w_540
      if r_538 = 0 then (
        let x_543 : Int32 := (v_453 + 1)
        (F_r_orderFrom_5_L15a m_thereMany m_orderHow m_orderMany g_c g_best nn n9) x_543 v_454 v_455 v_456 v_457 v_458 g_459 g_460 g_461) else
      (
        let w_547 := F_r_isUsed g_460 v_453 nn
        let r_545 : Int32 := w_547
        if r_545 = 0 then (
          let g_550 : Nat → Int32 := (upd g_460 (nn : Int32).toNatClampNeg v_453)
          let x_551 : Int32 := (nn + 1)
          let w_562 := F_r_orderFrom_4 m_thereMany m_orderHow m_orderMany v_454 v_455 v_456 v_457 v_458 g_c g_459 g_550 g_best g_461 x_551
          let n_552 : Int32 := w_562.1
          let n_553 : Int64 := w_562.2.1
          let n_554 : Int64 := w_562.2.2.1
          let n_555 : Int64 := w_562.2.2.2.1
          let n_556 : Int64 := w_562.2.2.2.2.1
          let n_557 : Nat → Int32 := w_562.2.2.2.2.2.1
          let n_558 : Nat → Int32 := w_562.2.2.2.2.2.2.1
          let n_559 : Nat → Int32 := w_562.2.2.2.2.2.2.2
          let x_566 : Int32 := (v_453 + 1)
          (F_r_orderFrom_5_L15a m_thereMany m_orderHow m_orderMany g_c g_best nn n9) x_566 n_552 n_553 n_554 n_555 n_556 n_557 n_558 n_559) else
        (
          let x_568 : Int32 := (v_453 + 1)
          (F_r_orderFrom_5_L15a m_thereMany m_orderHow m_orderMany g_c g_best nn n9) x_568 v_454 v_455 v_456 v_457 v_458 g_459 g_460 g_461)))) := rfl
noncomputable def F_r_orderFrom_5 (m_thereMany : Int32) (m_orderHow : Int32) (m_orderMany : Int32) (m_hasBest : Int32) (m_bestTop : Int64) (m_bestBy : Int64) (m_meanTop : Int64) (m_meanBy : Int64) (g_c : Nat → Int32) (g_there : Nat → Int32) (g_tried : Nat → Int32) (g_best : Nat → Int32) (g_order : Nat → Int32) (nn : Int32) : Int32 × Int64 × Int64 × Int64 × Int64 × (Nat → Int32) × (Nat → Int32) × (Nat → Int32) :=
  F_r_orderFrom_5_L15a m_thereMany m_orderHow m_orderMany g_c g_best nn ((2147483647 - (0 : Int32).toInt).toNat + 1) (0 : Int32) m_hasBest m_bestTop m_bestBy m_meanTop m_meanBy g_there g_tried g_order
theorem F_r_orderFrom_5_s (m_thereMany : Int32) (m_orderHow : Int32) (m_orderMany : Int32) (m_hasBest : Int32) (m_bestTop : Int64) (m_bestBy : Int64) (m_meanTop : Int64) (m_meanBy : Int64) (g_c : Nat → Int32) (g_there : Nat → Int32) (g_tried : Nat → Int32) (g_best : Nat → Int32) (g_order : Nat → Int32) (nn : Int32) : F_r_orderFrom_5 m_thereMany m_orderHow m_orderMany m_hasBest m_bestTop m_bestBy m_meanTop m_meanBy g_c g_there g_tried g_best g_order nn = (
  F_r_orderFrom_5_L15a m_thereMany m_orderHow m_orderMany g_c g_best nn ((2147483647 - (0 : Int32).toInt).toNat + 1) (0 : Int32) m_hasBest m_bestTop m_bestBy m_meanTop m_meanBy g_there g_tried g_order) := rfl
noncomputable def F_r_orderFrom_6_L15a (m_thereMany : Int32) (m_orderHow : Int32) (m_orderMany : Int32) (g_c : Nat → Int32) (g_best : Nat → Int32) (nn : Int32) : Nat → Int32 → Int32 → Int64 → Int64 → Int64 → Int64 → (Nat → Int32) → (Nat → Int32) → (Nat → Int32) → (Int32 × Int64 × Int64 × Int64 × Int64 × (Nat → Int32) × (Nat → Int32) × (Nat → Int32)) := fun k9 => Nat.rec (motive := fun _ => Int32 → Int32 → Int64 → Int64 → Int64 → Int64 → (Nat → Int32) → (Nat → Int32) → (Nat → Int32) → (Int32 × Int64 × Int64 × Int64 × Int64 × (Nat → Int32) × (Nat → Int32) × (Nat → Int32))) (fun _ _ _ _ _ _ _ _ _ => default) (fun _ (G_L15a : Int32 → Int32 → Int64 → Int64 → Int64 → Int64 → (Nat → Int32) → (Nat → Int32) → (Nat → Int32) → (Int32 × Int64 × Int64 × Int64 × Int64 × (Nat → Int32) × (Nat → Int32) × (Nat → Int32))) => fun (v_453 : Int32) (v_454 : Int32) (v_455 : Int64) (v_456 : Int64) (v_457 : Int64) (v_458 : Int64) (g_459 : Nat → Int32) (g_460 : Nat → Int32) (g_461 : Nat → Int32) =>
    let x_533 : Int32 := (g_c (1 : Int32).toNatClampNeg)
    if x_533 ≤ v_453 then (
      (v_454, v_455, v_456, v_457, v_458, g_459, g_460, g_461)) else (
      let w_540 := F_r_isOrdered m_orderMany g_best v_453
      let r_538 : Int32 := w_540
      if r_538 = 0 then (
        let x_543 : Int32 := (v_453 + 1)
        G_L15a x_543 v_454 v_455 v_456 v_457 v_458 g_459 g_460 g_461) else
      (
        let w_547 := F_r_isUsed g_460 v_453 nn
        let r_545 : Int32 := w_547
        if r_545 = 0 then (
          let g_550 : Nat → Int32 := (upd g_460 (nn : Int32).toNatClampNeg v_453)
          let x_551 : Int32 := (nn + 1)
          let w_562 := F_r_orderFrom_5 m_thereMany m_orderHow m_orderMany v_454 v_455 v_456 v_457 v_458 g_c g_459 g_550 g_best g_461 x_551
          let n_552 : Int32 := w_562.1
          let n_553 : Int64 := w_562.2.1
          let n_554 : Int64 := w_562.2.2.1
          let n_555 : Int64 := w_562.2.2.2.1
          let n_556 : Int64 := w_562.2.2.2.2.1
          let n_557 : Nat → Int32 := w_562.2.2.2.2.2.1
          let n_558 : Nat → Int32 := w_562.2.2.2.2.2.2.1
          let n_559 : Nat → Int32 := w_562.2.2.2.2.2.2.2
          let x_566 : Int32 := (v_453 + 1)
          G_L15a x_566 n_552 n_553 n_554 n_555 n_556 n_557 n_558 n_559) else
        (
          let x_568 : Int32 := (v_453 + 1)
          G_L15a x_568 v_454 v_455 v_456 v_457 v_458 g_459 g_460 g_461)))) k9
theorem F_r_orderFrom_6_L15a_s (m_thereMany : Int32) (m_orderHow : Int32) (m_orderMany : Int32) (g_c : Nat → Int32) (g_best : Nat → Int32) (nn : Int32) (n9 : Nat) (v_453 : Int32) (v_454 : Int32) (v_455 : Int64) (v_456 : Int64) (v_457 : Int64) (v_458 : Int64) (g_459 : Nat → Int32) (g_460 : Nat → Int32) (g_461 : Nat → Int32) : F_r_orderFrom_6_L15a m_thereMany m_orderHow m_orderMany g_c g_best nn (n9 + 1) v_453 v_454 v_455 v_456 v_457 v_458 g_459 g_460 g_461 = (
    let x_533 : Int32 := (g_c (1 : Int32).toNatClampNeg)
    if x_533 ≤ v_453 then (
      (v_454, v_455, v_456, v_457, v_458, g_459, g_460, g_461)) else (
      let w_540 := F_r_isOrdered m_orderMany g_best v_453
      let r_538 : Int32 := w_540
      if r_538 = 0 then (
        let x_543 : Int32 := (v_453 + 1)
        (F_r_orderFrom_6_L15a m_thereMany m_orderHow m_orderMany g_c g_best nn n9) x_543 v_454 v_455 v_456 v_457 v_458 g_459 g_460 g_461) else
      (
        let w_547 := F_r_isUsed g_460 v_453 nn
        let r_545 : Int32 := w_547
        if r_545 = 0 then (
          let g_550 : Nat → Int32 := (upd g_460 (nn : Int32).toNatClampNeg v_453)
          let x_551 : Int32 := (nn + 1)
          let w_562 := F_r_orderFrom_5 m_thereMany m_orderHow m_orderMany v_454 v_455 v_456 v_457 v_458 g_c g_459 g_550 g_best g_461 x_551
          let n_552 : Int32 := w_562.1
          let n_553 : Int64 := w_562.2.1
          let n_554 : Int64 := w_562.2.2.1
          let n_555 : Int64 := w_562.2.2.2.1
          let n_556 : Int64 := w_562.2.2.2.2.1
          let n_557 : Nat → Int32 := w_562.2.2.2.2.2.1
          let n_558 : Nat → Int32 := w_562.2.2.2.2.2.2.1
          let n_559 : Nat → Int32 := w_562.2.2.2.2.2.2.2
          let x_566 : Int32 := (v_453 + 1)
          (F_r_orderFrom_6_L15a m_thereMany m_orderHow m_orderMany g_c g_best nn n9) x_566 n_552 n_553 n_554 n_555 n_556 n_557 n_558 n_559) else
        (
          let x_568 : Int32 := (v_453 + 1)
          (F_r_orderFrom_6_L15a m_thereMany m_orderHow m_orderMany g_c g_best nn n9) x_568 v_454 v_455 v_456 v_457 v_458 g_459 g_460 g_461)))) := rfl
noncomputable def F_r_orderFrom_6 (m_thereMany : Int32) (m_orderHow : Int32) (m_orderMany : Int32) (m_hasBest : Int32) (m_bestTop : Int64) (m_bestBy : Int64) (m_meanTop : Int64) (m_meanBy : Int64) (g_c : Nat → Int32) (g_there : Nat → Int32) (g_tried : Nat → Int32) (g_best : Nat → Int32) (g_order : Nat → Int32) (nn : Int32) : Int32 × Int64 × Int64 × Int64 × Int64 × (Nat → Int32) × (Nat → Int32) × (Nat → Int32) :=
  F_r_orderFrom_6_L15a m_thereMany m_orderHow m_orderMany g_c g_best nn ((2147483647 - (0 : Int32).toInt).toNat + 1) (0 : Int32) m_hasBest m_bestTop m_bestBy m_meanTop m_meanBy g_there g_tried g_order
theorem F_r_orderFrom_6_s (m_thereMany : Int32) (m_orderHow : Int32) (m_orderMany : Int32) (m_hasBest : Int32) (m_bestTop : Int64) (m_bestBy : Int64) (m_meanTop : Int64) (m_meanBy : Int64) (g_c : Nat → Int32) (g_there : Nat → Int32) (g_tried : Nat → Int32) (g_best : Nat → Int32) (g_order : Nat → Int32) (nn : Int32) : F_r_orderFrom_6 m_thereMany m_orderHow m_orderMany m_hasBest m_bestTop m_bestBy m_meanTop m_meanBy g_c g_there g_tried g_best g_order nn = (
  F_r_orderFrom_6_L15a m_thereMany m_orderHow m_orderMany g_c g_best nn ((2147483647 - (0 : Int32).toInt).toNat + 1) (0 : Int32) m_hasBest m_bestTop m_bestBy m_meanTop m_meanBy g_there g_tried g_order) := rfl
noncomputable def F_r_findOrder_L61a (m_thereMany : Int32) (g_tried : Nat → Int32) (g_found : Nat → Int32) (h : Int32) (g_55 : Nat → Int32) (n_498 : Int32) (n_499 : Int64) (n_500 : Int64) (n_501 : Int64) (n_502 : Int64) (n_503 : Nat → Int32) (n_504 : Nat → Int32) : Nat → (Int32 × Int32 × Int32 × Int32 × Int64 × Int64 × Int64 × Int64 × (Nat → Int32) × (Nat → Int32) × (Nat → Int32) × (Nat → Int32) × (Nat → Int32)) := fun k9 => Nat.rec (motive := fun _ => (Int32 × Int32 × Int32 × Int32 × Int64 × Int64 × Int64 × Int64 × (Nat → Int32) × (Nat → Int32) × (Nat → Int32) × (Nat → Int32) × (Nat → Int32))) (default) (fun _ (G_L61a : (Int32 × Int32 × Int32 × Int32 × Int64 × Int64 × Int64 × Int64 × (Nat → Int32) × (Nat → Int32) × (Nat → Int32) × (Nat → Int32) × (Nat → Int32))) =>     (m_thereMany, h, m_thereMany, n_498, n_499, n_500, n_501, n_502, n_503, g_55, n_504, g_tried, g_found)) k9
theorem F_r_findOrder_L61a_s (m_thereMany : Int32) (g_tried : Nat → Int32) (g_found : Nat → Int32) (h : Int32) (g_55 : Nat → Int32) (n_498 : Int32) (n_499 : Int64) (n_500 : Int64) (n_501 : Int64) (n_502 : Int64) (n_503 : Nat → Int32) (n_504 : Nat → Int32) (n9 : Nat) : F_r_findOrder_L61a m_thereMany g_tried g_found h g_55 n_498 n_499 n_500 n_501 n_502 n_503 n_504 (n9 + 1) = (
    (m_thereMany, h, m_thereMany, n_498, n_499, n_500, n_501, n_502, n_503, g_55, n_504, g_tried, g_found)) := rfl
noncomputable def F_r_findOrder_L61b (m_thereMany : Int32) (h : Int32) (g_55 : Nat → Int32) (n_523 : Int32) (n_524 : Int64) (n_525 : Int64) (n_526 : Int64) (n_527 : Int64) (n_528 : Nat → Int32) (n_529 : Nat → Int32) (n_530 : Nat → Int32) : Nat → Int32 → (Nat → Int32) → (Int32 × Int32 × Int32 × Int32 × Int64 × Int64 × Int64 × Int64 × (Nat → Int32) × (Nat → Int32) × (Nat → Int32) × (Nat → Int32) × (Nat → Int32)) := fun k9 => Nat.rec (motive := fun _ => Int32 → (Nat → Int32) → (Int32 × Int32 × Int32 × Int32 × Int64 × Int64 × Int64 × Int64 × (Nat → Int32) × (Nat → Int32) × (Nat → Int32) × (Nat → Int32) × (Nat → Int32))) (fun _ _ => default) (fun _ (G_L61b : Int32 → (Nat → Int32) → (Int32 × Int32 × Int32 × Int32 × Int64 × Int64 × Int64 × Int64 × (Nat → Int32) × (Nat → Int32) × (Nat → Int32) × (Nat → Int32) × (Nat → Int32))) => fun (v_549 : Int32) (g_550 : Nat → Int32) =>
    if m_thereMany ≤ v_549 then (
      (m_thereMany, h, m_thereMany, n_523, n_524, n_525, n_526, n_527, n_528, g_55, n_530, n_529, g_550)) else (
      let x_569 : Int32 := (n_530 (v_549 : Int32).toNatClampNeg)
      let g_570 : Nat → Int32 := (upd g_550 (v_549 : Int32).toNatClampNeg x_569)
      let x_571 : Int32 := (v_549 + 1)
      G_L61b x_571 g_570)) k9
theorem F_r_findOrder_L61b_s (m_thereMany : Int32) (h : Int32) (g_55 : Nat → Int32) (n_523 : Int32) (n_524 : Int64) (n_525 : Int64) (n_526 : Int64) (n_527 : Int64) (n_528 : Nat → Int32) (n_529 : Nat → Int32) (n_530 : Nat → Int32) (n9 : Nat) (v_549 : Int32) (g_550 : Nat → Int32) : F_r_findOrder_L61b m_thereMany h g_55 n_523 n_524 n_525 n_526 n_527 n_528 n_529 n_530 (n9 + 1) v_549 g_550 = (
    if m_thereMany ≤ v_549 then (
      (m_thereMany, h, m_thereMany, n_523, n_524, n_525, n_526, n_527, n_528, g_55, n_530, n_529, g_550)) else (
      let x_569 : Int32 := (n_530 (v_549 : Int32).toNatClampNeg)
      let g_570 : Nat → Int32 := (upd g_550 (v_549 : Int32).toNatClampNeg x_569)
      let x_571 : Int32 := (v_549 + 1)
      (F_r_findOrder_L61b m_thereMany h g_55 n_523 n_524 n_525 n_526 n_527 n_528 n_529 n_530 n9) x_571 g_570)) := rfl
noncomputable def F_r_findOrder_L61c (m_thereMany : Int32) (h : Int32) (g_55 : Nat → Int32) (n_574 : Int32) (n_575 : Int64) (n_576 : Int64) (n_577 : Int64) (n_578 : Int64) (n_579 : Nat → Int32) (n_580 : Nat → Int32) (n_581 : Nat → Int32) : Nat → Int32 → (Nat → Int32) → (Int32 × Int32 × Int32 × Int32 × Int64 × Int64 × Int64 × Int64 × (Nat → Int32) × (Nat → Int32) × (Nat → Int32) × (Nat → Int32) × (Nat → Int32)) := fun k9 => Nat.rec (motive := fun _ => Int32 → (Nat → Int32) → (Int32 × Int32 × Int32 × Int32 × Int64 × Int64 × Int64 × Int64 × (Nat → Int32) × (Nat → Int32) × (Nat → Int32) × (Nat → Int32) × (Nat → Int32))) (fun _ _ => default) (fun _ (G_L61c : Int32 → (Nat → Int32) → (Int32 × Int32 × Int32 × Int32 × Int64 × Int64 × Int64 × Int64 × (Nat → Int32) × (Nat → Int32) × (Nat → Int32) × (Nat → Int32) × (Nat → Int32))) => fun (v_607 : Int32) (g_608 : Nat → Int32) =>
    if m_thereMany ≤ v_607 then (
      (m_thereMany, h, m_thereMany, n_574, n_575, n_576, n_577, n_578, n_579, g_55, n_581, n_580, g_608)) else (
      let x_627 : Int32 := (n_581 (v_607 : Int32).toNatClampNeg)
      let g_628 : Nat → Int32 := (upd g_608 (v_607 : Int32).toNatClampNeg x_627)
      let x_629 : Int32 := (v_607 + 1)
      G_L61c x_629 g_628)) k9
theorem F_r_findOrder_L61c_s (m_thereMany : Int32) (h : Int32) (g_55 : Nat → Int32) (n_574 : Int32) (n_575 : Int64) (n_576 : Int64) (n_577 : Int64) (n_578 : Int64) (n_579 : Nat → Int32) (n_580 : Nat → Int32) (n_581 : Nat → Int32) (n9 : Nat) (v_607 : Int32) (g_608 : Nat → Int32) : F_r_findOrder_L61c m_thereMany h g_55 n_574 n_575 n_576 n_577 n_578 n_579 n_580 n_581 (n9 + 1) v_607 g_608 = (
    if m_thereMany ≤ v_607 then (
      (m_thereMany, h, m_thereMany, n_574, n_575, n_576, n_577, n_578, n_579, g_55, n_581, n_580, g_608)) else (
      let x_627 : Int32 := (n_581 (v_607 : Int32).toNatClampNeg)
      let g_628 : Nat → Int32 := (upd g_608 (v_607 : Int32).toNatClampNeg x_627)
      let x_629 : Int32 := (v_607 + 1)
      (F_r_findOrder_L61c m_thereMany h g_55 n_574 n_575 n_576 n_577 n_578 n_579 n_580 n_581 n9) x_629 g_628)) := rfl
noncomputable def F_r_findOrder_L61d (m_thereMany : Int32) (h : Int32) (g_55 : Nat → Int32) (n_632 : Int32) (n_633 : Int64) (n_634 : Int64) (n_635 : Int64) (n_636 : Int64) (n_637 : Nat → Int32) (n_638 : Nat → Int32) (n_639 : Nat → Int32) : Nat → Int32 → (Nat → Int32) → (Int32 × Int32 × Int32 × Int32 × Int64 × Int64 × Int64 × Int64 × (Nat → Int32) × (Nat → Int32) × (Nat → Int32) × (Nat → Int32) × (Nat → Int32)) := fun k9 => Nat.rec (motive := fun _ => Int32 → (Nat → Int32) → (Int32 × Int32 × Int32 × Int32 × Int64 × Int64 × Int64 × Int64 × (Nat → Int32) × (Nat → Int32) × (Nat → Int32) × (Nat → Int32) × (Nat → Int32))) (fun _ _ => default) (fun _ (G_L61d : Int32 → (Nat → Int32) → (Int32 × Int32 × Int32 × Int32 × Int64 × Int64 × Int64 × Int64 × (Nat → Int32) × (Nat → Int32) × (Nat → Int32) × (Nat → Int32) × (Nat → Int32))) => fun (v_672 : Int32) (g_673 : Nat → Int32) =>
    if m_thereMany ≤ v_672 then (
      (m_thereMany, h, m_thereMany, n_632, n_633, n_634, n_635, n_636, n_637, g_55, n_639, n_638, g_673)) else (
      let x_692 : Int32 := (n_639 (v_672 : Int32).toNatClampNeg)
      let g_693 : Nat → Int32 := (upd g_673 (v_672 : Int32).toNatClampNeg x_692)
      let x_694 : Int32 := (v_672 + 1)
      G_L61d x_694 g_693)) k9
theorem F_r_findOrder_L61d_s (m_thereMany : Int32) (h : Int32) (g_55 : Nat → Int32) (n_632 : Int32) (n_633 : Int64) (n_634 : Int64) (n_635 : Int64) (n_636 : Int64) (n_637 : Nat → Int32) (n_638 : Nat → Int32) (n_639 : Nat → Int32) (n9 : Nat) (v_672 : Int32) (g_673 : Nat → Int32) : F_r_findOrder_L61d m_thereMany h g_55 n_632 n_633 n_634 n_635 n_636 n_637 n_638 n_639 (n9 + 1) v_672 g_673 = (
    if m_thereMany ≤ v_672 then (
      (m_thereMany, h, m_thereMany, n_632, n_633, n_634, n_635, n_636, n_637, g_55, n_639, n_638, g_673)) else (
      let x_692 : Int32 := (n_639 (v_672 : Int32).toNatClampNeg)
      let g_693 : Nat → Int32 := (upd g_673 (v_672 : Int32).toNatClampNeg x_692)
      let x_694 : Int32 := (v_672 + 1)
      (F_r_findOrder_L61d m_thereMany h g_55 n_632 n_633 n_634 n_635 n_636 n_637 n_638 n_639 n9) x_694 g_693)) := rfl
noncomputable def F_r_findOrder_L61e (m_thereMany : Int32) (h : Int32) (g_55 : Nat → Int32) (n_697 : Int32) (n_698 : Int64) (n_699 : Int64) (n_700 : Int64) (n_701 : Int64) (n_702 : Nat → Int32) (n_703 : Nat → Int32) (n_704 : Nat → Int32) : Nat → Int32 → (Nat → Int32) → (Int32 × Int32 × Int32 × Int32 × Int64 × Int64 × Int64 × Int64 × (Nat → Int32) × (Nat → Int32) × (Nat → Int32) × (Nat → Int32) × (Nat → Int32)) := fun k9 => Nat.rec (motive := fun _ => Int32 → (Nat → Int32) → (Int32 × Int32 × Int32 × Int32 × Int64 × Int64 × Int64 × Int64 × (Nat → Int32) × (Nat → Int32) × (Nat → Int32) × (Nat → Int32) × (Nat → Int32))) (fun _ _ => default) (fun _ (G_L61e : Int32 → (Nat → Int32) → (Int32 × Int32 × Int32 × Int32 × Int64 × Int64 × Int64 × Int64 × (Nat → Int32) × (Nat → Int32) × (Nat → Int32) × (Nat → Int32) × (Nat → Int32))) => fun (v_744 : Int32) (g_745 : Nat → Int32) =>
    if m_thereMany ≤ v_744 then (
      (m_thereMany, h, m_thereMany, n_697, n_698, n_699, n_700, n_701, n_702, g_55, n_704, n_703, g_745)) else (
      let x_764 : Int32 := (n_704 (v_744 : Int32).toNatClampNeg)
      let g_765 : Nat → Int32 := (upd g_745 (v_744 : Int32).toNatClampNeg x_764)
      let x_766 : Int32 := (v_744 + 1)
      G_L61e x_766 g_765)) k9
theorem F_r_findOrder_L61e_s (m_thereMany : Int32) (h : Int32) (g_55 : Nat → Int32) (n_697 : Int32) (n_698 : Int64) (n_699 : Int64) (n_700 : Int64) (n_701 : Int64) (n_702 : Nat → Int32) (n_703 : Nat → Int32) (n_704 : Nat → Int32) (n9 : Nat) (v_744 : Int32) (g_745 : Nat → Int32) : F_r_findOrder_L61e m_thereMany h g_55 n_697 n_698 n_699 n_700 n_701 n_702 n_703 n_704 (n9 + 1) v_744 g_745 = (
    if m_thereMany ≤ v_744 then (
      (m_thereMany, h, m_thereMany, n_697, n_698, n_699, n_700, n_701, n_702, g_55, n_704, n_703, g_745)) else (
      let x_764 : Int32 := (n_704 (v_744 : Int32).toNatClampNeg)
      let g_765 : Nat → Int32 := (upd g_745 (v_744 : Int32).toNatClampNeg x_764)
      let x_766 : Int32 := (v_744 + 1)
      (F_r_findOrder_L61e m_thereMany h g_55 n_697 n_698 n_699 n_700 n_701 n_702 n_703 n_704 n9) x_766 g_765)) := rfl
noncomputable def F_r_findOrder_L61f (m_thereMany : Int32) (h : Int32) (g_55 : Nat → Int32) (n_769 : Int32) (n_770 : Int64) (n_771 : Int64) (n_772 : Int64) (n_773 : Int64) (n_774 : Nat → Int32) (n_775 : Nat → Int32) (n_776 : Nat → Int32) : Nat → Int32 → (Nat → Int32) → (Int32 × Int32 × Int32 × Int32 × Int64 × Int64 × Int64 × Int64 × (Nat → Int32) × (Nat → Int32) × (Nat → Int32) × (Nat → Int32) × (Nat → Int32)) := fun k9 => Nat.rec (motive := fun _ => Int32 → (Nat → Int32) → (Int32 × Int32 × Int32 × Int32 × Int64 × Int64 × Int64 × Int64 × (Nat → Int32) × (Nat → Int32) × (Nat → Int32) × (Nat → Int32) × (Nat → Int32))) (fun _ _ => default) (fun _ (G_L61f : Int32 → (Nat → Int32) → (Int32 × Int32 × Int32 × Int32 × Int64 × Int64 × Int64 × Int64 × (Nat → Int32) × (Nat → Int32) × (Nat → Int32) × (Nat → Int32) × (Nat → Int32))) => fun (v_823 : Int32) (g_824 : Nat → Int32) =>
    if m_thereMany ≤ v_823 then (
      (m_thereMany, h, m_thereMany, n_769, n_770, n_771, n_772, n_773, n_774, g_55, n_776, n_775, g_824)) else (
      let x_843 : Int32 := (n_776 (v_823 : Int32).toNatClampNeg)
      let g_844 : Nat → Int32 := (upd g_824 (v_823 : Int32).toNatClampNeg x_843)
      let x_845 : Int32 := (v_823 + 1)
      G_L61f x_845 g_844)) k9
theorem F_r_findOrder_L61f_s (m_thereMany : Int32) (h : Int32) (g_55 : Nat → Int32) (n_769 : Int32) (n_770 : Int64) (n_771 : Int64) (n_772 : Int64) (n_773 : Int64) (n_774 : Nat → Int32) (n_775 : Nat → Int32) (n_776 : Nat → Int32) (n9 : Nat) (v_823 : Int32) (g_824 : Nat → Int32) : F_r_findOrder_L61f m_thereMany h g_55 n_769 n_770 n_771 n_772 n_773 n_774 n_775 n_776 (n9 + 1) v_823 g_824 = (
    if m_thereMany ≤ v_823 then (
      (m_thereMany, h, m_thereMany, n_769, n_770, n_771, n_772, n_773, n_774, g_55, n_776, n_775, g_824)) else (
      let x_843 : Int32 := (n_776 (v_823 : Int32).toNatClampNeg)
      let g_844 : Nat → Int32 := (upd g_824 (v_823 : Int32).toNatClampNeg x_843)
      let x_845 : Int32 := (v_823 + 1)
      (F_r_findOrder_L61f m_thereMany h g_55 n_769 n_770 n_771 n_772 n_773 n_774 n_775 n_776 n9) x_845 g_844)) := rfl
noncomputable def F_r_findOrder_L61g (m_thereMany : Int32) (h : Int32) (g_55 : Nat → Int32) (n_848 : Int32) (n_849 : Int64) (n_850 : Int64) (n_851 : Int64) (n_852 : Int64) (n_853 : Nat → Int32) (n_854 : Nat → Int32) (n_855 : Nat → Int32) : Nat → Int32 → (Nat → Int32) → (Int32 × Int32 × Int32 × Int32 × Int64 × Int64 × Int64 × Int64 × (Nat → Int32) × (Nat → Int32) × (Nat → Int32) × (Nat → Int32) × (Nat → Int32)) := fun k9 => Nat.rec (motive := fun _ => Int32 → (Nat → Int32) → (Int32 × Int32 × Int32 × Int32 × Int64 × Int64 × Int64 × Int64 × (Nat → Int32) × (Nat → Int32) × (Nat → Int32) × (Nat → Int32) × (Nat → Int32))) (fun _ _ => default) (fun _ (G_L61g : Int32 → (Nat → Int32) → (Int32 × Int32 × Int32 × Int32 × Int64 × Int64 × Int64 × Int64 × (Nat → Int32) × (Nat → Int32) × (Nat → Int32) × (Nat → Int32) × (Nat → Int32))) => fun (v_909 : Int32) (g_910 : Nat → Int32) =>
    if m_thereMany ≤ v_909 then (
      (m_thereMany, h, m_thereMany, n_848, n_849, n_850, n_851, n_852, n_853, g_55, n_855, n_854, g_910)) else (
      let x_929 : Int32 := (n_855 (v_909 : Int32).toNatClampNeg)
      let g_930 : Nat → Int32 := (upd g_910 (v_909 : Int32).toNatClampNeg x_929)
      let x_931 : Int32 := (v_909 + 1)
      G_L61g x_931 g_930)) k9
theorem F_r_findOrder_L61g_s (m_thereMany : Int32) (h : Int32) (g_55 : Nat → Int32) (n_848 : Int32) (n_849 : Int64) (n_850 : Int64) (n_851 : Int64) (n_852 : Int64) (n_853 : Nat → Int32) (n_854 : Nat → Int32) (n_855 : Nat → Int32) (n9 : Nat) (v_909 : Int32) (g_910 : Nat → Int32) : F_r_findOrder_L61g m_thereMany h g_55 n_848 n_849 n_850 n_851 n_852 n_853 n_854 n_855 (n9 + 1) v_909 g_910 = (
    if m_thereMany ≤ v_909 then (
      (m_thereMany, h, m_thereMany, n_848, n_849, n_850, n_851, n_852, n_853, g_55, n_855, n_854, g_910)) else (
      let x_929 : Int32 := (n_855 (v_909 : Int32).toNatClampNeg)
      let g_930 : Nat → Int32 := (upd g_910 (v_909 : Int32).toNatClampNeg x_929)
      let x_931 : Int32 := (v_909 + 1)
      (F_r_findOrder_L61g m_thereMany h g_55 n_848 n_849 n_850 n_851 n_852 n_853 n_854 n_855 n9) x_931 g_930)) := rfl
noncomputable def F_r_findOrder_L15a (m_thereMany : Int32) (m_bestTop : Int64) (m_bestBy : Int64) (m_meanTop : Int64) (m_meanBy : Int64) (g_c : Nat → Int32) (g_there : Nat → Int32) (g_tried : Nat → Int32) (g_found : Nat → Int32) (g_order : Nat → Int32) (h : Int32) : Nat → Int32 → (Nat → Int32) → (Int32 × Int32 × Int32 × Int32 × Int64 × Int64 × Int64 × Int64 × (Nat → Int32) × (Nat → Int32) × (Nat → Int32) × (Nat → Int32) × (Nat → Int32)) := fun k9 => Nat.rec (motive := fun _ => Int32 → (Nat → Int32) → (Int32 × Int32 × Int32 × Int32 × Int64 × Int64 × Int64 × Int64 × (Nat → Int32) × (Nat → Int32) × (Nat → Int32) × (Nat → Int32) × (Nat → Int32))) (fun _ _ => default) (fun _ (G_L15a : Int32 → (Nat → Int32) → (Int32 × Int32 × Int32 × Int32 × Int64 × Int64 × Int64 × Int64 × (Nat → Int32) × (Nat → Int32) × (Nat → Int32) × (Nat → Int32) × (Nat → Int32))) => fun (v_54 : Int32) (g_55 : Nat → Int32) =>
    if m_thereMany ≤ v_54 then (
      if m_thereMany.toInt = 0 then (
        let w_507 := F_r_orderFrom_0 m_thereMany h m_thereMany 0 m_bestTop m_bestBy m_meanTop m_meanBy g_c g_there g_tried g_order
        let n_498 : Int32 := w_507.1
        let n_499 : Int64 := w_507.2.1
        let n_500 : Int64 := w_507.2.2.1
        let n_501 : Int64 := w_507.2.2.2.1
        let n_502 : Int64 := w_507.2.2.2.2.1
        let n_503 : Nat → Int32 := w_507.2.2.2.2.2.1
        let n_504 : Nat → Int32 := w_507.2.2.2.2.2.2
        F_r_findOrder_L61a m_thereMany g_tried g_found h g_55 n_498 n_499 n_500 n_501 n_502 n_503 n_504 (0 + 1)) else
      if m_thereMany.toInt = 1 then (
        let w_533 := F_r_orderFrom_1 m_thereMany h m_thereMany 0 m_bestTop m_bestBy m_meanTop m_meanBy g_c g_there g_tried g_55 g_order 0
        let n_523 : Int32 := w_533.1
        let n_524 : Int64 := w_533.2.1
        let n_525 : Int64 := w_533.2.2.1
        let n_526 : Int64 := w_533.2.2.2.1
        let n_527 : Int64 := w_533.2.2.2.2.1
        let n_528 : Nat → Int32 := w_533.2.2.2.2.2.1
        let n_529 : Nat → Int32 := w_533.2.2.2.2.2.2.1
        let n_530 : Nat → Int32 := w_533.2.2.2.2.2.2.2
        F_r_findOrder_L61b m_thereMany h g_55 n_523 n_524 n_525 n_526 n_527 n_528 n_529 n_530 ((2147483647 - (0 : Int32).toInt).toNat + 1) (0 : Int32) g_found) else
      if m_thereMany.toInt = 2 then (
        let w_584 := F_r_orderFrom_2 m_thereMany h m_thereMany 0 m_bestTop m_bestBy m_meanTop m_meanBy g_c g_there g_tried g_55 g_order 0
        let n_574 : Int32 := w_584.1
        let n_575 : Int64 := w_584.2.1
        let n_576 : Int64 := w_584.2.2.1
        let n_577 : Int64 := w_584.2.2.2.1
        let n_578 : Int64 := w_584.2.2.2.2.1
        let n_579 : Nat → Int32 := w_584.2.2.2.2.2.1
        let n_580 : Nat → Int32 := w_584.2.2.2.2.2.2.1
        let n_581 : Nat → Int32 := w_584.2.2.2.2.2.2.2
        F_r_findOrder_L61c m_thereMany h g_55 n_574 n_575 n_576 n_577 n_578 n_579 n_580 n_581 ((2147483647 - (0 : Int32).toInt).toNat + 1) (0 : Int32) g_found) else
      if m_thereMany.toInt = 3 then (
        let w_642 := F_r_orderFrom_3 m_thereMany h m_thereMany 0 m_bestTop m_bestBy m_meanTop m_meanBy g_c g_there g_tried g_55 g_order 0
        let n_632 : Int32 := w_642.1
        let n_633 : Int64 := w_642.2.1
        let n_634 : Int64 := w_642.2.2.1
        let n_635 : Int64 := w_642.2.2.2.1
        let n_636 : Int64 := w_642.2.2.2.2.1
        let n_637 : Nat → Int32 := w_642.2.2.2.2.2.1
        let n_638 : Nat → Int32 := w_642.2.2.2.2.2.2.1
        let n_639 : Nat → Int32 := w_642.2.2.2.2.2.2.2
        F_r_findOrder_L61d m_thereMany h g_55 n_632 n_633 n_634 n_635 n_636 n_637 n_638 n_639 ((2147483647 - (0 : Int32).toInt).toNat + 1) (0 : Int32) g_found) else
      if m_thereMany.toInt = 4 then (
        let w_707 := F_r_orderFrom_4 m_thereMany h m_thereMany 0 m_bestTop m_bestBy m_meanTop m_meanBy g_c g_there g_tried g_55 g_order 0
        let n_697 : Int32 := w_707.1
        let n_698 : Int64 := w_707.2.1
        let n_699 : Int64 := w_707.2.2.1
        let n_700 : Int64 := w_707.2.2.2.1
        let n_701 : Int64 := w_707.2.2.2.2.1
        let n_702 : Nat → Int32 := w_707.2.2.2.2.2.1
        let n_703 : Nat → Int32 := w_707.2.2.2.2.2.2.1
        let n_704 : Nat → Int32 := w_707.2.2.2.2.2.2.2
        F_r_findOrder_L61e m_thereMany h g_55 n_697 n_698 n_699 n_700 n_701 n_702 n_703 n_704 ((2147483647 - (0 : Int32).toInt).toNat + 1) (0 : Int32) g_found) else
      if m_thereMany.toInt = 5 then (
        let w_779 := F_r_orderFrom_5 m_thereMany h m_thereMany 0 m_bestTop m_bestBy m_meanTop m_meanBy g_c g_there g_tried g_55 g_order 0
        let n_769 : Int32 := w_779.1
        let n_770 : Int64 := w_779.2.1
        let n_771 : Int64 := w_779.2.2.1
        let n_772 : Int64 := w_779.2.2.2.1
        let n_773 : Int64 := w_779.2.2.2.2.1
        let n_774 : Nat → Int32 := w_779.2.2.2.2.2.1
        let n_775 : Nat → Int32 := w_779.2.2.2.2.2.2.1
        let n_776 : Nat → Int32 := w_779.2.2.2.2.2.2.2
        F_r_findOrder_L61f m_thereMany h g_55 n_769 n_770 n_771 n_772 n_773 n_774 n_775 n_776 ((2147483647 - (0 : Int32).toInt).toNat + 1) (0 : Int32) g_found) else
      (
        let w_858 := F_r_orderFrom_6 m_thereMany h m_thereMany 0 m_bestTop m_bestBy m_meanTop m_meanBy g_c g_there g_tried g_55 g_order 0
        let n_848 : Int32 := w_858.1
        let n_849 : Int64 := w_858.2.1
        let n_850 : Int64 := w_858.2.2.1
        let n_851 : Int64 := w_858.2.2.2.1
        let n_852 : Int64 := w_858.2.2.2.2.1
        let n_853 : Nat → Int32 := w_858.2.2.2.2.2.1
        let n_854 : Nat → Int32 := w_858.2.2.2.2.2.2.1
        let n_855 : Nat → Int32 := w_858.2.2.2.2.2.2.2
        F_r_findOrder_L61g m_thereMany h g_55 n_848 n_849 n_850 n_851 n_852 n_853 n_854 n_855 ((2147483647 - (0 : Int32).toInt).toNat + 1) (0 : Int32) g_found)) else (
      let x_935 : Int32 := (g_there (v_54 : Int32).toNatClampNeg)
      let g_936 : Nat → Int32 := (upd g_55 (v_54 : Int32).toNatClampNeg x_935)
      let x_937 : Int32 := (v_54 + 1)
      G_L15a x_937 g_936)) k9
theorem F_r_findOrder_L15a_s (m_thereMany : Int32) (m_bestTop : Int64) (m_bestBy : Int64) (m_meanTop : Int64) (m_meanBy : Int64) (g_c : Nat → Int32) (g_there : Nat → Int32) (g_tried : Nat → Int32) (g_found : Nat → Int32) (g_order : Nat → Int32) (h : Int32) (n9 : Nat) (v_54 : Int32) (g_55 : Nat → Int32) : F_r_findOrder_L15a m_thereMany m_bestTop m_bestBy m_meanTop m_meanBy g_c g_there g_tried g_found g_order h (n9 + 1) v_54 g_55 = (
    if m_thereMany ≤ v_54 then (
      if m_thereMany.toInt = 0 then (
        let w_507 := F_r_orderFrom_0 m_thereMany h m_thereMany 0 m_bestTop m_bestBy m_meanTop m_meanBy g_c g_there g_tried g_order
        let n_498 : Int32 := w_507.1
        let n_499 : Int64 := w_507.2.1
        let n_500 : Int64 := w_507.2.2.1
        let n_501 : Int64 := w_507.2.2.2.1
        let n_502 : Int64 := w_507.2.2.2.2.1
        let n_503 : Nat → Int32 := w_507.2.2.2.2.2.1
        let n_504 : Nat → Int32 := w_507.2.2.2.2.2.2
        F_r_findOrder_L61a m_thereMany g_tried g_found h g_55 n_498 n_499 n_500 n_501 n_502 n_503 n_504 (0 + 1)) else
      if m_thereMany.toInt = 1 then (
        let w_533 := F_r_orderFrom_1 m_thereMany h m_thereMany 0 m_bestTop m_bestBy m_meanTop m_meanBy g_c g_there g_tried g_55 g_order 0
        let n_523 : Int32 := w_533.1
        let n_524 : Int64 := w_533.2.1
        let n_525 : Int64 := w_533.2.2.1
        let n_526 : Int64 := w_533.2.2.2.1
        let n_527 : Int64 := w_533.2.2.2.2.1
        let n_528 : Nat → Int32 := w_533.2.2.2.2.2.1
        let n_529 : Nat → Int32 := w_533.2.2.2.2.2.2.1
        let n_530 : Nat → Int32 := w_533.2.2.2.2.2.2.2
        F_r_findOrder_L61b m_thereMany h g_55 n_523 n_524 n_525 n_526 n_527 n_528 n_529 n_530 ((2147483647 - (0 : Int32).toInt).toNat + 1) (0 : Int32) g_found) else
      if m_thereMany.toInt = 2 then (
        let w_584 := F_r_orderFrom_2 m_thereMany h m_thereMany 0 m_bestTop m_bestBy m_meanTop m_meanBy g_c g_there g_tried g_55 g_order 0
        let n_574 : Int32 := w_584.1
        let n_575 : Int64 := w_584.2.1
        let n_576 : Int64 := w_584.2.2.1
        let n_577 : Int64 := w_584.2.2.2.1
        let n_578 : Int64 := w_584.2.2.2.2.1
        let n_579 : Nat → Int32 := w_584.2.2.2.2.2.1
        let n_580 : Nat → Int32 := w_584.2.2.2.2.2.2.1
        let n_581 : Nat → Int32 := w_584.2.2.2.2.2.2.2
        F_r_findOrder_L61c m_thereMany h g_55 n_574 n_575 n_576 n_577 n_578 n_579 n_580 n_581 ((2147483647 - (0 : Int32).toInt).toNat + 1) (0 : Int32) g_found) else
      if m_thereMany.toInt = 3 then (
        let w_642 := F_r_orderFrom_3 m_thereMany h m_thereMany 0 m_bestTop m_bestBy m_meanTop m_meanBy g_c g_there g_tried g_55 g_order 0
        let n_632 : Int32 := w_642.1
        let n_633 : Int64 := w_642.2.1
        let n_634 : Int64 := w_642.2.2.1
        let n_635 : Int64 := w_642.2.2.2.1
        let n_636 : Int64 := w_642.2.2.2.2.1
        let n_637 : Nat → Int32 := w_642.2.2.2.2.2.1
        let n_638 : Nat → Int32 := w_642.2.2.2.2.2.2.1
        let n_639 : Nat → Int32 := w_642.2.2.2.2.2.2.2
        F_r_findOrder_L61d m_thereMany h g_55 n_632 n_633 n_634 n_635 n_636 n_637 n_638 n_639 ((2147483647 - (0 : Int32).toInt).toNat + 1) (0 : Int32) g_found) else
      if m_thereMany.toInt = 4 then (
        let w_707 := F_r_orderFrom_4 m_thereMany h m_thereMany 0 m_bestTop m_bestBy m_meanTop m_meanBy g_c g_there g_tried g_55 g_order 0
        let n_697 : Int32 := w_707.1
        let n_698 : Int64 := w_707.2.1
        let n_699 : Int64 := w_707.2.2.1
        let n_700 : Int64 := w_707.2.2.2.1
        let n_701 : Int64 := w_707.2.2.2.2.1
        let n_702 : Nat → Int32 := w_707.2.2.2.2.2.1
        let n_703 : Nat → Int32 := w_707.2.2.2.2.2.2.1
        let n_704 : Nat → Int32 := w_707.2.2.2.2.2.2.2
        F_r_findOrder_L61e m_thereMany h g_55 n_697 n_698 n_699 n_700 n_701 n_702 n_703 n_704 ((2147483647 - (0 : Int32).toInt).toNat + 1) (0 : Int32) g_found) else
      if m_thereMany.toInt = 5 then (
        let w_779 := F_r_orderFrom_5 m_thereMany h m_thereMany 0 m_bestTop m_bestBy m_meanTop m_meanBy g_c g_there g_tried g_55 g_order 0
        let n_769 : Int32 := w_779.1
        let n_770 : Int64 := w_779.2.1
        let n_771 : Int64 := w_779.2.2.1
        let n_772 : Int64 := w_779.2.2.2.1
        let n_773 : Int64 := w_779.2.2.2.2.1
        let n_774 : Nat → Int32 := w_779.2.2.2.2.2.1
        let n_775 : Nat → Int32 := w_779.2.2.2.2.2.2.1
        let n_776 : Nat → Int32 := w_779.2.2.2.2.2.2.2
        F_r_findOrder_L61f m_thereMany h g_55 n_769 n_770 n_771 n_772 n_773 n_774 n_775 n_776 ((2147483647 - (0 : Int32).toInt).toNat + 1) (0 : Int32) g_found) else
      (
        let w_858 := F_r_orderFrom_6 m_thereMany h m_thereMany 0 m_bestTop m_bestBy m_meanTop m_meanBy g_c g_there g_tried g_55 g_order 0
        let n_848 : Int32 := w_858.1
        let n_849 : Int64 := w_858.2.1
        let n_850 : Int64 := w_858.2.2.1
        let n_851 : Int64 := w_858.2.2.2.1
        let n_852 : Int64 := w_858.2.2.2.2.1
        let n_853 : Nat → Int32 := w_858.2.2.2.2.2.1
        let n_854 : Nat → Int32 := w_858.2.2.2.2.2.2.1
        let n_855 : Nat → Int32 := w_858.2.2.2.2.2.2.2
        F_r_findOrder_L61g m_thereMany h g_55 n_848 n_849 n_850 n_851 n_852 n_853 n_854 n_855 ((2147483647 - (0 : Int32).toInt).toNat + 1) (0 : Int32) g_found)) else (
      let x_935 : Int32 := (g_there (v_54 : Int32).toNatClampNeg)
      let g_936 : Nat → Int32 := (upd g_55 (v_54 : Int32).toNatClampNeg x_935)
      let x_937 : Int32 := (v_54 + 1)
      (F_r_findOrder_L15a m_thereMany m_bestTop m_bestBy m_meanTop m_meanBy g_c g_there g_tried g_found g_order h n9) x_937 g_936)) := rfl
noncomputable def F_r_findOrder (m_thereMany : Int32) (m_bestTop : Int64) (m_bestBy : Int64) (m_meanTop : Int64) (m_meanBy : Int64) (g_c : Nat → Int32) (g_there : Nat → Int32) (g_tried : Nat → Int32) (g_best : Nat → Int32) (g_found : Nat → Int32) (g_order : Nat → Int32) (h : Int32) : Int32 × Int32 × Int32 × Int32 × Int64 × Int64 × Int64 × Int64 × (Nat → Int32) × (Nat → Int32) × (Nat → Int32) × (Nat → Int32) × (Nat → Int32) :=
  F_r_findOrder_L15a m_thereMany m_bestTop m_bestBy m_meanTop m_meanBy g_c g_there g_tried g_found g_order h ((2147483647 - (0 : Int32).toInt).toNat + 1) (0 : Int32) g_best
theorem F_r_findOrder_s (m_thereMany : Int32) (m_bestTop : Int64) (m_bestBy : Int64) (m_meanTop : Int64) (m_meanBy : Int64) (g_c : Nat → Int32) (g_there : Nat → Int32) (g_tried : Nat → Int32) (g_best : Nat → Int32) (g_found : Nat → Int32) (g_order : Nat → Int32) (h : Int32) : F_r_findOrder m_thereMany m_bestTop m_bestBy m_meanTop m_meanBy g_c g_there g_tried g_best g_found g_order h = (
  F_r_findOrder_L15a m_thereMany m_bestTop m_bestBy m_meanTop m_meanBy g_c g_there g_tried g_found g_order h ((2147483647 - (0 : Int32).toInt).toNat + 1) (0 : Int32) g_best) := rfl
noncomputable def F_r_laidForRound (m_bestTop : Int64) (m_bestBy : Int64) (m_meanTop : Int64) (m_meanBy : Int64) (g_c : Nat → Int32) (g_there : Nat → Int32) (g_tried : Nat → Int32) (g_best : Nat → Int32) (g_found : Nat → Int32) (g_order : Nat → Int32) (r : Int32) : Int32 :=
  let w_3 := F_r_isRing g_c r
  let r_1 : Int32 := w_3
  if r_1 = 0 then (
    let w_9 := F_r_refuse 2
    let r_7 : Int32 := w_9.1
    let n_6 : Int32 := w_9.2
    r_7) else
  (
    let w_15 := F_r_gather g_c g_there r
    let n_11 : Int32 := w_15.1
    let n_12 : Nat → Int32 := w_15.2
    if n_11 ≤ 6 then (
      let x_20 : Int32 := (g_c (4 : Int32).toNatClampNeg)
      if x_20 = 0 then (
        let w_26 := F_r_refuse 8
        let r_24 : Int32 := w_26.1
        let n_23 : Int32 := w_26.2
        r_24) else (
        let w_31 := F_r_walk n_11 g_c n_12
        let r_29 : Int32 := w_31
        if 0 ≤ r_29 then (
          let w_49 := F_r_findOrder n_11 m_bestTop m_bestBy m_meanTop m_meanBy g_c n_12 g_tried g_best g_found g_order 2
          let n_34 : Int32 := w_49.1
          let n_35 : Int32 := w_49.2.1
          let n_36 : Int32 := w_49.2.2.1
          let n_37 : Int32 := w_49.2.2.2.1
          let n_38 : Int64 := w_49.2.2.2.2.1
          let n_39 : Int64 := w_49.2.2.2.2.2.1
          let n_40 : Int64 := w_49.2.2.2.2.2.2.1
          let n_41 : Int64 := w_49.2.2.2.2.2.2.2.1
          let n_42 : Nat → Int32 := w_49.2.2.2.2.2.2.2.2.1
          let n_43 : Nat → Int32 := w_49.2.2.2.2.2.2.2.2.2.1
          let n_44 : Nat → Int32 := w_49.2.2.2.2.2.2.2.2.2.2.1
          let n_45 : Nat → Int32 := w_49.2.2.2.2.2.2.2.2.2.2.2.1
          let n_46 : Nat → Int32 := w_49.2.2.2.2.2.2.2.2.2.2.2.2
          let x_51 : Int32 := ((n_38).toInt32)
          x_51) else (
          let w_57 := F_r_refuse 8
          let r_55 : Int32 := w_57.1
          let n_54 : Int32 := w_57.2
          r_55))) else (
      let w_63 := F_r_refuse 7
      let r_61 : Int32 := w_63.1
      let n_60 : Int32 := w_63.2
      r_61))
theorem F_r_laidForRound_s (m_bestTop : Int64) (m_bestBy : Int64) (m_meanTop : Int64) (m_meanBy : Int64) (g_c : Nat → Int32) (g_there : Nat → Int32) (g_tried : Nat → Int32) (g_best : Nat → Int32) (g_found : Nat → Int32) (g_order : Nat → Int32) (r : Int32) : F_r_laidForRound m_bestTop m_bestBy m_meanTop m_meanBy g_c g_there g_tried g_best g_found g_order r = (
  let w_3 := F_r_isRing g_c r
  let r_1 : Int32 := w_3
  if r_1 = 0 then (
    let w_9 := F_r_refuse 2
    let r_7 : Int32 := w_9.1
    let n_6 : Int32 := w_9.2
    r_7) else
  (
    let w_15 := F_r_gather g_c g_there r
    let n_11 : Int32 := w_15.1
    let n_12 : Nat → Int32 := w_15.2
    if n_11 ≤ 6 then (
      let x_20 : Int32 := (g_c (4 : Int32).toNatClampNeg)
      if x_20 = 0 then (
        let w_26 := F_r_refuse 8
        let r_24 : Int32 := w_26.1
        let n_23 : Int32 := w_26.2
        r_24) else (
        let w_31 := F_r_walk n_11 g_c n_12
        let r_29 : Int32 := w_31
        if 0 ≤ r_29 then (
          let w_49 := F_r_findOrder n_11 m_bestTop m_bestBy m_meanTop m_meanBy g_c n_12 g_tried g_best g_found g_order 2
          let n_34 : Int32 := w_49.1
          let n_35 : Int32 := w_49.2.1
          let n_36 : Int32 := w_49.2.2.1
          let n_37 : Int32 := w_49.2.2.2.1
          let n_38 : Int64 := w_49.2.2.2.2.1
          let n_39 : Int64 := w_49.2.2.2.2.2.1
          let n_40 : Int64 := w_49.2.2.2.2.2.2.1
          let n_41 : Int64 := w_49.2.2.2.2.2.2.2.1
          let n_42 : Nat → Int32 := w_49.2.2.2.2.2.2.2.2.1
          let n_43 : Nat → Int32 := w_49.2.2.2.2.2.2.2.2.2.1
          let n_44 : Nat → Int32 := w_49.2.2.2.2.2.2.2.2.2.2.1
          let n_45 : Nat → Int32 := w_49.2.2.2.2.2.2.2.2.2.2.2.1
          let n_46 : Nat → Int32 := w_49.2.2.2.2.2.2.2.2.2.2.2.2
          let x_51 : Int32 := ((n_38).toInt32)
          x_51) else (
          let w_57 := F_r_refuse 8
          let r_55 : Int32 := w_57.1
          let n_54 : Int32 := w_57.2
          r_55))) else (
      let w_63 := F_r_refuse 7
      let r_61 : Int32 := w_63.1
      let n_60 : Int32 := w_63.2
      r_61))) := rfl
noncomputable def F_r_differ_L3a (g_c : Nat → Int32) (k : Int32) (w : Int32) (j : Int32) (v : Int32) (x : Int32) : Nat → Int32 → Int32 := fun k9 => Nat.rec (motive := fun _ => Int32 → Int32) (fun _ => default) (fun _ (G_L3a : Int32 → Int32) => fun (v_90 : Int32) =>
    let x_137 : Int32 := (g_c (0 : Int32).toNatClampNeg)
    if x_137 ≤ v_90 then (
      (0 : Int32)) else (
      let x_142 : Int32 := (x >>> (v_90 &&& 31))
      let x_143 : Int32 := (x_142 &&& 1)
      if x_143 = 1 then (
        let w_151 := F_r_stepAs g_c k v_90 w
        let r_149 : Int32 := w_151
        let w_155 := F_r_stepAs g_c j v_90 v
        let r_153 : Int32 := w_155
        if r_149 = r_153 then (
          let x_159 : Int32 := (v_90 + 1)
          G_L3a x_159) else (
          (1 : Int32))) else (
        let x_146 : Int32 := (v_90 + 1)
        G_L3a x_146))) k9
theorem F_r_differ_L3a_s (g_c : Nat → Int32) (k : Int32) (w : Int32) (j : Int32) (v : Int32) (x : Int32) (n9 : Nat) (v_90 : Int32) : F_r_differ_L3a g_c k w j v x (n9 + 1) v_90 = (
    let x_137 : Int32 := (g_c (0 : Int32).toNatClampNeg)
    if x_137 ≤ v_90 then (
      (0 : Int32)) else (
      let x_142 : Int32 := (x >>> (v_90 &&& 31))
      let x_143 : Int32 := (x_142 &&& 1)
      if x_143 = 1 then (
        let w_151 := F_r_stepAs g_c k v_90 w
        let r_149 : Int32 := w_151
        let w_155 := F_r_stepAs g_c j v_90 v
        let r_153 : Int32 := w_155
        if r_149 = r_153 then (
          let x_159 : Int32 := (v_90 + 1)
          (F_r_differ_L3a g_c k w j v x n9) x_159) else (
          (1 : Int32))) else (
        let x_146 : Int32 := (v_90 + 1)
        (F_r_differ_L3a g_c k w j v x n9) x_146))) := rfl
noncomputable def F_r_differ (g_c : Nat → Int32) (k : Int32) (w : Int32) (j : Int32) (v : Int32) (x : Int32) : Int32 :=
  F_r_differ_L3a g_c k w j v x ((2147483647 - (0 : Int32).toInt).toNat + 1) (0 : Int32)
theorem F_r_differ_s (g_c : Nat → Int32) (k : Int32) (w : Int32) (j : Int32) (v : Int32) (x : Int32) : F_r_differ g_c k w j v x = (
  F_r_differ_L3a g_c k w j v x ((2147483647 - (0 : Int32).toInt).toNat + 1) (0 : Int32)) := rfl
noncomputable def F_r_tellsAll_L15a (m_thereMany : Int32) (g_c : Nat → Int32) (g_there : Nat → Int32) (x : Int32) (o : Int32) (v_2222 : Int32) (G_L2a : Int32 → (Int32)) : Nat → Int32 → Int32 := fun k9 => Nat.rec (motive := fun _ => Int32 → Int32) (fun _ => default) (fun _ (G_L15a : Int32 → Int32) => fun (v_2537 : Int32) =>
    if m_thereMany ≤ v_2537 then (
      let x_2595 : Int32 := (v_2222 + 1)
      G_L2a x_2595) else (
      let x_2598 : Int32 := (g_there (v_2222 : Int32).toNatClampNeg)
      let x_2599 : Int32 := (g_there (v_2537 : Int32).toNatClampNeg)
      let w_2602 := F_r_differ g_c x_2598 0 x_2599 0 x
      let r_2600 : Int32 := w_2602
      if r_2600 = 0 then (
        if o = 0 then (
          (0 : Int32)) else (
          (0 : Int32))) else
      (
        if o = 0 then (
          let x_2610 : Int32 := (v_2537 + 1)
          G_L15a x_2610) else (
          let x_2613 : Int32 := (g_there (v_2222 : Int32).toNatClampNeg)
          let x_2614 : Int32 := (g_there (v_2537 : Int32).toNatClampNeg)
          let w_2617 := F_r_differ g_c x_2613 0 x_2614 1 x
          let r_2615 : Int32 := w_2617
          if r_2615 = 0 then (
            (0 : Int32)) else
          (
            let x_2619 : Int32 := (g_there (v_2222 : Int32).toNatClampNeg)
            let x_2620 : Int32 := (g_there (v_2537 : Int32).toNatClampNeg)
            let w_2623 := F_r_differ g_c x_2619 1 x_2620 0 x
            let r_2621 : Int32 := w_2623
            if r_2621 = 0 then (
              (0 : Int32)) else
            (
              let x_2625 : Int32 := (v_2537 + 1)
              G_L15a x_2625)))))) k9
theorem F_r_tellsAll_L15a_s (m_thereMany : Int32) (g_c : Nat → Int32) (g_there : Nat → Int32) (x : Int32) (o : Int32) (v_2222 : Int32) (G_L2a : Int32 → (Int32)) (n9 : Nat) (v_2537 : Int32) : F_r_tellsAll_L15a m_thereMany g_c g_there x o v_2222 G_L2a (n9 + 1) v_2537 = (
    if m_thereMany ≤ v_2537 then (
      let x_2595 : Int32 := (v_2222 + 1)
      G_L2a x_2595) else (
      let x_2598 : Int32 := (g_there (v_2222 : Int32).toNatClampNeg)
      let x_2599 : Int32 := (g_there (v_2537 : Int32).toNatClampNeg)
      let w_2602 := F_r_differ g_c x_2598 0 x_2599 0 x
      let r_2600 : Int32 := w_2602
      if r_2600 = 0 then (
        if o = 0 then (
          (0 : Int32)) else (
          (0 : Int32))) else
      (
        if o = 0 then (
          let x_2610 : Int32 := (v_2537 + 1)
          (F_r_tellsAll_L15a m_thereMany g_c g_there x o v_2222 G_L2a n9) x_2610) else (
          let x_2613 : Int32 := (g_there (v_2222 : Int32).toNatClampNeg)
          let x_2614 : Int32 := (g_there (v_2537 : Int32).toNatClampNeg)
          let w_2617 := F_r_differ g_c x_2613 0 x_2614 1 x
          let r_2615 : Int32 := w_2617
          if r_2615 = 0 then (
            (0 : Int32)) else
          (
            let x_2619 : Int32 := (g_there (v_2222 : Int32).toNatClampNeg)
            let x_2620 : Int32 := (g_there (v_2537 : Int32).toNatClampNeg)
            let w_2623 := F_r_differ g_c x_2619 1 x_2620 0 x
            let r_2621 : Int32 := w_2623
            if r_2621 = 0 then (
              (0 : Int32)) else
            (
              let x_2625 : Int32 := (v_2537 + 1)
              (F_r_tellsAll_L15a m_thereMany g_c g_there x o v_2222 G_L2a n9) x_2625)))))) := rfl
noncomputable def F_r_tellsAll_L2a (m_thereMany : Int32) (g_c : Nat → Int32) (g_there : Nat → Int32) (x : Int32) (o : Int32) : Nat → Int32 → Int32 := fun k9 => Nat.rec (motive := fun _ => Int32 → Int32) (fun _ => default) (fun _ (G_L2a : Int32 → Int32) => fun (v_2222 : Int32) =>
    if m_thereMany ≤ v_2222 then (
      (1 : Int32)) else (
      let x_2483 : Int32 := (v_2222 + 1)
      F_r_tellsAll_L15a m_thereMany g_c g_there x o v_2222 G_L2a ((2147483647 - x_2483.toInt).toNat + 1) x_2483)) k9
theorem F_r_tellsAll_L2a_s (m_thereMany : Int32) (g_c : Nat → Int32) (g_there : Nat → Int32) (x : Int32) (o : Int32) (n9 : Nat) (v_2222 : Int32) : F_r_tellsAll_L2a m_thereMany g_c g_there x o (n9 + 1) v_2222 = (
    if m_thereMany ≤ v_2222 then (
      (1 : Int32)) else (
      let x_2483 : Int32 := (v_2222 + 1)
      F_r_tellsAll_L15a m_thereMany g_c g_there x o v_2222 (F_r_tellsAll_L2a m_thereMany g_c g_there x o n9) ((2147483647 - x_2483.toInt).toNat + 1) x_2483)) := rfl
noncomputable def F_r_tellsAll (m_thereMany : Int32) (g_c : Nat → Int32) (g_there : Nat → Int32) (x : Int32) (o : Int32) : Int32 :=
  F_r_tellsAll_L2a m_thereMany g_c g_there x o ((2147483647 - (0 : Int32).toInt).toNat + 1) (0 : Int32)
theorem F_r_tellsAll_s (m_thereMany : Int32) (g_c : Nat → Int32) (g_there : Nat → Int32) (x : Int32) (o : Int32) : F_r_tellsAll m_thereMany g_c g_there x o = (
  F_r_tellsAll_L2a m_thereMany g_c g_there x o ((2147483647 - (0 : Int32).toInt).toNat + 1) (0 : Int32)) := rfl
noncomputable def F_r_all (g_c : Nat → Int32) : Int32 :=
  let x_1 : Int32 := (g_c (0 : Int32).toNatClampNeg)
  let x_2 : Int32 := ((1 : Int32) <<< (x_1 &&& 31))
  let x_3 : Int32 := (x_2 - 1)
  x_3
theorem F_r_all_s (g_c : Nat → Int32) : F_r_all g_c = (
  let x_1 : Int32 := (g_c (0 : Int32).toNatClampNeg)
  let x_2 : Int32 := ((1 : Int32) <<< (x_1 &&& 31))
  let x_3 : Int32 := (x_2 - 1)
  x_3) := rfl
noncomputable def F_r_alike_L46a (g_c : Nat → Int32) (n_11 : Int32) (n_12 : Nat → Int32) (v_2004 : Int32) (G_L33a : Int32 → Int32 → (Int32 × Int32 × Int32 × Int32 × (Nat → Int32))) : Nat → Int32 → Int32 → (Int32 × Int32 × Int32 × Int32 × (Nat → Int32)) := fun k9 => Nat.rec (motive := fun _ => Int32 → Int32 → (Int32 × Int32 × Int32 × Int32 × (Nat → Int32))) (fun _ _ => default) (fun _ (G_L46a : Int32 → Int32 → (Int32 × Int32 × Int32 × Int32 × (Nat → Int32))) => fun (v_2203 : Int32) (v_2204 : Int32) =>
    if n_11 ≤ v_2204 then (
      let x_2240 : Int32 := (v_2004 + 1)
      G_L33a v_2203 x_2240) else (
      let x_2243 : Int32 := (n_12 (v_2004 : Int32).toNatClampNeg)
      let x_2244 : Int32 := (n_12 (v_2204 : Int32).toNatClampNeg)
      let w_2247 := F_r_all g_c
      let r_2245 : Int32 := w_2247
      let w_2250 := F_r_differ g_c x_2243 0 x_2244 0 r_2245
      let r_2248 : Int32 := w_2250
      if r_2248 = 0 then (
        let x_2251 : Int32 := (v_2203 + 1)
        let x_2252 : Int32 := (v_2204 + 1)
        G_L46a x_2251 x_2252) else
      (
        let x_2254 : Int32 := (v_2203 + 0)
        let x_2255 : Int32 := (v_2204 + 1)
        G_L46a x_2254 x_2255))) k9
theorem F_r_alike_L46a_s (g_c : Nat → Int32) (n_11 : Int32) (n_12 : Nat → Int32) (v_2004 : Int32) (G_L33a : Int32 → Int32 → (Int32 × Int32 × Int32 × Int32 × (Nat → Int32))) (n9 : Nat) (v_2203 : Int32) (v_2204 : Int32) : F_r_alike_L46a g_c n_11 n_12 v_2004 G_L33a (n9 + 1) v_2203 v_2204 = (
    if n_11 ≤ v_2204 then (
      let x_2240 : Int32 := (v_2004 + 1)
      G_L33a v_2203 x_2240) else (
      let x_2243 : Int32 := (n_12 (v_2004 : Int32).toNatClampNeg)
      let x_2244 : Int32 := (n_12 (v_2204 : Int32).toNatClampNeg)
      let w_2247 := F_r_all g_c
      let r_2245 : Int32 := w_2247
      let w_2250 := F_r_differ g_c x_2243 0 x_2244 0 r_2245
      let r_2248 : Int32 := w_2250
      if r_2248 = 0 then (
        let x_2251 : Int32 := (v_2203 + 1)
        let x_2252 : Int32 := (v_2204 + 1)
        (F_r_alike_L46a g_c n_11 n_12 v_2004 G_L33a n9) x_2251 x_2252) else
      (
        let x_2254 : Int32 := (v_2203 + 0)
        let x_2255 : Int32 := (v_2204 + 1)
        (F_r_alike_L46a g_c n_11 n_12 v_2004 G_L33a n9) x_2254 x_2255))) := rfl
noncomputable def F_r_alike_L33a (g_c : Nat → Int32) (n_11 : Int32) (n_12 : Nat → Int32) : Nat → Int32 → Int32 → (Int32 × Int32 × Int32 × Int32 × (Nat → Int32)) := fun k9 => Nat.rec (motive := fun _ => Int32 → Int32 → (Int32 × Int32 × Int32 × Int32 × (Nat → Int32))) (fun _ _ => default) (fun _ (G_L33a : Int32 → Int32 → (Int32 × Int32 × Int32 × Int32 × (Nat → Int32))) => fun (v_2003 : Int32) (v_2004 : Int32) =>
    if n_11 ≤ v_2004 then (
      (v_2003, (0 : Int32), (0 : Int32), n_11, n_12)) else (
      let x_2170 : Int32 := (v_2004 + 1)
      F_r_alike_L46a g_c n_11 n_12 v_2004 G_L33a ((2147483647 - x_2170.toInt).toNat + 1) v_2003 x_2170)) k9
theorem F_r_alike_L33a_s (g_c : Nat → Int32) (n_11 : Int32) (n_12 : Nat → Int32) (n9 : Nat) (v_2003 : Int32) (v_2004 : Int32) : F_r_alike_L33a g_c n_11 n_12 (n9 + 1) v_2003 v_2004 = (
    if n_11 ≤ v_2004 then (
      (v_2003, (0 : Int32), (0 : Int32), n_11, n_12)) else (
      let x_2170 : Int32 := (v_2004 + 1)
      F_r_alike_L46a g_c n_11 n_12 v_2004 (F_r_alike_L33a g_c n_11 n_12 n9) ((2147483647 - x_2170.toInt).toNat + 1) v_2003 x_2170)) := rfl
noncomputable def F_r_alike (m_thereMany : Int32) (g_c : Nat → Int32) (g_there : Nat → Int32) (r : Int32) : Int32 × Int32 × Int32 × Int32 × (Nat → Int32) :=
  let w_3 := F_r_isRing g_c r
  let r_1 : Int32 := w_3
  if r_1 = 0 then (
    let w_9 := F_r_refuse 2
    let r_7 : Int32 := w_9.1
    let n_6 : Int32 := w_9.2
    (r_7, n_6, (0 : Int32), m_thereMany, g_there)) else
  (
    let w_15 := F_r_gather g_c g_there r
    let n_11 : Int32 := w_15.1
    let n_12 : Nat → Int32 := w_15.2
    F_r_alike_L33a g_c n_11 n_12 ((2147483647 - (0 : Int32).toInt).toNat + 1) (0 : Int32) (0 : Int32))
theorem F_r_alike_s (m_thereMany : Int32) (g_c : Nat → Int32) (g_there : Nat → Int32) (r : Int32) : F_r_alike m_thereMany g_c g_there r = (
  let w_3 := F_r_isRing g_c r
  let r_1 : Int32 := w_3
  if r_1 = 0 then (
    let w_9 := F_r_refuse 2
    let r_7 : Int32 := w_9.1
    let n_6 : Int32 := w_9.2
    (r_7, n_6, (0 : Int32), m_thereMany, g_there)) else
  (
    let w_15 := F_r_gather g_c g_there r
    let n_11 : Int32 := w_15.1
    let n_12 : Nat → Int32 := w_15.2
    F_r_alike_L33a g_c n_11 n_12 ((2147483647 - (0 : Int32).toInt).toNat + 1) (0 : Int32) (0 : Int32))) := rfl
noncomputable def F_r_apart_L34a (g_c : Nat → Int32) (o : Int32) (n_11 : Int32) (n_12 : Nat → Int32) : Nat → Int32 → Int32 → (Int32 × Int32 × Int32 × Int32 × (Nat → Int32)) := fun k9 => Nat.rec (motive := fun _ => Int32 → Int32 → (Int32 × Int32 × Int32 × Int32 × (Nat → Int32))) (fun _ _ => default) (fun _ (G_L34a : Int32 → Int32 → (Int32 × Int32 × Int32 × Int32 × (Nat → Int32))) => fun (v_274 : Int32) (v_275 : Int32) =>
    let w_345 := F_r_all g_c
    let r_343 : Int32 := w_345
    if r_343 < v_275 then (
      if 0 ≤ v_274 then (
        (v_274, (0 : Int32), (0 : Int32), n_11, n_12)) else (
        let w_355 := F_r_refuse 8
        let r_353 : Int32 := w_355.1
        let n_352 : Int32 := w_355.2
        (r_353, n_352, (0 : Int32), n_11, n_12))) else (
      if v_274 < 0 then (
        let w_362 := F_r_tellsAll n_11 g_c n_12 v_275 o
        let r_360 : Int32 := w_362
        if r_360 = 0 then (
          let x_363 : Int32 := (v_275 + 1)
          G_L34a v_274 x_363) else
        (
          let x_365 : Int32 := (v_275 + 1)
          G_L34a v_275 x_365)) else (
        let w_370 := F_r_bits v_275
        let r_368 : Int32 := w_370
        let w_373 := F_r_bits v_274
        let r_371 : Int32 := w_373
        if r_371 ≤ r_368 then (
          let x_376 : Int32 := (v_275 + 1)
          G_L34a v_274 x_376) else (
          let w_381 := F_r_tellsAll n_11 g_c n_12 v_275 o
          let r_379 : Int32 := w_381
          if r_379 = 0 then (
            let x_382 : Int32 := (v_275 + 1)
            G_L34a v_274 x_382) else
          (
            let x_384 : Int32 := (v_275 + 1)
            G_L34a v_275 x_384))))) k9
theorem F_r_apart_L34a_s (g_c : Nat → Int32) (o : Int32) (n_11 : Int32) (n_12 : Nat → Int32) (n9 : Nat) (v_274 : Int32) (v_275 : Int32) : F_r_apart_L34a g_c o n_11 n_12 (n9 + 1) v_274 v_275 = (
    let w_345 := F_r_all g_c
    let r_343 : Int32 := w_345
    if r_343 < v_275 then (
      if 0 ≤ v_274 then (
        (v_274, (0 : Int32), (0 : Int32), n_11, n_12)) else (
        let w_355 := F_r_refuse 8
        let r_353 : Int32 := w_355.1
        let n_352 : Int32 := w_355.2
        (r_353, n_352, (0 : Int32), n_11, n_12))) else (
      if v_274 < 0 then (
        let w_362 := F_r_tellsAll n_11 g_c n_12 v_275 o
        let r_360 : Int32 := w_362
        if r_360 = 0 then (
          let x_363 : Int32 := (v_275 + 1)
          (F_r_apart_L34a g_c o n_11 n_12 n9) v_274 x_363) else
        (
          let x_365 : Int32 := (v_275 + 1)
          (F_r_apart_L34a g_c o n_11 n_12 n9) v_275 x_365)) else (
        let w_370 := F_r_bits v_275
        let r_368 : Int32 := w_370
        let w_373 := F_r_bits v_274
        let r_371 : Int32 := w_373
        if r_371 ≤ r_368 then (
          let x_376 : Int32 := (v_275 + 1)
          (F_r_apart_L34a g_c o n_11 n_12 n9) v_274 x_376) else (
          let w_381 := F_r_tellsAll n_11 g_c n_12 v_275 o
          let r_379 : Int32 := w_381
          if r_379 = 0 then (
            let x_382 : Int32 := (v_275 + 1)
            (F_r_apart_L34a g_c o n_11 n_12 n9) v_274 x_382) else
          (
            let x_384 : Int32 := (v_275 + 1)
            (F_r_apart_L34a g_c o n_11 n_12 n9) v_275 x_384))))) := rfl
noncomputable def F_r_apart (m_thereMany : Int32) (g_c : Nat → Int32) (g_there : Nat → Int32) (r : Int32) (o : Int32) : Int32 × Int32 × Int32 × Int32 × (Nat → Int32) :=
  let w_3 := F_r_isRing g_c r
  let r_1 : Int32 := w_3
  if r_1 = 0 then (
    let w_9 := F_r_refuse 2
    let r_7 : Int32 := w_9.1
    let n_6 : Int32 := w_9.2
    (r_7, n_6, (0 : Int32), m_thereMany, g_there)) else
  (
    let w_15 := F_r_gather g_c g_there r
    let n_11 : Int32 := w_15.1
    let n_12 : Nat → Int32 := w_15.2
    F_r_apart_L34a g_c o n_11 n_12 ((2147483647 - (0 : Int32).toInt).toNat + 1) (-1 : Int32) (0 : Int32))
theorem F_r_apart_s (m_thereMany : Int32) (g_c : Nat → Int32) (g_there : Nat → Int32) (r : Int32) (o : Int32) : F_r_apart m_thereMany g_c g_there r o = (
  let w_3 := F_r_isRing g_c r
  let r_1 : Int32 := w_3
  if r_1 = 0 then (
    let w_9 := F_r_refuse 2
    let r_7 : Int32 := w_9.1
    let n_6 : Int32 := w_9.2
    (r_7, n_6, (0 : Int32), m_thereMany, g_there)) else
  (
    let w_15 := F_r_gather g_c g_there r
    let n_11 : Int32 := w_15.1
    let n_12 : Nat → Int32 := w_15.2
    F_r_apart_L34a g_c o n_11 n_12 ((2147483647 - (0 : Int32).toInt).toNat + 1) (-1 : Int32) (0 : Int32))) := rfl
noncomputable def F_r_filed_L72a (g_c : Nat → Int32) (k : Int32) (n_22 : Int32) (n_23 : Nat → Int32) (v_47760 : Int32) (v_47761 : Int32) (G_L54a : Int32 → Int32 → (Int32 × Int32 × Int32 × Int32 × (Nat → Int32))) : Nat → Int32 → Int32 → Int32 → (Int32 × Int32 × Int32 × Int32 × (Nat → Int32)) := fun k9 => Nat.rec (motive := fun _ => Int32 → Int32 → Int32 → (Int32 × Int32 × Int32 × Int32 × (Nat → Int32))) (fun _ _ _ => default) (fun _ (G_L72a : Int32 → Int32 → Int32 → (Int32 × Int32 × Int32 × Int32 × (Nat → Int32))) => fun (v_50933 : Int32) (v_50934 : Int32) (v_50935 : Int32) =>
    if n_22 ≤ v_50935 then (
      if v_50933 ≤ k then (
        if v_50934 ≤ 0 then (
          let x_50998 : Int32 := (v_47760 + 0)
          let x_50999 : Int32 := (v_47761 + 1)
          G_L54a x_50998 x_50999) else (
          let x_51002 : Int32 := (v_47760 + 1)
          let x_51003 : Int32 := (v_47761 + 1)
          G_L54a x_51002 x_51003)) else (
        let w_51009 := F_r_refuse 9
        let r_51007 : Int32 := w_51009.1
        let n_51006 : Int32 := w_51009.2
        (r_51007, n_51006, (0 : Int32), n_22, n_23))) else (
      let x_51012 : Int32 := (n_23 (v_47761 : Int32).toNatClampNeg)
      let x_51013 : Int32 := (n_23 (v_50935 : Int32).toNatClampNeg)
      let w_51016 := F_r_all g_c
      let r_51014 : Int32 := w_51016
      let w_51019 := F_r_differ g_c x_51012 0 x_51013 0 r_51014
      let r_51017 : Int32 := w_51019
      if r_51017 = 0 then (
        let x_51020 : Int32 := (v_50933 + 1)
        if v_47761 ≤ v_50935 then (
          let x_51023 : Int32 := (v_50934 + 0)
          let x_51024 : Int32 := (v_50935 + 1)
          G_L72a x_51020 x_51023 x_51024) else (
          let x_51027 : Int32 := (v_50934 + 1)
          let x_51028 : Int32 := (v_50935 + 1)
          G_L72a x_51020 x_51027 x_51028)) else
      (
        let x_51030 : Int32 := (v_50935 + 1)
        G_L72a v_50933 v_50934 x_51030))) k9
theorem F_r_filed_L72a_s (g_c : Nat → Int32) (k : Int32) (n_22 : Int32) (n_23 : Nat → Int32) (v_47760 : Int32) (v_47761 : Int32) (G_L54a : Int32 → Int32 → (Int32 × Int32 × Int32 × Int32 × (Nat → Int32))) (n9 : Nat) (v_50933 : Int32) (v_50934 : Int32) (v_50935 : Int32) : F_r_filed_L72a g_c k n_22 n_23 v_47760 v_47761 G_L54a (n9 + 1) v_50933 v_50934 v_50935 = (
    if n_22 ≤ v_50935 then (
      if v_50933 ≤ k then (
        if v_50934 ≤ 0 then (
          let x_50998 : Int32 := (v_47760 + 0)
          let x_50999 : Int32 := (v_47761 + 1)
          G_L54a x_50998 x_50999) else (
          let x_51002 : Int32 := (v_47760 + 1)
          let x_51003 : Int32 := (v_47761 + 1)
          G_L54a x_51002 x_51003)) else (
        let w_51009 := F_r_refuse 9
        let r_51007 : Int32 := w_51009.1
        let n_51006 : Int32 := w_51009.2
        (r_51007, n_51006, (0 : Int32), n_22, n_23))) else (
      let x_51012 : Int32 := (n_23 (v_47761 : Int32).toNatClampNeg)
      let x_51013 : Int32 := (n_23 (v_50935 : Int32).toNatClampNeg)
      let w_51016 := F_r_all g_c
      let r_51014 : Int32 := w_51016
      let w_51019 := F_r_differ g_c x_51012 0 x_51013 0 r_51014
      let r_51017 : Int32 := w_51019
      if r_51017 = 0 then (
        let x_51020 : Int32 := (v_50933 + 1)
        if v_47761 ≤ v_50935 then (
          let x_51023 : Int32 := (v_50934 + 0)
          let x_51024 : Int32 := (v_50935 + 1)
          (F_r_filed_L72a g_c k n_22 n_23 v_47760 v_47761 G_L54a n9) x_51020 x_51023 x_51024) else (
          let x_51027 : Int32 := (v_50934 + 1)
          let x_51028 : Int32 := (v_50935 + 1)
          (F_r_filed_L72a g_c k n_22 n_23 v_47760 v_47761 G_L54a n9) x_51020 x_51027 x_51028)) else
      (
        let x_51030 : Int32 := (v_50935 + 1)
        (F_r_filed_L72a g_c k n_22 n_23 v_47760 v_47761 G_L54a n9) v_50933 v_50934 x_51030))) := rfl
noncomputable def F_r_filed_L54a (g_c : Nat → Int32) (k : Int32) (n_22 : Int32) (n_23 : Nat → Int32) : Nat → Int32 → Int32 → (Int32 × Int32 × Int32 × Int32 × (Nat → Int32)) := fun k9 => Nat.rec (motive := fun _ => Int32 → Int32 → (Int32 × Int32 × Int32 × Int32 × (Nat → Int32))) (fun _ _ => default) (fun _ (G_L54a : Int32 → Int32 → (Int32 × Int32 × Int32 × Int32 × (Nat → Int32))) => fun (v_47760 : Int32) (v_47761 : Int32) =>
    if n_22 ≤ v_47761 then (
      (v_47760, (0 : Int32), (0 : Int32), n_22, n_23)) else (
      F_r_filed_L72a g_c k n_22 n_23 v_47760 v_47761 G_L54a ((2147483647 - (0 : Int32).toInt).toNat + 1) (0 : Int32) (0 : Int32) (0 : Int32))) k9
theorem F_r_filed_L54a_s (g_c : Nat → Int32) (k : Int32) (n_22 : Int32) (n_23 : Nat → Int32) (n9 : Nat) (v_47760 : Int32) (v_47761 : Int32) : F_r_filed_L54a g_c k n_22 n_23 (n9 + 1) v_47760 v_47761 = (
    if n_22 ≤ v_47761 then (
      (v_47760, (0 : Int32), (0 : Int32), n_22, n_23)) else (
      F_r_filed_L72a g_c k n_22 n_23 v_47760 v_47761 (F_r_filed_L54a g_c k n_22 n_23 n9) ((2147483647 - (0 : Int32).toInt).toNat + 1) (0 : Int32) (0 : Int32) (0 : Int32))) := rfl
noncomputable def F_r_filed (m_thereMany : Int32) (g_c : Nat → Int32) (g_there : Nat → Int32) (r : Int32) (k : Int32) : Int32 × Int32 × Int32 × Int32 × (Nat → Int32) :=
  let w_3 := F_r_isRing g_c r
  let r_1 : Int32 := w_3
  if r_1 = 0 then (
    let w_9 := F_r_refuse 2
    let r_7 : Int32 := w_9.1
    let n_6 : Int32 := w_9.2
    (r_7, n_6, (0 : Int32), m_thereMany, g_there)) else
  (
    let x_11 : Int64 := ((k).toInt64)
    let w_14 := F_r_isIn x_11 2 9
    let r_12 : Int32 := w_14
    if r_12 = 0 then (
      let w_20 := F_r_refuse 5
      let r_18 : Int32 := w_20.1
      let n_17 : Int32 := w_20.2
      (r_18, n_17, (0 : Int32), m_thereMany, g_there)) else
    (
      let w_26 := F_r_gather g_c g_there r
      let n_22 : Int32 := w_26.1
      let n_23 : Nat → Int32 := w_26.2
      F_r_filed_L54a g_c k n_22 n_23 ((2147483647 - (0 : Int32).toInt).toNat + 1) (0 : Int32) (0 : Int32)))
theorem F_r_filed_s (m_thereMany : Int32) (g_c : Nat → Int32) (g_there : Nat → Int32) (r : Int32) (k : Int32) : F_r_filed m_thereMany g_c g_there r k = (
  let w_3 := F_r_isRing g_c r
  let r_1 : Int32 := w_3
  if r_1 = 0 then (
    let w_9 := F_r_refuse 2
    let r_7 : Int32 := w_9.1
    let n_6 : Int32 := w_9.2
    (r_7, n_6, (0 : Int32), m_thereMany, g_there)) else
  (
    let x_11 : Int64 := ((k).toInt64)
    let w_14 := F_r_isIn x_11 2 9
    let r_12 : Int32 := w_14
    if r_12 = 0 then (
      let w_20 := F_r_refuse 5
      let r_18 : Int32 := w_20.1
      let n_17 : Int32 := w_20.2
      (r_18, n_17, (0 : Int32), m_thereMany, g_there)) else
    (
      let w_26 := F_r_gather g_c g_there r
      let n_22 : Int32 := w_26.1
      let n_23 : Nat → Int32 := w_26.2
      F_r_filed_L54a g_c k n_22 n_23 ((2147483647 - (0 : Int32).toInt).toNat + 1) (0 : Int32) (0 : Int32)))) := rfl
noncomputable def F_r_isOnly_L47a (g_c : Nat → Int32) (d : Int32) (n_25 : Int32) (n_26 : Nat → Int32) : Nat → Int32 → Int32 → (Int32 × Int32 × (Nat → Int32)) := fun k9 => Nat.rec (motive := fun _ => Int32 → Int32 → (Int32 × Int32 × (Nat → Int32))) (fun _ _ => default) (fun _ (G_L47a : Int32 → Int32 → (Int32 × Int32 × (Nat → Int32))) => fun (v_191 : Int32) (v_192 : Int32) =>
    if n_25 ≤ v_192 then (
      if v_191 = 1 then (
        ((1 : Int32), n_25, n_26)) else (
        ((0 : Int32), n_25, n_26))) else (
      let x_234 : Int32 := (n_26 (v_192 : Int32).toNatClampNeg)
      let w_237 := F_r_canOpen g_c x_234 d
      let r_235 : Int32 := w_237
      if r_235 = 0 then (
        let x_240 : Int32 := (v_191 + 0)
        let x_241 : Int32 := (v_192 + 1)
        G_L47a x_240 x_241) else
      (
        let x_243 : Int32 := (v_191 + 1)
        let x_244 : Int32 := (v_192 + 1)
        G_L47a x_243 x_244))) k9
theorem F_r_isOnly_L47a_s (g_c : Nat → Int32) (d : Int32) (n_25 : Int32) (n_26 : Nat → Int32) (n9 : Nat) (v_191 : Int32) (v_192 : Int32) : F_r_isOnly_L47a g_c d n_25 n_26 (n9 + 1) v_191 v_192 = (
    if n_25 ≤ v_192 then (
      if v_191 = 1 then (
        ((1 : Int32), n_25, n_26)) else (
        ((0 : Int32), n_25, n_26))) else (
      let x_234 : Int32 := (n_26 (v_192 : Int32).toNatClampNeg)
      let w_237 := F_r_canOpen g_c x_234 d
      let r_235 : Int32 := w_237
      if r_235 = 0 then (
        let x_240 : Int32 := (v_191 + 0)
        let x_241 : Int32 := (v_192 + 1)
        (F_r_isOnly_L47a g_c d n_25 n_26 n9) x_240 x_241) else
      (
        let x_243 : Int32 := (v_191 + 1)
        let x_244 : Int32 := (v_192 + 1)
        (F_r_isOnly_L47a g_c d n_25 n_26 n9) x_243 x_244))) := rfl
noncomputable def F_r_isOnly (m_thereMany : Int32) (g_c : Nat → Int32) (g_there : Nat → Int32) (k : Int32) (d : Int32) : Int32 × Int32 × (Nat → Int32) :=
  let w_3 := F_r_ringOf g_c k
  let r_1 : Int32 := w_3
  if r_1 < 0 then (
    ((0 : Int32), m_thereMany, g_there)) else (
    let x_9 : Int32 := ((150 : Int32) + k)
    let x_10 : Int32 := (g_c (x_9 : Int32).toNatClampNeg)
    if x_10 = 1 then (
      ((0 : Int32), m_thereMany, g_there)) else (
      let w_17 := F_r_canOpen g_c k d
      let r_15 : Int32 := w_17
      if r_15 = 0 then (
        ((0 : Int32), m_thereMany, g_there)) else
      (
        let w_23 := F_r_ringOf g_c k
        let r_21 : Int32 := w_23
        let w_29 := F_r_gather g_c g_there r_21
        let n_25 : Int32 := w_29.1
        let n_26 : Nat → Int32 := w_29.2
        F_r_isOnly_L47a g_c d n_25 n_26 ((2147483647 - (0 : Int32).toInt).toNat + 1) (0 : Int32) (0 : Int32))))
theorem F_r_isOnly_s (m_thereMany : Int32) (g_c : Nat → Int32) (g_there : Nat → Int32) (k : Int32) (d : Int32) : F_r_isOnly m_thereMany g_c g_there k d = (
  let w_3 := F_r_ringOf g_c k
  let r_1 : Int32 := w_3
  if r_1 < 0 then (
    ((0 : Int32), m_thereMany, g_there)) else (
    let x_9 : Int32 := ((150 : Int32) + k)
    let x_10 : Int32 := (g_c (x_9 : Int32).toNatClampNeg)
    if x_10 = 1 then (
      ((0 : Int32), m_thereMany, g_there)) else (
      let w_17 := F_r_canOpen g_c k d
      let r_15 : Int32 := w_17
      if r_15 = 0 then (
        ((0 : Int32), m_thereMany, g_there)) else
      (
        let w_23 := F_r_ringOf g_c k
        let r_21 : Int32 := w_23
        let w_29 := F_r_gather g_c g_there r_21
        let n_25 : Int32 := w_29.1
        let n_26 : Nat → Int32 := w_29.2
        F_r_isOnly_L47a g_c d n_25 n_26 ((2147483647 - (0 : Int32).toInt).toNat + 1) (0 : Int32) (0 : Int32))))) := rfl
noncomputable def F_r_besides (m_thereMany : Int32) (g_c : Nat → Int32) (g_there : Nat → Int32) (k : Int32) : Int32 × Int32 × (Nat → Int32) :=
  let w_3 := F_r_ringOf g_c k
  let r_1 : Int32 := w_3
  if 0 ≤ r_1 then (
    let w_9 := F_r_ringOf g_c k
    let r_7 : Int32 := w_9
    let w_15 := F_r_gather g_c g_there r_7
    let n_11 : Int32 := w_15.1
    let n_12 : Nat → Int32 := w_15.2
    (n_11, n_11, n_12)) else (
    ((2147483647 : Int32), m_thereMany, g_there))
theorem F_r_besides_s (m_thereMany : Int32) (g_c : Nat → Int32) (g_there : Nat → Int32) (k : Int32) : F_r_besides m_thereMany g_c g_there k = (
  let w_3 := F_r_ringOf g_c k
  let r_1 : Int32 := w_3
  if 0 ≤ r_1 then (
    let w_9 := F_r_ringOf g_c k
    let r_7 : Int32 := w_9
    let w_15 := F_r_gather g_c g_there r_7
    let n_11 : Int32 := w_15.1
    let n_12 : Nat → Int32 := w_15.2
    (n_11, n_11, n_12)) else (
    ((2147483647 : Int32), m_thereMany, g_there))) := rfl
noncomputable def F_r_missing (m_thereMany : Int32) (g_c : Nat → Int32) (g_there : Nat → Int32) (k : Int32) (d : Int32) (lent : Int32) (t : Int32) : Int32 :=
  let x_1 : Int64 := ((k).toInt64)
  let w_4 := F_r_isKey g_c x_1
  let r_2 : Int32 := w_4
  if r_2 = 0 then (
    let w_10 := F_r_no 2
    let r_8 : Int32 := w_10.1
    let n_7 : Int32 := w_10.2
    (0 : Int32)) else
  (
    let w_14 := F_r_isDoor g_c d
    let r_12 : Int32 := w_14
    if r_12 = 0 then (
      let w_20 := F_r_no 2
      let r_18 : Int32 := w_20.1
      let n_17 : Int32 := w_20.2
      (0 : Int32)) else
    (
      let w_26 := F_r_besides m_thereMany g_c g_there k
      let r_24 : Int32 := w_26.1
      let n_22 : Int32 := w_26.2.1
      let n_23 : Nat → Int32 := w_26.2.2
      let x_28 : Int64 := ((lent).toInt64)
      let w_31 := F_r_isIn x_28 0 16
      let r_29 : Int32 := w_31
      if r_29 = 0 then (
        let w_37 := F_r_no 5
        let r_35 : Int32 := w_37.1
        let n_34 : Int32 := w_37.2
        (0 : Int32)) else
      (
        let x_39 : Int64 := ((t).toInt64)
        let x_40 : Int64 := ((r_24).toInt64)
        let w_43 := F_r_isIn x_39 0 x_40
        let r_41 : Int32 := w_43
        if r_41 = 0 then (
          let w_49 := F_r_no 5
          let r_47 : Int32 := w_49.1
          let n_46 : Int32 := w_49.2
          (0 : Int32)) else
        (
          let w_55 := F_r_isOnly n_22 g_c n_23 k d
          let r_53 : Int32 := w_55.1
          let n_51 : Int32 := w_55.2.1
          let n_52 : Nat → Int32 := w_55.2.2
          if r_53 = 0 then (
            let w_60 := F_r_no 9
            let r_58 : Int32 := w_60.1
            let n_57 : Int32 := w_60.2
            (0 : Int32)) else
          (
            if lent = 0 then (
              if t = r_24 then (
                let w_108 := F_r_no 9
                let r_106 : Int32 := w_108.1
                let n_105 : Int32 := w_108.2
                (0 : Int32)) else (
                let x_87 : Int64 := ((lent).toInt64)
                let x_88 : Int64 := ((r_24).toInt64)
                let x_89 : Int64 := (x_87 * x_88)
                let x_90 : Int64 := ((lent).toInt64)
                let x_91 : Int64 := ((r_24).toInt64)
                let x_92 : Int64 := (x_90 * x_91)
                let x_93 : Int32 := ((16 : Int32) - lent)
                let x_94 : Int32 := (r_24 - t)
                let x_96 : Int32 := (x_93 * x_94)
                let x_97 : Int64 := ((x_96).toInt64)
                let x_98 : Int64 := (x_92 + x_97)
                (1 : Int32))) else (
              let x_67 : Int64 := ((lent).toInt64)
              let x_68 : Int64 := ((r_24).toInt64)
              let x_69 : Int64 := (x_67 * x_68)
              let x_70 : Int64 := ((lent).toInt64)
              let x_71 : Int64 := ((r_24).toInt64)
              let x_72 : Int64 := (x_70 * x_71)
              let x_73 : Int32 := ((16 : Int32) - lent)
              let x_74 : Int32 := (r_24 - t)
              let x_76 : Int32 := (x_73 * x_74)
              let x_77 : Int64 := ((x_76).toInt64)
              let x_78 : Int64 := (x_72 + x_77)
              (1 : Int32)))))))
theorem F_r_missing_s (m_thereMany : Int32) (g_c : Nat → Int32) (g_there : Nat → Int32) (k : Int32) (d : Int32) (lent : Int32) (t : Int32) : F_r_missing m_thereMany g_c g_there k d lent t = (
  let x_1 : Int64 := ((k).toInt64)
  let w_4 := F_r_isKey g_c x_1
  let r_2 : Int32 := w_4
  if r_2 = 0 then (
    let w_10 := F_r_no 2
    let r_8 : Int32 := w_10.1
    let n_7 : Int32 := w_10.2
    (0 : Int32)) else
  (
    let w_14 := F_r_isDoor g_c d
    let r_12 : Int32 := w_14
    if r_12 = 0 then (
      let w_20 := F_r_no 2
      let r_18 : Int32 := w_20.1
      let n_17 : Int32 := w_20.2
      (0 : Int32)) else
    (
      let w_26 := F_r_besides m_thereMany g_c g_there k
      let r_24 : Int32 := w_26.1
      let n_22 : Int32 := w_26.2.1
      let n_23 : Nat → Int32 := w_26.2.2
      let x_28 : Int64 := ((lent).toInt64)
      let w_31 := F_r_isIn x_28 0 16
      let r_29 : Int32 := w_31
      if r_29 = 0 then (
        let w_37 := F_r_no 5
        let r_35 : Int32 := w_37.1
        let n_34 : Int32 := w_37.2
        (0 : Int32)) else
      (
        let x_39 : Int64 := ((t).toInt64)
        let x_40 : Int64 := ((r_24).toInt64)
        let w_43 := F_r_isIn x_39 0 x_40
        let r_41 : Int32 := w_43
        if r_41 = 0 then (
          let w_49 := F_r_no 5
          let r_47 : Int32 := w_49.1
          let n_46 : Int32 := w_49.2
          (0 : Int32)) else
        (
          let w_55 := F_r_isOnly n_22 g_c n_23 k d
          let r_53 : Int32 := w_55.1
          let n_51 : Int32 := w_55.2.1
          let n_52 : Nat → Int32 := w_55.2.2
          if r_53 = 0 then (
            let w_60 := F_r_no 9
            let r_58 : Int32 := w_60.1
            let n_57 : Int32 := w_60.2
            (0 : Int32)) else
          (
            if lent = 0 then (
              if t = r_24 then (
                let w_108 := F_r_no 9
                let r_106 : Int32 := w_108.1
                let n_105 : Int32 := w_108.2
                (0 : Int32)) else (
                let x_87 : Int64 := ((lent).toInt64)
                let x_88 : Int64 := ((r_24).toInt64)
                let x_89 : Int64 := (x_87 * x_88)
                let x_90 : Int64 := ((lent).toInt64)
                let x_91 : Int64 := ((r_24).toInt64)
                let x_92 : Int64 := (x_90 * x_91)
                let x_93 : Int32 := ((16 : Int32) - lent)
                let x_94 : Int32 := (r_24 - t)
                let x_96 : Int32 := (x_93 * x_94)
                let x_97 : Int64 := ((x_96).toInt64)
                let x_98 : Int64 := (x_92 + x_97)
                (1 : Int32))) else (
              let x_67 : Int64 := ((lent).toInt64)
              let x_68 : Int64 := ((r_24).toInt64)
              let x_69 : Int64 := (x_67 * x_68)
              let x_70 : Int64 := ((lent).toInt64)
              let x_71 : Int64 := ((r_24).toInt64)
              let x_72 : Int64 := (x_70 * x_71)
              let x_73 : Int32 := ((16 : Int32) - lent)
              let x_74 : Int32 := (r_24 - t)
              let x_76 : Int32 := (x_73 * x_74)
              let x_77 : Int64 := ((x_76).toInt64)
              let x_78 : Int64 := (x_72 + x_77)
              (1 : Int32)))))))) := rfl
noncomputable def F_r_soon_L100a (lent : Int32) (sure : Int32) (n_44 : Int32) (n_45 : Nat → Int32) : Nat → Int32 → (Int32 × Int32 × Int32 × Int32 × (Nat → Int32)) := fun k9 => Nat.rec (motive := fun _ => Int32 → (Int32 × Int32 × Int32 × Int32 × (Nat → Int32))) (fun _ => default) (fun _ (G_L100a : Int32 → (Int32 × Int32 × Int32 × Int32 × (Nat → Int32))) => fun (v_297 : Int32) =>
    if n_44 ≤ v_297 then (
      (n_44, (0 : Int32), (0 : Int32), n_44, n_45)) else (
      let x_346 : Int64 := ((lent).toInt64)
      let x_347 : Int64 := ((16 : Int64) * x_346)
      let x_348 : Int64 := ((n_44).toInt64)
      let x_349 : Int64 := (x_347 * x_348)
      let x_350 : Int64 := ((sure).toInt64)
      let x_351 : Int64 := ((lent).toInt64)
      let x_352 : Int64 := ((n_44).toInt64)
      let x_353 : Int64 := (x_351 * x_352)
      let x_354 : Int32 := ((16 : Int32) - lent)
      let x_355 : Int32 := (n_44 - v_297)
      let x_356 : Int32 := (x_354 * x_355)
      let x_357 : Int64 := ((x_356).toInt64)
      let x_358 : Int64 := (x_353 + x_357)
      let x_359 : Int64 := (x_350 * x_358)
      if (lg_cmp x_349 x_359) < 0 then (
        let x_362 : Int32 := (v_297 + 1)
        G_L100a x_362) else (
        (v_297, (0 : Int32), (0 : Int32), n_44, n_45)))) k9
theorem F_r_soon_L100a_s (lent : Int32) (sure : Int32) (n_44 : Int32) (n_45 : Nat → Int32) (n9 : Nat) (v_297 : Int32) : F_r_soon_L100a lent sure n_44 n_45 (n9 + 1) v_297 = (
    if n_44 ≤ v_297 then (
      (n_44, (0 : Int32), (0 : Int32), n_44, n_45)) else (
      let x_346 : Int64 := ((lent).toInt64)
      let x_347 : Int64 := ((16 : Int64) * x_346)
      let x_348 : Int64 := ((n_44).toInt64)
      let x_349 : Int64 := (x_347 * x_348)
      let x_350 : Int64 := ((sure).toInt64)
      let x_351 : Int64 := ((lent).toInt64)
      let x_352 : Int64 := ((n_44).toInt64)
      let x_353 : Int64 := (x_351 * x_352)
      let x_354 : Int32 := ((16 : Int32) - lent)
      let x_355 : Int32 := (n_44 - v_297)
      let x_356 : Int32 := (x_354 * x_355)
      let x_357 : Int64 := ((x_356).toInt64)
      let x_358 : Int64 := (x_353 + x_357)
      let x_359 : Int64 := (x_350 * x_358)
      if (lg_cmp x_349 x_359) < 0 then (
        let x_362 : Int32 := (v_297 + 1)
        (F_r_soon_L100a lent sure n_44 n_45 n9) x_362) else (
        (v_297, (0 : Int32), (0 : Int32), n_44, n_45)))) := rfl
noncomputable def F_r_soon (m_thereMany : Int32) (g_c : Nat → Int32) (g_there : Nat → Int32) (k : Int32) (d : Int32) (lent : Int32) (sure : Int32) : Int32 × Int32 × Int32 × Int32 × (Nat → Int32) :=
  let x_1 : Int64 := ((k).toInt64)
  let w_4 := F_r_isKey g_c x_1
  let r_2 : Int32 := w_4
  if r_2 = 0 then (
    let w_10 := F_r_refuse 2
    let r_8 : Int32 := w_10.1
    let n_7 : Int32 := w_10.2
    (r_8, n_7, (0 : Int32), m_thereMany, g_there)) else
  (
    let w_14 := F_r_isDoor g_c d
    let r_12 : Int32 := w_14
    if r_12 = 0 then (
      let w_20 := F_r_refuse 2
      let r_18 : Int32 := w_20.1
      let n_17 : Int32 := w_20.2
      (r_18, n_17, (0 : Int32), m_thereMany, g_there)) else
    (
      let x_22 : Int64 := ((lent).toInt64)
      let w_25 := F_r_isIn x_22 0 16
      let r_23 : Int32 := w_25
      if r_23 = 0 then (
        let w_31 := F_r_refuse 5
        let r_29 : Int32 := w_31.1
        let n_28 : Int32 := w_31.2
        (r_29, n_28, (0 : Int32), m_thereMany, g_there)) else
      (
        let x_33 : Int64 := ((sure).toInt64)
        let w_36 := F_r_isIn x_33 1 16
        let r_34 : Int32 := w_36
        if r_34 = 0 then (
          let w_42 := F_r_refuse 5
          let r_40 : Int32 := w_42.1
          let n_39 : Int32 := w_42.2
          (r_40, n_39, (0 : Int32), m_thereMany, g_there)) else
        (
          let w_48 := F_r_isOnly m_thereMany g_c g_there k d
          let r_46 : Int32 := w_48.1
          let n_44 : Int32 := w_48.2.1
          let n_45 : Nat → Int32 := w_48.2.2
          if r_46 = 0 then (
            let w_53 := F_r_refuse 9
            let r_51 : Int32 := w_53.1
            let n_50 : Int32 := w_53.2
            (r_51, n_50, (0 : Int32), n_44, n_45)) else
          (
            if lent = 0 then (
              let w_371 := F_r_refuse 8
              let r_369 : Int32 := w_371.1
              let n_368 : Int32 := w_371.2
              (r_369, n_368, (0 : Int32), n_44, n_45)) else (
              F_r_soon_L100a lent sure n_44 n_45 ((2147483647 - (0 : Int32).toInt).toNat + 1) (0 : Int32)))))))
theorem F_r_soon_s (m_thereMany : Int32) (g_c : Nat → Int32) (g_there : Nat → Int32) (k : Int32) (d : Int32) (lent : Int32) (sure : Int32) : F_r_soon m_thereMany g_c g_there k d lent sure = (
  let x_1 : Int64 := ((k).toInt64)
  let w_4 := F_r_isKey g_c x_1
  let r_2 : Int32 := w_4
  if r_2 = 0 then (
    let w_10 := F_r_refuse 2
    let r_8 : Int32 := w_10.1
    let n_7 : Int32 := w_10.2
    (r_8, n_7, (0 : Int32), m_thereMany, g_there)) else
  (
    let w_14 := F_r_isDoor g_c d
    let r_12 : Int32 := w_14
    if r_12 = 0 then (
      let w_20 := F_r_refuse 2
      let r_18 : Int32 := w_20.1
      let n_17 : Int32 := w_20.2
      (r_18, n_17, (0 : Int32), m_thereMany, g_there)) else
    (
      let x_22 : Int64 := ((lent).toInt64)
      let w_25 := F_r_isIn x_22 0 16
      let r_23 : Int32 := w_25
      if r_23 = 0 then (
        let w_31 := F_r_refuse 5
        let r_29 : Int32 := w_31.1
        let n_28 : Int32 := w_31.2
        (r_29, n_28, (0 : Int32), m_thereMany, g_there)) else
      (
        let x_33 : Int64 := ((sure).toInt64)
        let w_36 := F_r_isIn x_33 1 16
        let r_34 : Int32 := w_36
        if r_34 = 0 then (
          let w_42 := F_r_refuse 5
          let r_40 : Int32 := w_42.1
          let n_39 : Int32 := w_42.2
          (r_40, n_39, (0 : Int32), m_thereMany, g_there)) else
        (
          let w_48 := F_r_isOnly m_thereMany g_c g_there k d
          let r_46 : Int32 := w_48.1
          let n_44 : Int32 := w_48.2.1
          let n_45 : Nat → Int32 := w_48.2.2
          if r_46 = 0 then (
            let w_53 := F_r_refuse 9
            let r_51 : Int32 := w_53.1
            let n_50 : Int32 := w_53.2
            (r_51, n_50, (0 : Int32), n_44, n_45)) else
          (
            if lent = 0 then (
              let w_371 := F_r_refuse 8
              let r_369 : Int32 := w_371.1
              let n_368 : Int32 := w_371.2
              (r_369, n_368, (0 : Int32), n_44, n_45)) else (
              F_r_soon_L100a lent sure n_44 n_45 ((2147483647 - (0 : Int32).toInt).toNat + 1) (0 : Int32)))))))) := rfl
noncomputable def F_r_insert_L11a (k : Int32) (r : Int32) (pp : Int32) : Nat → Int32 → (Nat → Int32) → (Nat → Int32) := fun k9 => Nat.rec (motive := fun _ => Int32 → (Nat → Int32) → (Nat → Int32)) (fun _ _ => default) (fun _ (G_L11a : Int32 → (Nat → Int32) → (Nat → Int32)) => fun (v_33 : Int32) (g_34 : Nat → Int32) =>
    if v_33 ≤ pp then (
      let x_83 : Int32 := ((10 : Int32) * r)
      let x_84 : Int32 := ((98 : Int32) + x_83)
      let x_85 : Int32 := (x_84 + pp)
      let g_86 : Nat → Int32 := (upd g_34 (x_85 : Int32).toNatClampNeg k)
      let x_88 : Int32 := ((95 : Int32) + r)
      let x_89 : Int32 := (g_86 (x_88 : Int32).toNatClampNeg)
      let x_90 : Int32 := (x_89 + 1)
      let g_91 : Nat → Int32 := (upd g_86 (x_88 : Int32).toNatClampNeg x_90)
      g_91) else (
      let x_95 : Int32 := ((10 : Int32) * r)
      let x_96 : Int32 := ((98 : Int32) + x_95)
      let x_97 : Int32 := (x_96 + v_33)
      let x_98 : Int32 := ((10 : Int32) * r)
      let x_99 : Int32 := ((98 : Int32) + x_98)
      let x_100 : Int32 := (x_99 + v_33)
      let x_101 : Int32 := (x_100 - 1)
      let x_102 : Int32 := (g_34 (x_101 : Int32).toNatClampNeg)
      let g_103 : Nat → Int32 := (upd g_34 (x_97 : Int32).toNatClampNeg x_102)
      let x_105 : Int32 := (v_33 + (-1))
      G_L11a x_105 g_103)) k9
theorem F_r_insert_L11a_s (k : Int32) (r : Int32) (pp : Int32) (n9 : Nat) (v_33 : Int32) (g_34 : Nat → Int32) : F_r_insert_L11a k r pp (n9 + 1) v_33 g_34 = (
    if v_33 ≤ pp then (
      let x_83 : Int32 := ((10 : Int32) * r)
      let x_84 : Int32 := ((98 : Int32) + x_83)
      let x_85 : Int32 := (x_84 + pp)
      let g_86 : Nat → Int32 := (upd g_34 (x_85 : Int32).toNatClampNeg k)
      let x_88 : Int32 := ((95 : Int32) + r)
      let x_89 : Int32 := (g_86 (x_88 : Int32).toNatClampNeg)
      let x_90 : Int32 := (x_89 + 1)
      let g_91 : Nat → Int32 := (upd g_86 (x_88 : Int32).toNatClampNeg x_90)
      g_91) else (
      let x_95 : Int32 := ((10 : Int32) * r)
      let x_96 : Int32 := ((98 : Int32) + x_95)
      let x_97 : Int32 := (x_96 + v_33)
      let x_98 : Int32 := ((10 : Int32) * r)
      let x_99 : Int32 := ((98 : Int32) + x_98)
      let x_100 : Int32 := (x_99 + v_33)
      let x_101 : Int32 := (x_100 - 1)
      let x_102 : Int32 := (g_34 (x_101 : Int32).toNatClampNeg)
      let g_103 : Nat → Int32 := (upd g_34 (x_97 : Int32).toNatClampNeg x_102)
      let x_105 : Int32 := (v_33 + (-1))
      (F_r_insert_L11a k r pp n9) x_105 g_103)) := rfl
noncomputable def F_r_insert (g_c : Nat → Int32) (k : Int32) (r : Int32) (pp : Int32) : (Nat → Int32) :=
  let x_1 : Int32 := ((95 : Int32) + r)
  let x_2 : Int32 := (g_c (x_1 : Int32).toNatClampNeg)
  F_r_insert_L11a k r pp ((x_2.toInt + 2147483648).toNat + 1) x_2 g_c
theorem F_r_insert_s (g_c : Nat → Int32) (k : Int32) (r : Int32) (pp : Int32) : F_r_insert g_c k r pp = (
  let x_1 : Int32 := ((95 : Int32) + r)
  let x_2 : Int32 := (g_c (x_1 : Int32).toNatClampNeg)
  F_r_insert_L11a k r pp ((x_2.toInt + 2147483648).toNat + 1) x_2 g_c) := rfl
noncomputable def F_r_take2_L12a (r_1 : Int32) : Nat → Int32 → (Nat → Int32) → (Nat → Int32) := fun k9 => Nat.rec (motive := fun _ => Int32 → (Nat → Int32) → (Nat → Int32)) (fun _ _ => default) (fun _ (G_L12a : Int32 → (Nat → Int32) → (Nat → Int32)) => fun (v_45 : Int32) (g_46 : Nat → Int32) =>
    let x_93 : Int32 := (v_45 + 1)
    let x_94 : Int32 := ((95 : Int32) + r_1)
    let x_95 : Int32 := (g_46 (x_94 : Int32).toNatClampNeg)
    if x_95 ≤ x_93 then (
      let x_98 : Int32 := ((95 : Int32) + r_1)
      let x_99 : Int32 := (g_46 (x_98 : Int32).toNatClampNeg)
      let x_101 : Int32 := (x_99 - 1)
      let g_102 : Nat → Int32 := (upd g_46 (x_98 : Int32).toNatClampNeg x_101)
      g_102) else (
      let x_106 : Int32 := ((10 : Int32) * r_1)
      let x_107 : Int32 := ((98 : Int32) + x_106)
      let x_108 : Int32 := (x_107 + v_45)
      let x_109 : Int32 := ((10 : Int32) * r_1)
      let x_110 : Int32 := ((98 : Int32) + x_109)
      let x_111 : Int32 := (x_110 + v_45)
      let x_112 : Int32 := (x_111 + 1)
      let x_113 : Int32 := (g_46 (x_112 : Int32).toNatClampNeg)
      let g_114 : Nat → Int32 := (upd g_46 (x_108 : Int32).toNatClampNeg x_113)
      let x_116 : Int32 := (v_45 + 1)
      G_L12a x_116 g_114)) k9
theorem F_r_take2_L12a_s (r_1 : Int32) (n9 : Nat) (v_45 : Int32) (g_46 : Nat → Int32) : F_r_take2_L12a r_1 (n9 + 1) v_45 g_46 = (
    let x_93 : Int32 := (v_45 + 1)
    let x_94 : Int32 := ((95 : Int32) + r_1)
    let x_95 : Int32 := (g_46 (x_94 : Int32).toNatClampNeg)
    if x_95 ≤ x_93 then (
      let x_98 : Int32 := ((95 : Int32) + r_1)
      let x_99 : Int32 := (g_46 (x_98 : Int32).toNatClampNeg)
      let x_101 : Int32 := (x_99 - 1)
      let g_102 : Nat → Int32 := (upd g_46 (x_98 : Int32).toNatClampNeg x_101)
      g_102) else (
      let x_106 : Int32 := ((10 : Int32) * r_1)
      let x_107 : Int32 := ((98 : Int32) + x_106)
      let x_108 : Int32 := (x_107 + v_45)
      let x_109 : Int32 := ((10 : Int32) * r_1)
      let x_110 : Int32 := ((98 : Int32) + x_109)
      let x_111 : Int32 := (x_110 + v_45)
      let x_112 : Int32 := (x_111 + 1)
      let x_113 : Int32 := (g_46 (x_112 : Int32).toNatClampNeg)
      let g_114 : Nat → Int32 := (upd g_46 (x_108 : Int32).toNatClampNeg x_113)
      let x_116 : Int32 := (v_45 + 1)
      (F_r_take2_L12a r_1 n9) x_116 g_114)) := rfl
noncomputable def F_r_take2 (g_c : Nat → Int32) (k : Int32) : (Nat → Int32) :=
  let w_3 := F_r_ringOf g_c k
  let r_1 : Int32 := w_3
  let w_7 := F_r_placeOf g_c k
  let r_5 : Int32 := w_7
  F_r_take2_L12a r_1 ((2147483647 - r_5.toInt).toNat + 1) r_5 g_c
theorem F_r_take2_s (g_c : Nat → Int32) (k : Int32) : F_r_take2 g_c k = (
  let w_3 := F_r_ringOf g_c k
  let r_1 : Int32 := w_3
  let w_7 := F_r_placeOf g_c k
  let r_5 : Int32 := w_7
  F_r_take2_L12a r_1 ((2147483647 - r_5.toInt).toNat + 1) r_5 g_c) := rfl
noncomputable def F_r_put (g_c : Nat → Int32) (k : Int32) (r : Int32) (pp : Int32) : Int32 × Int32 × Int32 × (Nat → Int32) :=
  let x_1 : Int64 := ((k).toInt64)
  let w_4 := F_r_isKey g_c x_1
  let r_2 : Int32 := w_4
  if r_2 = 0 then (
    let w_10 := F_r_no 2
    let r_8 : Int32 := w_10.1
    let n_7 : Int32 := w_10.2
    ((0 : Int32), n_7, (0 : Int32), g_c)) else
  (
    let w_14 := F_r_isRing g_c r
    let r_12 : Int32 := w_14
    if r_12 = 0 then (
      let w_20 := F_r_no 2
      let r_18 : Int32 := w_20.1
      let n_17 : Int32 := w_20.2
      ((0 : Int32), n_17, (0 : Int32), g_c)) else
    (
      let x_22 : Int64 := ((pp).toInt64)
      let x_23 : Int32 := ((95 : Int32) + r)
      let x_24 : Int32 := (g_c (x_23 : Int32).toNatClampNeg)
      let x_25 : Int64 := ((x_24).toInt64)
      let w_28 := F_r_isIn x_22 0 x_25
      let r_26 : Int32 := w_28
      if r_26 = 0 then (
        let w_34 := F_r_no 5
        let r_32 : Int32 := w_34.1
        let n_31 : Int32 := w_34.2
        ((0 : Int32), n_31, (0 : Int32), g_c)) else
      (
        let w_38 := F_r_ringOf g_c k
        let r_36 : Int32 := w_38
        if r_36 < 0 then (
          let w_46 := F_r_insert g_c k r pp
          let n_43 : Nat → Int32 := w_46
          let w_53 := F_r_letGo n_43 r
          let n_50 : Nat → Int32 := w_53
          ((1 : Int32), (0 : Int32), (0 : Int32), n_50)) else (
          let w_61 := F_r_no 9
          let r_59 : Int32 := w_61.1
          let n_58 : Int32 := w_61.2
          ((0 : Int32), n_58, (0 : Int32), g_c)))))
theorem F_r_put_s (g_c : Nat → Int32) (k : Int32) (r : Int32) (pp : Int32) : F_r_put g_c k r pp = (
  let x_1 : Int64 := ((k).toInt64)
  let w_4 := F_r_isKey g_c x_1
  let r_2 : Int32 := w_4
  if r_2 = 0 then (
    let w_10 := F_r_no 2
    let r_8 : Int32 := w_10.1
    let n_7 : Int32 := w_10.2
    ((0 : Int32), n_7, (0 : Int32), g_c)) else
  (
    let w_14 := F_r_isRing g_c r
    let r_12 : Int32 := w_14
    if r_12 = 0 then (
      let w_20 := F_r_no 2
      let r_18 : Int32 := w_20.1
      let n_17 : Int32 := w_20.2
      ((0 : Int32), n_17, (0 : Int32), g_c)) else
    (
      let x_22 : Int64 := ((pp).toInt64)
      let x_23 : Int32 := ((95 : Int32) + r)
      let x_24 : Int32 := (g_c (x_23 : Int32).toNatClampNeg)
      let x_25 : Int64 := ((x_24).toInt64)
      let w_28 := F_r_isIn x_22 0 x_25
      let r_26 : Int32 := w_28
      if r_26 = 0 then (
        let w_34 := F_r_no 5
        let r_32 : Int32 := w_34.1
        let n_31 : Int32 := w_34.2
        ((0 : Int32), n_31, (0 : Int32), g_c)) else
      (
        let w_38 := F_r_ringOf g_c k
        let r_36 : Int32 := w_38
        if r_36 < 0 then (
          let w_46 := F_r_insert g_c k r pp
          let n_43 : Nat → Int32 := w_46
          let w_53 := F_r_letGo n_43 r
          let n_50 : Nat → Int32 := w_53
          ((1 : Int32), (0 : Int32), (0 : Int32), n_50)) else (
          let w_61 := F_r_no 9
          let r_59 : Int32 := w_61.1
          let n_58 : Int32 := w_61.2
          ((0 : Int32), n_58, (0 : Int32), g_c)))))) := rfl
noncomputable def F_r_off (g_c : Nat → Int32) (k : Int32) : Int32 × Int32 × Int32 × (Nat → Int32) :=
  let x_1 : Int64 := ((k).toInt64)
  let w_4 := F_r_isKey g_c x_1
  let r_2 : Int32 := w_4
  if r_2 = 0 then (
    let w_10 := F_r_no 2
    let r_8 : Int32 := w_10.1
    let n_7 : Int32 := w_10.2
    ((0 : Int32), n_7, (0 : Int32), g_c)) else
  (
    let w_14 := F_r_ringOf g_c k
    let r_12 : Int32 := w_14
    if 0 ≤ r_12 then (
      let w_20 := F_r_ringOf g_c k
      let r_18 : Int32 := w_20
      let w_25 := F_r_letGo g_c r_18
      let n_22 : Nat → Int32 := w_25
      let w_31 := F_r_take2 n_22 k
      let n_28 : Nat → Int32 := w_31
      ((1 : Int32), (0 : Int32), (0 : Int32), n_28)) else (
      let w_40 := F_r_no 8
      let r_38 : Int32 := w_40.1
      let n_37 : Int32 := w_40.2
      ((0 : Int32), n_37, (0 : Int32), g_c)))
theorem F_r_off_s (g_c : Nat → Int32) (k : Int32) : F_r_off g_c k = (
  let x_1 : Int64 := ((k).toInt64)
  let w_4 := F_r_isKey g_c x_1
  let r_2 : Int32 := w_4
  if r_2 = 0 then (
    let w_10 := F_r_no 2
    let r_8 : Int32 := w_10.1
    let n_7 : Int32 := w_10.2
    ((0 : Int32), n_7, (0 : Int32), g_c)) else
  (
    let w_14 := F_r_ringOf g_c k
    let r_12 : Int32 := w_14
    if 0 ≤ r_12 then (
      let w_20 := F_r_ringOf g_c k
      let r_18 : Int32 := w_20
      let w_25 := F_r_letGo g_c r_18
      let n_22 : Nat → Int32 := w_25
      let w_31 := F_r_take2 n_22 k
      let n_28 : Nat → Int32 := w_31
      ((1 : Int32), (0 : Int32), (0 : Int32), n_28)) else (
      let w_40 := F_r_no 8
      let r_38 : Int32 := w_40.1
      let n_37 : Int32 := w_40.2
      ((0 : Int32), n_37, (0 : Int32), g_c)))) := rfl
noncomputable def F_r_copy_L41a (a : Int32) (b : Int32) (g_394 : Nat → Int32) : Nat → Int32 → (Nat → Int64) → ((Nat → Int32) × (Nat → Int64)) := fun k9 => Nat.rec (motive := fun _ => Int32 → (Nat → Int64) → ((Nat → Int32) × (Nat → Int64))) (fun _ _ => default) (fun _ (G_L41a : Int32 → (Nat → Int64) → ((Nat → Int32) × (Nat → Int64))) => fun (v_909 : Int32) (g_910 : Nat → Int64) =>
    if 21 ≤ v_909 then (
      (g_394, g_910)) else (
      let x_937 : Int32 := ((21 : Int32) * b)
      let x_938 : Int32 := (x_937 + v_909)
      let x_939 : Int32 := ((21 : Int32) * a)
      let x_940 : Int32 := (x_939 + v_909)
      let x_941 : Int64 := (g_910 (x_940 : Int32).toNatClampNeg)
      let g_942 : Nat → Int64 := (vp_updL g_910 (x_938 : Int32).toNatClampNeg x_941)
      let x_943 : Int32 := (v_909 + 1)
      G_L41a x_943 g_942)) k9
theorem F_r_copy_L41a_s (a : Int32) (b : Int32) (g_394 : Nat → Int32) (n9 : Nat) (v_909 : Int32) (g_910 : Nat → Int64) : F_r_copy_L41a a b g_394 (n9 + 1) v_909 g_910 = (
    if 21 ≤ v_909 then (
      (g_394, g_910)) else (
      let x_937 : Int32 := ((21 : Int32) * b)
      let x_938 : Int32 := (x_937 + v_909)
      let x_939 : Int32 := ((21 : Int32) * a)
      let x_940 : Int32 := (x_939 + v_909)
      let x_941 : Int64 := (g_910 (x_940 : Int32).toNatClampNeg)
      let g_942 : Nat → Int64 := (vp_updL g_910 (x_938 : Int32).toNatClampNeg x_941)
      let x_943 : Int32 := (v_909 + 1)
      (F_r_copy_L41a a b g_394 n9) x_943 g_942)) := rfl
noncomputable def F_r_copy_L2a (g_words : Nat → Int64) (a : Int32) (b : Int32) : Nat → Int32 → (Nat → Int32) → ((Nat → Int32) × (Nat → Int64)) := fun k9 => Nat.rec (motive := fun _ => Int32 → (Nat → Int32) → ((Nat → Int32) × (Nat → Int64))) (fun _ _ => default) (fun _ (G_L2a : Int32 → (Nat → Int32) → ((Nat → Int32) × (Nat → Int64))) => fun (v_393 : Int32) (g_394 : Nat → Int32) =>
    if 365 ≤ v_393 then (
      F_r_copy_L41a a b g_394 ((2147483647 - (0 : Int32).toInt).toNat + 1) (0 : Int32) g_words) else (
      let x_947 : Int32 := ((365 : Int32) * b)
      let x_948 : Int32 := (x_947 + v_393)
      let x_949 : Int32 := ((365 : Int32) * a)
      let x_950 : Int32 := (x_949 + v_393)
      let x_951 : Int32 := (g_394 (x_950 : Int32).toNatClampNeg)
      let g_952 : Nat → Int32 := (upd g_394 (x_948 : Int32).toNatClampNeg x_951)
      let x_953 : Int32 := (v_393 + 1)
      G_L2a x_953 g_952)) k9
theorem F_r_copy_L2a_s (g_words : Nat → Int64) (a : Int32) (b : Int32) (n9 : Nat) (v_393 : Int32) (g_394 : Nat → Int32) : F_r_copy_L2a g_words a b (n9 + 1) v_393 g_394 = (
    if 365 ≤ v_393 then (
      F_r_copy_L41a a b g_394 ((2147483647 - (0 : Int32).toInt).toNat + 1) (0 : Int32) g_words) else (
      let x_947 : Int32 := ((365 : Int32) * b)
      let x_948 : Int32 := (x_947 + v_393)
      let x_949 : Int32 := ((365 : Int32) * a)
      let x_950 : Int32 := (x_949 + v_393)
      let x_951 : Int32 := (g_394 (x_950 : Int32).toNatClampNeg)
      let g_952 : Nat → Int32 := (upd g_394 (x_948 : Int32).toNatClampNeg x_951)
      let x_953 : Int32 := (v_393 + 1)
      (F_r_copy_L2a g_words a b n9) x_953 g_952)) := rfl
noncomputable def F_r_copy (g_c : Nat → Int32) (g_words : Nat → Int64) (a : Int32) (b : Int32) : (Nat → Int32) × (Nat → Int64) :=
  F_r_copy_L2a g_words a b ((2147483647 - (0 : Int32).toInt).toNat + 1) (0 : Int32) g_c
theorem F_r_copy_s (g_c : Nat → Int32) (g_words : Nat → Int64) (a : Int32) (b : Int32) : F_r_copy g_c g_words a b = (
  F_r_copy_L2a g_words a b ((2147483647 - (0 : Int32).toInt).toNat + 1) (0 : Int32) g_c) := rfl
noncomputable def F_r_mark (m_markMany : Int32) (g_c : Nat → Int32) (g_words : Nat → Int64) : Int32 × Int32 × Int32 × Int32 × (Nat → Int32) × (Nat → Int64) :=
  if m_markMany = 3 then (
    let w_14 := F_r_refuse 7
    let r_12 : Int32 := w_14.1
    let n_11 : Int32 := w_14.2
    (r_12, n_11, (0 : Int32), m_markMany, g_c, g_words)) else (
    let x_3 : Int32 := (m_markMany + 1)
    let w_8 := F_r_copy g_c g_words 0 x_3
    let n_4 : Nat → Int32 := w_8.1
    let n_5 : Nat → Int64 := w_8.2
    (x_3, (0 : Int32), (0 : Int32), x_3, n_4, n_5))
theorem F_r_mark_s (m_markMany : Int32) (g_c : Nat → Int32) (g_words : Nat → Int64) : F_r_mark m_markMany g_c g_words = (
  if m_markMany = 3 then (
    let w_14 := F_r_refuse 7
    let r_12 : Int32 := w_14.1
    let n_11 : Int32 := w_14.2
    (r_12, n_11, (0 : Int32), m_markMany, g_c, g_words)) else (
    let x_3 : Int32 := (m_markMany + 1)
    let w_8 := F_r_copy g_c g_words 0 x_3
    let n_4 : Nat → Int32 := w_8.1
    let n_5 : Nat → Int64 := w_8.2
    (x_3, (0 : Int32), (0 : Int32), x_3, n_4, n_5))) := rfl
noncomputable def F_r_back (m_markMany : Int32) (g_c : Nat → Int32) (g_words : Nat → Int64) : Int32 × Int32 × Int32 × Int32 × (Nat → Int32) × (Nat → Int64) :=
  if m_markMany = 0 then (
    let w_14 := F_r_refuse 8
    let r_12 : Int32 := w_14.1
    let n_11 : Int32 := w_14.2
    (r_12, n_11, (0 : Int32), m_markMany, g_c, g_words)) else (
    let w_7 := F_r_copy g_c g_words m_markMany 0
    let n_3 : Nat → Int32 := w_7.1
    let n_4 : Nat → Int64 := w_7.2
    let x_8 : Int32 := (m_markMany - 1)
    (x_8, (0 : Int32), (0 : Int32), x_8, n_3, n_4))
theorem F_r_back_s (m_markMany : Int32) (g_c : Nat → Int32) (g_words : Nat → Int64) : F_r_back m_markMany g_c g_words = (
  if m_markMany = 0 then (
    let w_14 := F_r_refuse 8
    let r_12 : Int32 := w_14.1
    let n_11 : Int32 := w_14.2
    (r_12, n_11, (0 : Int32), m_markMany, g_c, g_words)) else (
    let w_7 := F_r_copy g_c g_words m_markMany 0
    let n_3 : Nat → Int32 := w_7.1
    let n_4 : Nat → Int64 := w_7.2
    let x_8 : Int32 := (m_markMany - 1)
    (x_8, (0 : Int32), (0 : Int32), x_8, n_3, n_4))) := rfl
noncomputable def F_r_readFeature_L137a (g_hasFeels : Nat → Int32) (v_371 : Int32) (v_374 : Int32) (v_375 : Int32) (v_376 : Int32) (v_377 : Int32) (v_378 : Int32) (v_379 : Int32) (v_380 : Int32) (v_381 : Int64) (g_382 : Nat → Int64) : Nat → Int32 → (Nat → Int32) → (Int32 × Int32 × Int32 × Int32 × Int32 × Int32 × Int32 × Int64 × (Nat → Int32) × (Nat → Int64) × (Nat → Int32)) := fun k9 => Nat.rec (motive := fun _ => Int32 → (Nat → Int32) → (Int32 × Int32 × Int32 × Int32 × Int32 × Int32 × Int32 × Int64 × (Nat → Int32) × (Nat → Int64) × (Nat → Int32))) (fun _ _ => default) (fun _ (G_L137a : Int32 → (Nat → Int32) → (Int32 × Int32 × Int32 × Int32 × Int32 × Int32 × Int32 × Int64 × (Nat → Int32) × (Nat → Int64) × (Nat → Int32))) => fun (v_1618 : Int32) (g_1619 : Nat → Int32) =>
    if 16 ≤ v_1618 then (
      let g_1677 : Nat → Int32 := (upd g_hasFeels (v_371 : Int32).toNatClampNeg (vp_nar .boolean 0))
      let x_1678 : Int32 := (g_1619 (1460 : Int32).toNatClampNeg)
      let x_1679 : Int32 := (x_1678 + 1)
      let g_1680 : Nat → Int32 := (upd g_1619 (1460 : Int32).toNatClampNeg x_1679)
      (v_374, v_375, v_376, v_377, v_378, v_379, v_380, v_381, g_1680, g_382, g_1677)) else (
      let x_1685 : Int32 := ((16 : Int32) * v_371)
      let x_1686 : Int32 := ((1477 : Int32) + x_1685)
      let x_1687 : Int32 := (x_1686 + v_1618)
      let x_1688 : Int32 := (v_1618 - v_1618 / (5 : Int32) * (5 : Int32))
      if x_1688 = 0 then (
        let g_1698 : Nat → Int32 := (upd g_1619 (x_1687 : Int32).toNatClampNeg 16)
        let x_1702 : Int32 := (v_1618 + 1)
        G_L137a x_1702 g_1698) else (
        let g_1691 : Nat → Int32 := (upd g_1619 (x_1687 : Int32).toNatClampNeg 0)
        let x_1695 : Int32 := (v_1618 + 1)
        G_L137a x_1695 g_1691))) k9
theorem F_r_readFeature_L137a_s (g_hasFeels : Nat → Int32) (v_371 : Int32) (v_374 : Int32) (v_375 : Int32) (v_376 : Int32) (v_377 : Int32) (v_378 : Int32) (v_379 : Int32) (v_380 : Int32) (v_381 : Int64) (g_382 : Nat → Int64) (n9 : Nat) (v_1618 : Int32) (g_1619 : Nat → Int32) : F_r_readFeature_L137a g_hasFeels v_371 v_374 v_375 v_376 v_377 v_378 v_379 v_380 v_381 g_382 (n9 + 1) v_1618 g_1619 = (
    if 16 ≤ v_1618 then (
      let g_1677 : Nat → Int32 := (upd g_hasFeels (v_371 : Int32).toNatClampNeg (vp_nar .boolean 0))
      let x_1678 : Int32 := (g_1619 (1460 : Int32).toNatClampNeg)
      let x_1679 : Int32 := (x_1678 + 1)
      let g_1680 : Nat → Int32 := (upd g_1619 (1460 : Int32).toNatClampNeg x_1679)
      (v_374, v_375, v_376, v_377, v_378, v_379, v_380, v_381, g_1680, g_382, g_1677)) else (
      let x_1685 : Int32 := ((16 : Int32) * v_371)
      let x_1686 : Int32 := ((1477 : Int32) + x_1685)
      let x_1687 : Int32 := (x_1686 + v_1618)
      let x_1688 : Int32 := (v_1618 - v_1618 / (5 : Int32) * (5 : Int32))
      if x_1688 = 0 then (
        let g_1698 : Nat → Int32 := (upd g_1619 (x_1687 : Int32).toNatClampNeg 16)
        let x_1702 : Int32 := (v_1618 + 1)
        (F_r_readFeature_L137a g_hasFeels v_371 v_374 v_375 v_376 v_377 v_378 v_379 v_380 v_381 g_382 n9) x_1702 g_1698) else (
        let g_1691 : Nat → Int32 := (upd g_1619 (x_1687 : Int32).toNatClampNeg 0)
        let x_1695 : Int32 := (v_1618 + 1)
        (F_r_readFeature_L137a g_hasFeels v_371 v_374 v_375 v_376 v_377 v_378 v_379 v_380 v_381 g_382 n9) x_1695 g_1691))) := rfl
noncomputable def F_r_readFeature_L137b (g_hasFeels : Nat → Int32) (v_371 : Int32) (v_374 : Int32) (v_375 : Int32) (v_376 : Int32) (v_377 : Int32) (v_378 : Int32) (v_379 : Int32) (v_380 : Int32) (v_381 : Int64) (g_382 : Nat → Int64) : Nat → Int32 → (Nat → Int32) → (Int32 × Int32 × Int32 × Int32 × Int32 × Int32 × Int32 × Int64 × (Nat → Int32) × (Nat → Int64) × (Nat → Int32)) := fun k9 => Nat.rec (motive := fun _ => Int32 → (Nat → Int32) → (Int32 × Int32 × Int32 × Int32 × Int32 × Int32 × Int32 × Int64 × (Nat → Int32) × (Nat → Int64) × (Nat → Int32))) (fun _ _ => default) (fun _ (G_L137b : Int32 → (Nat → Int32) → (Int32 × Int32 × Int32 × Int32 × Int32 × Int32 × Int32 × Int64 × (Nat → Int32) × (Nat → Int64) × (Nat → Int32))) => fun (v_2054 : Int32) (g_2055 : Nat → Int32) =>
    if 16 ≤ v_2054 then (
      let g_2113 : Nat → Int32 := (upd g_hasFeels (v_371 : Int32).toNatClampNeg (vp_nar .boolean 0))
      let x_2114 : Int32 := (g_2055 (1460 : Int32).toNatClampNeg)
      let x_2115 : Int32 := (x_2114 + 1)
      let g_2116 : Nat → Int32 := (upd g_2055 (1460 : Int32).toNatClampNeg x_2115)
      (v_374, v_375, v_376, v_377, v_378, v_379, v_380, v_381, g_2116, g_382, g_2113)) else (
      let x_2121 : Int32 := ((16 : Int32) * v_371)
      let x_2122 : Int32 := ((1477 : Int32) + x_2121)
      let x_2123 : Int32 := (x_2122 + v_2054)
      let x_2124 : Int32 := (v_2054 - v_2054 / (5 : Int32) * (5 : Int32))
      if x_2124 = 0 then (
        let g_2134 : Nat → Int32 := (upd g_2055 (x_2123 : Int32).toNatClampNeg 16)
        let x_2138 : Int32 := (v_2054 + 1)
        G_L137b x_2138 g_2134) else (
        let g_2127 : Nat → Int32 := (upd g_2055 (x_2123 : Int32).toNatClampNeg 0)
        let x_2131 : Int32 := (v_2054 + 1)
        G_L137b x_2131 g_2127))) k9
theorem F_r_readFeature_L137b_s (g_hasFeels : Nat → Int32) (v_371 : Int32) (v_374 : Int32) (v_375 : Int32) (v_376 : Int32) (v_377 : Int32) (v_378 : Int32) (v_379 : Int32) (v_380 : Int32) (v_381 : Int64) (g_382 : Nat → Int64) (n9 : Nat) (v_2054 : Int32) (g_2055 : Nat → Int32) : F_r_readFeature_L137b g_hasFeels v_371 v_374 v_375 v_376 v_377 v_378 v_379 v_380 v_381 g_382 (n9 + 1) v_2054 g_2055 = (
    if 16 ≤ v_2054 then (
      let g_2113 : Nat → Int32 := (upd g_hasFeels (v_371 : Int32).toNatClampNeg (vp_nar .boolean 0))
      let x_2114 : Int32 := (g_2055 (1460 : Int32).toNatClampNeg)
      let x_2115 : Int32 := (x_2114 + 1)
      let g_2116 : Nat → Int32 := (upd g_2055 (1460 : Int32).toNatClampNeg x_2115)
      (v_374, v_375, v_376, v_377, v_378, v_379, v_380, v_381, g_2116, g_382, g_2113)) else (
      let x_2121 : Int32 := ((16 : Int32) * v_371)
      let x_2122 : Int32 := ((1477 : Int32) + x_2121)
      let x_2123 : Int32 := (x_2122 + v_2054)
      let x_2124 : Int32 := (v_2054 - v_2054 / (5 : Int32) * (5 : Int32))
      if x_2124 = 0 then (
        let g_2134 : Nat → Int32 := (upd g_2055 (x_2123 : Int32).toNatClampNeg 16)
        let x_2138 : Int32 := (v_2054 + 1)
        (F_r_readFeature_L137b g_hasFeels v_371 v_374 v_375 v_376 v_377 v_378 v_379 v_380 v_381 g_382 n9) x_2138 g_2134) else (
        let g_2127 : Nat → Int32 := (upd g_2055 (x_2123 : Int32).toNatClampNeg 0)
        let x_2131 : Int32 := (v_2054 + 1)
        (F_r_readFeature_L137b g_hasFeels v_371 v_374 v_375 v_376 v_377 v_378 v_379 v_380 v_381 g_382 n9) x_2131 g_2127))) := rfl
noncomputable def F_r_readFeature_C104 (g_c : Nat → Int32) (g_hasFeels : Nat → Int32) (v_371 : Int32) (v_372 : Int32) (v_373 : Int32) (v_374 : Int32) (v_375 : Int32) (v_376 : Int32) (v_377 : Int32) (v_378 : Int32) (v_379 : Int32) (v_380 : Int32) (v_381 : Int64) (g_382 : Nat → Int64) : Int32 × Int32 × Int32 × Int32 × Int32 × Int32 × Int32 × Int64 × (Nat → Int32) × (Nat → Int64) × (Nat → Int32) :=
  let x_1262 : Int32 := ((1471 : Int32) + v_371)
  let g_1263 : Nat → Int32 := (upd g_c (x_1262 : Int32).toNatClampNeg v_372)
  let x_1267 : Int32 := ((1474 : Int32) + v_371)
  if v_373 = 0 then (
    let g_1270 : Nat → Int32 := (upd g_1263 (x_1267 : Int32).toNatClampNeg 0)
    F_r_readFeature_L137a g_hasFeels v_371 v_374 v_375 v_376 v_377 v_378 v_379 v_380 v_381 g_382 ((2147483647 - (0 : Int32).toInt).toNat + 1) (0 : Int32) g_1270) else (
    let g_1706 : Nat → Int32 := (upd g_1263 (x_1267 : Int32).toNatClampNeg 1)
    F_r_readFeature_L137b g_hasFeels v_371 v_374 v_375 v_376 v_377 v_378 v_379 v_380 v_381 g_382 ((2147483647 - (0 : Int32).toInt).toNat + 1) (0 : Int32) g_1706)
theorem F_r_readFeature_C104_s (g_c : Nat → Int32) (g_hasFeels : Nat → Int32) (v_371 : Int32) (v_372 : Int32) (v_373 : Int32) (v_374 : Int32) (v_375 : Int32) (v_376 : Int32) (v_377 : Int32) (v_378 : Int32) (v_379 : Int32) (v_380 : Int32) (v_381 : Int64) (g_382 : Nat → Int64) : F_r_readFeature_C104 g_c g_hasFeels v_371 v_372 v_373 v_374 v_375 v_376 v_377 v_378 v_379 v_380 v_381 g_382 = (
  let x_1262 : Int32 := ((1471 : Int32) + v_371)
  let g_1263 : Nat → Int32 := (upd g_c (x_1262 : Int32).toNatClampNeg v_372)
  let x_1267 : Int32 := ((1474 : Int32) + v_371)
  if v_373 = 0 then (
    let g_1270 : Nat → Int32 := (upd g_1263 (x_1267 : Int32).toNatClampNeg 0)
    F_r_readFeature_L137a g_hasFeels v_371 v_374 v_375 v_376 v_377 v_378 v_379 v_380 v_381 g_382 ((2147483647 - (0 : Int32).toInt).toNat + 1) (0 : Int32) g_1270) else (
    let g_1706 : Nat → Int32 := (upd g_1263 (x_1267 : Int32).toNatClampNeg 1)
    F_r_readFeature_L137b g_hasFeels v_371 v_374 v_375 v_376 v_377 v_378 v_379 v_380 v_381 g_382 ((2147483647 - (0 : Int32).toInt).toNat + 1) (0 : Int32) g_1706)) := rfl
noncomputable def F_r_readFeature (m_textEnd : Int32) (m_bad : Int32) (m_badAt : Int32) (m_token : Int32) (m_at : Int32) (m_behind : Int32) (m_number : Int32) (m_letters : Int32) (m_word : Int64) (g_tape : Nat → Int32) (g_c : Nat → Int32) (g_words : Nat → Int64) (g_hasFeels : Nat → Int32) : Int32 × Int32 × Int32 × Int32 × Int32 × Int32 × Int32 × Int64 × (Nat → Int32) × (Nat → Int64) × (Nat → Int32) :=
  let x_2141 : Int32 := (g_c (1460 : Int32).toNatClampNeg)
  if 3 ≤ x_2141 then (
    let w_2155 := F_r_readNew_0 m_textEnd m_bad m_badAt m_token m_at m_behind m_number m_letters m_word g_tape g_c g_words
    let r_2153 : Int32 := w_2155.1
    let n_2144 : Int32 := w_2155.2.1
    let n_2145 : Int32 := w_2155.2.2.1
    let n_2146 : Int32 := w_2155.2.2.2.1
    let n_2147 : Int32 := w_2155.2.2.2.2.1
    let n_2148 : Int32 := w_2155.2.2.2.2.2.1
    let n_2149 : Int32 := w_2155.2.2.2.2.2.2.1
    let n_2150 : Int32 := w_2155.2.2.2.2.2.2.2.1
    let n_2151 : Int64 := w_2155.2.2.2.2.2.2.2.2.1
    let n_2152 : Nat → Int64 := w_2155.2.2.2.2.2.2.2.2.2
    let w_2163 := F_r_houseWord n_2146 n_2151
    let r_2161 : Int32 := w_2163
    if r_2161 = 8 then (
      let w_2228 := F_r_must_1 m_textEnd n_2144 n_2146 n_2147 n_2148 n_2149 n_2150 n_2151 g_tape
      let n_2220 : Int32 := w_2228.1
      let n_2221 : Int32 := w_2228.2.1
      let n_2222 : Int32 := w_2228.2.2.1
      let n_2223 : Int32 := w_2228.2.2.2.1
      let n_2224 : Int32 := w_2228.2.2.2.2.1
      let n_2225 : Int64 := w_2228.2.2.2.2.2
      let w_2242 := F_r_count m_textEnd n_2144 n_2145 n_2220 n_2221 n_2222 n_2223 n_2224 n_2225 g_tape 2 4
      let r_2240 : Int32 := w_2242.1
      let n_2232 : Int32 := w_2242.2.1
      let n_2233 : Int32 := w_2242.2.2.1
      let n_2234 : Int32 := w_2242.2.2.2.1
      let n_2235 : Int32 := w_2242.2.2.2.2.1
      let n_2236 : Int32 := w_2242.2.2.2.2.2.1
      let n_2237 : Int32 := w_2242.2.2.2.2.2.2.1
      let n_2238 : Int32 := w_2242.2.2.2.2.2.2.2.1
      let n_2239 : Int64 := w_2242.2.2.2.2.2.2.2.2
      if n_2232 = 0 then (
        let w_2257 := F_r_houseWord n_2234 n_2239
        let r_2255 : Int32 := w_2257
        if r_2255 = 6 then (
          let w_2273 := F_r_next2 m_textEnd n_2236 n_2237 n_2238 n_2239 g_tape
          let n_2265 : Int32 := w_2273.1
          let n_2266 : Int32 := w_2273.2.1
          let n_2267 : Int32 := w_2273.2.2.1
          let n_2268 : Int32 := w_2273.2.2.2.1
          let n_2269 : Int32 := w_2273.2.2.2.2.1
          let n_2270 : Int64 := w_2273.2.2.2.2.2
          F_r_readFeature_C104 g_c g_hasFeels r_2153 r_2240 (1 : Int32) n_2232 n_2233 n_2265 n_2266 n_2267 n_2268 n_2269 n_2270 n_2152) else (
          F_r_readFeature_C104 g_c g_hasFeels r_2153 r_2240 (0 : Int32) n_2232 n_2233 n_2234 n_2235 n_2236 n_2237 n_2238 n_2239 n_2152)) else (
        (n_2232, n_2233, n_2234, n_2235, n_2236, n_2237, n_2238, n_2239, g_c, n_2152, g_hasFeels))) else (
      let w_2171 := F_r_must_0 n_2144 n_2145 n_2146 n_2147
      let n_2167 : Int32 := w_2171.1
      let n_2168 : Int32 := w_2171.2
      let w_2182 := F_r_count m_textEnd n_2167 n_2168 n_2146 n_2147 n_2148 n_2149 n_2150 n_2151 g_tape 2 4
      let r_2180 : Int32 := w_2182.1
      let n_2172 : Int32 := w_2182.2.1
      let n_2173 : Int32 := w_2182.2.2.1
      let n_2174 : Int32 := w_2182.2.2.2.1
      let n_2175 : Int32 := w_2182.2.2.2.2.1
      let n_2176 : Int32 := w_2182.2.2.2.2.2.1
      let n_2177 : Int32 := w_2182.2.2.2.2.2.2.1
      let n_2178 : Int32 := w_2182.2.2.2.2.2.2.2.1
      let n_2179 : Int64 := w_2182.2.2.2.2.2.2.2.2
      if n_2172 = 0 then (
        let w_2197 := F_r_houseWord n_2174 n_2179
        let r_2195 : Int32 := w_2197
        if r_2195 = 6 then (
          let w_2213 := F_r_next2 m_textEnd n_2176 n_2177 n_2178 n_2179 g_tape
          let n_2205 : Int32 := w_2213.1
          let n_2206 : Int32 := w_2213.2.1
          let n_2207 : Int32 := w_2213.2.2.1
          let n_2208 : Int32 := w_2213.2.2.2.1
          let n_2209 : Int32 := w_2213.2.2.2.2.1
          let n_2210 : Int64 := w_2213.2.2.2.2.2
          F_r_readFeature_C104 g_c g_hasFeels r_2153 r_2180 (1 : Int32) n_2172 n_2173 n_2205 n_2206 n_2207 n_2208 n_2209 n_2210 n_2152) else (
          F_r_readFeature_C104 g_c g_hasFeels r_2153 r_2180 (0 : Int32) n_2172 n_2173 n_2174 n_2175 n_2176 n_2177 n_2178 n_2179 n_2152)) else (
        (n_2172, n_2173, n_2174, n_2175, n_2176, n_2177, n_2178, n_2179, g_c, n_2152, g_hasFeels)))) else (
    let x_2280 : Int32 := (g_c (1461 : Int32).toNatClampNeg)
    if x_2280 ≤ 0 then (
      let w_2294 := F_r_readNew_0 m_textEnd m_bad m_badAt m_token m_at m_behind m_number m_letters m_word g_tape g_c g_words
      let r_2292 : Int32 := w_2294.1
      let n_2283 : Int32 := w_2294.2.1
      let n_2284 : Int32 := w_2294.2.2.1
      let n_2285 : Int32 := w_2294.2.2.2.1
      let n_2286 : Int32 := w_2294.2.2.2.2.1
      let n_2287 : Int32 := w_2294.2.2.2.2.2.1
      let n_2288 : Int32 := w_2294.2.2.2.2.2.2.1
      let n_2289 : Int32 := w_2294.2.2.2.2.2.2.2.1
      let n_2290 : Int64 := w_2294.2.2.2.2.2.2.2.2.1
      let n_2291 : Nat → Int64 := w_2294.2.2.2.2.2.2.2.2.2
      let w_2302 := F_r_houseWord n_2285 n_2290
      let r_2300 : Int32 := w_2302
      if r_2300 = 8 then (
        let w_2367 := F_r_must_1 m_textEnd n_2283 n_2285 n_2286 n_2287 n_2288 n_2289 n_2290 g_tape
        let n_2359 : Int32 := w_2367.1
        let n_2360 : Int32 := w_2367.2.1
        let n_2361 : Int32 := w_2367.2.2.1
        let n_2362 : Int32 := w_2367.2.2.2.1
        let n_2363 : Int32 := w_2367.2.2.2.2.1
        let n_2364 : Int64 := w_2367.2.2.2.2.2
        let w_2381 := F_r_count m_textEnd n_2283 n_2284 n_2359 n_2360 n_2361 n_2362 n_2363 n_2364 g_tape 2 4
        let r_2379 : Int32 := w_2381.1
        let n_2371 : Int32 := w_2381.2.1
        let n_2372 : Int32 := w_2381.2.2.1
        let n_2373 : Int32 := w_2381.2.2.2.1
        let n_2374 : Int32 := w_2381.2.2.2.2.1
        let n_2375 : Int32 := w_2381.2.2.2.2.2.1
        let n_2376 : Int32 := w_2381.2.2.2.2.2.2.1
        let n_2377 : Int32 := w_2381.2.2.2.2.2.2.2.1
        let n_2378 : Int64 := w_2381.2.2.2.2.2.2.2.2
        if n_2371 = 0 then (
          let w_2396 := F_r_houseWord n_2373 n_2378
          let r_2394 : Int32 := w_2396
          if r_2394 = 6 then (
            let w_2412 := F_r_next2 m_textEnd n_2375 n_2376 n_2377 n_2378 g_tape
            let n_2404 : Int32 := w_2412.1
            let n_2405 : Int32 := w_2412.2.1
            let n_2406 : Int32 := w_2412.2.2.1
            let n_2407 : Int32 := w_2412.2.2.2.1
            let n_2408 : Int32 := w_2412.2.2.2.2.1
            let n_2409 : Int64 := w_2412.2.2.2.2.2
            F_r_readFeature_C104 g_c g_hasFeels r_2292 r_2379 (1 : Int32) n_2371 n_2372 n_2404 n_2405 n_2406 n_2407 n_2408 n_2409 n_2291) else (
            F_r_readFeature_C104 g_c g_hasFeels r_2292 r_2379 (0 : Int32) n_2371 n_2372 n_2373 n_2374 n_2375 n_2376 n_2377 n_2378 n_2291)) else (
          (n_2371, n_2372, n_2373, n_2374, n_2375, n_2376, n_2377, n_2378, g_c, n_2291, g_hasFeels))) else (
        let w_2310 := F_r_must_0 n_2283 n_2284 n_2285 n_2286
        let n_2306 : Int32 := w_2310.1
        let n_2307 : Int32 := w_2310.2
        let w_2321 := F_r_count m_textEnd n_2306 n_2307 n_2285 n_2286 n_2287 n_2288 n_2289 n_2290 g_tape 2 4
        let r_2319 : Int32 := w_2321.1
        let n_2311 : Int32 := w_2321.2.1
        let n_2312 : Int32 := w_2321.2.2.1
        let n_2313 : Int32 := w_2321.2.2.2.1
        let n_2314 : Int32 := w_2321.2.2.2.2.1
        let n_2315 : Int32 := w_2321.2.2.2.2.2.1
        let n_2316 : Int32 := w_2321.2.2.2.2.2.2.1
        let n_2317 : Int32 := w_2321.2.2.2.2.2.2.2.1
        let n_2318 : Int64 := w_2321.2.2.2.2.2.2.2.2
        if n_2311 = 0 then (
          let w_2336 := F_r_houseWord n_2313 n_2318
          let r_2334 : Int32 := w_2336
          if r_2334 = 6 then (
            let w_2352 := F_r_next2 m_textEnd n_2315 n_2316 n_2317 n_2318 g_tape
            let n_2344 : Int32 := w_2352.1
            let n_2345 : Int32 := w_2352.2.1
            let n_2346 : Int32 := w_2352.2.2.1
            let n_2347 : Int32 := w_2352.2.2.2.1
            let n_2348 : Int32 := w_2352.2.2.2.2.1
            let n_2349 : Int64 := w_2352.2.2.2.2.2
            F_r_readFeature_C104 g_c g_hasFeels r_2292 r_2319 (1 : Int32) n_2311 n_2312 n_2344 n_2345 n_2346 n_2347 n_2348 n_2349 n_2291) else (
            F_r_readFeature_C104 g_c g_hasFeels r_2292 r_2319 (0 : Int32) n_2311 n_2312 n_2313 n_2314 n_2315 n_2316 n_2317 n_2318 n_2291)) else (
          (n_2311, n_2312, n_2313, n_2314, n_2315, n_2316, n_2317, n_2318, g_c, n_2291, g_hasFeels)))) else (
      let w_2423 := F_r_fail m_bad m_badAt 7 m_at
      let n_2419 : Int32 := w_2423.1
      let n_2420 : Int32 := w_2423.2
      let w_2436 := F_r_readNew_0 m_textEnd n_2419 n_2420 m_token m_at m_behind m_number m_letters m_word g_tape g_c g_words
      let r_2434 : Int32 := w_2436.1
      let n_2425 : Int32 := w_2436.2.1
      let n_2426 : Int32 := w_2436.2.2.1
      let n_2427 : Int32 := w_2436.2.2.2.1
      let n_2428 : Int32 := w_2436.2.2.2.2.1
      let n_2429 : Int32 := w_2436.2.2.2.2.2.1
      let n_2430 : Int32 := w_2436.2.2.2.2.2.2.1
      let n_2431 : Int32 := w_2436.2.2.2.2.2.2.2.1
      let n_2432 : Int64 := w_2436.2.2.2.2.2.2.2.2.1
      let n_2433 : Nat → Int64 := w_2436.2.2.2.2.2.2.2.2.2
      let w_2444 := F_r_houseWord n_2427 n_2432
      let r_2442 : Int32 := w_2444
      if r_2442 = 8 then (
        let w_2509 := F_r_must_1 m_textEnd n_2425 n_2427 n_2428 n_2429 n_2430 n_2431 n_2432 g_tape
        let n_2501 : Int32 := w_2509.1
        let n_2502 : Int32 := w_2509.2.1
        let n_2503 : Int32 := w_2509.2.2.1
        let n_2504 : Int32 := w_2509.2.2.2.1
        let n_2505 : Int32 := w_2509.2.2.2.2.1
        let n_2506 : Int64 := w_2509.2.2.2.2.2
        let w_2523 := F_r_count m_textEnd n_2425 n_2426 n_2501 n_2502 n_2503 n_2504 n_2505 n_2506 g_tape 2 4
        let r_2521 : Int32 := w_2523.1
        let n_2513 : Int32 := w_2523.2.1
        let n_2514 : Int32 := w_2523.2.2.1
        let n_2515 : Int32 := w_2523.2.2.2.1
        let n_2516 : Int32 := w_2523.2.2.2.2.1
        let n_2517 : Int32 := w_2523.2.2.2.2.2.1
        let n_2518 : Int32 := w_2523.2.2.2.2.2.2.1
        let n_2519 : Int32 := w_2523.2.2.2.2.2.2.2.1
        let n_2520 : Int64 := w_2523.2.2.2.2.2.2.2.2
        if n_2513 = 0 then (
          let w_2538 := F_r_houseWord n_2515 n_2520
          let r_2536 : Int32 := w_2538
          if r_2536 = 6 then (
            let w_2554 := F_r_next2 m_textEnd n_2517 n_2518 n_2519 n_2520 g_tape
            let n_2546 : Int32 := w_2554.1
            let n_2547 : Int32 := w_2554.2.1
            let n_2548 : Int32 := w_2554.2.2.1
            let n_2549 : Int32 := w_2554.2.2.2.1
            let n_2550 : Int32 := w_2554.2.2.2.2.1
            let n_2551 : Int64 := w_2554.2.2.2.2.2
            F_r_readFeature_C104 g_c g_hasFeels r_2434 r_2521 (1 : Int32) n_2513 n_2514 n_2546 n_2547 n_2548 n_2549 n_2550 n_2551 n_2433) else (
            F_r_readFeature_C104 g_c g_hasFeels r_2434 r_2521 (0 : Int32) n_2513 n_2514 n_2515 n_2516 n_2517 n_2518 n_2519 n_2520 n_2433)) else (
          (n_2513, n_2514, n_2515, n_2516, n_2517, n_2518, n_2519, n_2520, g_c, n_2433, g_hasFeels))) else (
        let w_2452 := F_r_must_0 n_2425 n_2426 n_2427 n_2428
        let n_2448 : Int32 := w_2452.1
        let n_2449 : Int32 := w_2452.2
        let w_2463 := F_r_count m_textEnd n_2448 n_2449 n_2427 n_2428 n_2429 n_2430 n_2431 n_2432 g_tape 2 4
        let r_2461 : Int32 := w_2463.1
        let n_2453 : Int32 := w_2463.2.1
        let n_2454 : Int32 := w_2463.2.2.1
        let n_2455 : Int32 := w_2463.2.2.2.1
        let n_2456 : Int32 := w_2463.2.2.2.2.1
        let n_2457 : Int32 := w_2463.2.2.2.2.2.1
        let n_2458 : Int32 := w_2463.2.2.2.2.2.2.1
        let n_2459 : Int32 := w_2463.2.2.2.2.2.2.2.1
        let n_2460 : Int64 := w_2463.2.2.2.2.2.2.2.2
        if n_2453 = 0 then (
          let w_2478 := F_r_houseWord n_2455 n_2460
          let r_2476 : Int32 := w_2478
          if r_2476 = 6 then (
            let w_2494 := F_r_next2 m_textEnd n_2457 n_2458 n_2459 n_2460 g_tape
            let n_2486 : Int32 := w_2494.1
            let n_2487 : Int32 := w_2494.2.1
            let n_2488 : Int32 := w_2494.2.2.1
            let n_2489 : Int32 := w_2494.2.2.2.1
            let n_2490 : Int32 := w_2494.2.2.2.2.1
            let n_2491 : Int64 := w_2494.2.2.2.2.2
            F_r_readFeature_C104 g_c g_hasFeels r_2434 r_2461 (1 : Int32) n_2453 n_2454 n_2486 n_2487 n_2488 n_2489 n_2490 n_2491 n_2433) else (
            F_r_readFeature_C104 g_c g_hasFeels r_2434 r_2461 (0 : Int32) n_2453 n_2454 n_2455 n_2456 n_2457 n_2458 n_2459 n_2460 n_2433)) else (
          (n_2453, n_2454, n_2455, n_2456, n_2457, n_2458, n_2459, n_2460, g_c, n_2433, g_hasFeels)))))
theorem F_r_readFeature_s (m_textEnd : Int32) (m_bad : Int32) (m_badAt : Int32) (m_token : Int32) (m_at : Int32) (m_behind : Int32) (m_number : Int32) (m_letters : Int32) (m_word : Int64) (g_tape : Nat → Int32) (g_c : Nat → Int32) (g_words : Nat → Int64) (g_hasFeels : Nat → Int32) : F_r_readFeature m_textEnd m_bad m_badAt m_token m_at m_behind m_number m_letters m_word g_tape g_c g_words g_hasFeels = (
  let x_2141 : Int32 := (g_c (1460 : Int32).toNatClampNeg)
  if 3 ≤ x_2141 then (
    let w_2155 := F_r_readNew_0 m_textEnd m_bad m_badAt m_token m_at m_behind m_number m_letters m_word g_tape g_c g_words
    let r_2153 : Int32 := w_2155.1
    let n_2144 : Int32 := w_2155.2.1
    let n_2145 : Int32 := w_2155.2.2.1
    let n_2146 : Int32 := w_2155.2.2.2.1
    let n_2147 : Int32 := w_2155.2.2.2.2.1
    let n_2148 : Int32 := w_2155.2.2.2.2.2.1
    let n_2149 : Int32 := w_2155.2.2.2.2.2.2.1
    let n_2150 : Int32 := w_2155.2.2.2.2.2.2.2.1
    let n_2151 : Int64 := w_2155.2.2.2.2.2.2.2.2.1
    let n_2152 : Nat → Int64 := w_2155.2.2.2.2.2.2.2.2.2
    let w_2163 := F_r_houseWord n_2146 n_2151
    let r_2161 : Int32 := w_2163
    if r_2161 = 8 then (
      let w_2228 := F_r_must_1 m_textEnd n_2144 n_2146 n_2147 n_2148 n_2149 n_2150 n_2151 g_tape
      let n_2220 : Int32 := w_2228.1
      let n_2221 : Int32 := w_2228.2.1
      let n_2222 : Int32 := w_2228.2.2.1
      let n_2223 : Int32 := w_2228.2.2.2.1
      let n_2224 : Int32 := w_2228.2.2.2.2.1
      let n_2225 : Int64 := w_2228.2.2.2.2.2
      let w_2242 := F_r_count m_textEnd n_2144 n_2145 n_2220 n_2221 n_2222 n_2223 n_2224 n_2225 g_tape 2 4
      let r_2240 : Int32 := w_2242.1
      let n_2232 : Int32 := w_2242.2.1
      let n_2233 : Int32 := w_2242.2.2.1
      let n_2234 : Int32 := w_2242.2.2.2.1
      let n_2235 : Int32 := w_2242.2.2.2.2.1
      let n_2236 : Int32 := w_2242.2.2.2.2.2.1
      let n_2237 : Int32 := w_2242.2.2.2.2.2.2.1
      let n_2238 : Int32 := w_2242.2.2.2.2.2.2.2.1
      let n_2239 : Int64 := w_2242.2.2.2.2.2.2.2.2
      if n_2232 = 0 then (
        let w_2257 := F_r_houseWord n_2234 n_2239
        let r_2255 : Int32 := w_2257
        if r_2255 = 6 then (
          let w_2273 := F_r_next2 m_textEnd n_2236 n_2237 n_2238 n_2239 g_tape
          let n_2265 : Int32 := w_2273.1
          let n_2266 : Int32 := w_2273.2.1
          let n_2267 : Int32 := w_2273.2.2.1
          let n_2268 : Int32 := w_2273.2.2.2.1
          let n_2269 : Int32 := w_2273.2.2.2.2.1
          let n_2270 : Int64 := w_2273.2.2.2.2.2
          F_r_readFeature_C104 g_c g_hasFeels r_2153 r_2240 (1 : Int32) n_2232 n_2233 n_2265 n_2266 n_2267 n_2268 n_2269 n_2270 n_2152) else (
          F_r_readFeature_C104 g_c g_hasFeels r_2153 r_2240 (0 : Int32) n_2232 n_2233 n_2234 n_2235 n_2236 n_2237 n_2238 n_2239 n_2152)) else (
        (n_2232, n_2233, n_2234, n_2235, n_2236, n_2237, n_2238, n_2239, g_c, n_2152, g_hasFeels))) else (
      let w_2171 := F_r_must_0 n_2144 n_2145 n_2146 n_2147
      let n_2167 : Int32 := w_2171.1
      let n_2168 : Int32 := w_2171.2
      let w_2182 := F_r_count m_textEnd n_2167 n_2168 n_2146 n_2147 n_2148 n_2149 n_2150 n_2151 g_tape 2 4
      let r_2180 : Int32 := w_2182.1
      let n_2172 : Int32 := w_2182.2.1
      let n_2173 : Int32 := w_2182.2.2.1
      let n_2174 : Int32 := w_2182.2.2.2.1
      let n_2175 : Int32 := w_2182.2.2.2.2.1
      let n_2176 : Int32 := w_2182.2.2.2.2.2.1
      let n_2177 : Int32 := w_2182.2.2.2.2.2.2.1
      let n_2178 : Int32 := w_2182.2.2.2.2.2.2.2.1
      let n_2179 : Int64 := w_2182.2.2.2.2.2.2.2.2
      if n_2172 = 0 then (
        let w_2197 := F_r_houseWord n_2174 n_2179
        let r_2195 : Int32 := w_2197
        if r_2195 = 6 then (
          let w_2213 := F_r_next2 m_textEnd n_2176 n_2177 n_2178 n_2179 g_tape
          let n_2205 : Int32 := w_2213.1
          let n_2206 : Int32 := w_2213.2.1
          let n_2207 : Int32 := w_2213.2.2.1
          let n_2208 : Int32 := w_2213.2.2.2.1
          let n_2209 : Int32 := w_2213.2.2.2.2.1
          let n_2210 : Int64 := w_2213.2.2.2.2.2
          F_r_readFeature_C104 g_c g_hasFeels r_2153 r_2180 (1 : Int32) n_2172 n_2173 n_2205 n_2206 n_2207 n_2208 n_2209 n_2210 n_2152) else (
          F_r_readFeature_C104 g_c g_hasFeels r_2153 r_2180 (0 : Int32) n_2172 n_2173 n_2174 n_2175 n_2176 n_2177 n_2178 n_2179 n_2152)) else (
        (n_2172, n_2173, n_2174, n_2175, n_2176, n_2177, n_2178, n_2179, g_c, n_2152, g_hasFeels)))) else (
    let x_2280 : Int32 := (g_c (1461 : Int32).toNatClampNeg)
    if x_2280 ≤ 0 then (
      let w_2294 := F_r_readNew_0 m_textEnd m_bad m_badAt m_token m_at m_behind m_number m_letters m_word g_tape g_c g_words
      let r_2292 : Int32 := w_2294.1
      let n_2283 : Int32 := w_2294.2.1
      let n_2284 : Int32 := w_2294.2.2.1
      let n_2285 : Int32 := w_2294.2.2.2.1
      let n_2286 : Int32 := w_2294.2.2.2.2.1
      let n_2287 : Int32 := w_2294.2.2.2.2.2.1
      let n_2288 : Int32 := w_2294.2.2.2.2.2.2.1
      let n_2289 : Int32 := w_2294.2.2.2.2.2.2.2.1
      let n_2290 : Int64 := w_2294.2.2.2.2.2.2.2.2.1
      let n_2291 : Nat → Int64 := w_2294.2.2.2.2.2.2.2.2.2
      let w_2302 := F_r_houseWord n_2285 n_2290
      let r_2300 : Int32 := w_2302
      if r_2300 = 8 then (
        let w_2367 := F_r_must_1 m_textEnd n_2283 n_2285 n_2286 n_2287 n_2288 n_2289 n_2290 g_tape
        let n_2359 : Int32 := w_2367.1
        let n_2360 : Int32 := w_2367.2.1
        let n_2361 : Int32 := w_2367.2.2.1
        let n_2362 : Int32 := w_2367.2.2.2.1
        let n_2363 : Int32 := w_2367.2.2.2.2.1
        let n_2364 : Int64 := w_2367.2.2.2.2.2
        let w_2381 := F_r_count m_textEnd n_2283 n_2284 n_2359 n_2360 n_2361 n_2362 n_2363 n_2364 g_tape 2 4
        let r_2379 : Int32 := w_2381.1
        let n_2371 : Int32 := w_2381.2.1
        let n_2372 : Int32 := w_2381.2.2.1
        let n_2373 : Int32 := w_2381.2.2.2.1
        let n_2374 : Int32 := w_2381.2.2.2.2.1
        let n_2375 : Int32 := w_2381.2.2.2.2.2.1
        let n_2376 : Int32 := w_2381.2.2.2.2.2.2.1
        let n_2377 : Int32 := w_2381.2.2.2.2.2.2.2.1
        let n_2378 : Int64 := w_2381.2.2.2.2.2.2.2.2
        if n_2371 = 0 then (
          let w_2396 := F_r_houseWord n_2373 n_2378
          let r_2394 : Int32 := w_2396
          if r_2394 = 6 then (
            let w_2412 := F_r_next2 m_textEnd n_2375 n_2376 n_2377 n_2378 g_tape
            let n_2404 : Int32 := w_2412.1
            let n_2405 : Int32 := w_2412.2.1
            let n_2406 : Int32 := w_2412.2.2.1
            let n_2407 : Int32 := w_2412.2.2.2.1
            let n_2408 : Int32 := w_2412.2.2.2.2.1
            let n_2409 : Int64 := w_2412.2.2.2.2.2
            F_r_readFeature_C104 g_c g_hasFeels r_2292 r_2379 (1 : Int32) n_2371 n_2372 n_2404 n_2405 n_2406 n_2407 n_2408 n_2409 n_2291) else (
            F_r_readFeature_C104 g_c g_hasFeels r_2292 r_2379 (0 : Int32) n_2371 n_2372 n_2373 n_2374 n_2375 n_2376 n_2377 n_2378 n_2291)) else (
          (n_2371, n_2372, n_2373, n_2374, n_2375, n_2376, n_2377, n_2378, g_c, n_2291, g_hasFeels))) else (
        let w_2310 := F_r_must_0 n_2283 n_2284 n_2285 n_2286
        let n_2306 : Int32 := w_2310.1
        let n_2307 : Int32 := w_2310.2
        let w_2321 := F_r_count m_textEnd n_2306 n_2307 n_2285 n_2286 n_2287 n_2288 n_2289 n_2290 g_tape 2 4
        let r_2319 : Int32 := w_2321.1
        let n_2311 : Int32 := w_2321.2.1
        let n_2312 : Int32 := w_2321.2.2.1
        let n_2313 : Int32 := w_2321.2.2.2.1
        let n_2314 : Int32 := w_2321.2.2.2.2.1
        let n_2315 : Int32 := w_2321.2.2.2.2.2.1
        let n_2316 : Int32 := w_2321.2.2.2.2.2.2.1
        let n_2317 : Int32 := w_2321.2.2.2.2.2.2.2.1
        let n_2318 : Int64 := w_2321.2.2.2.2.2.2.2.2
        if n_2311 = 0 then (
          let w_2336 := F_r_houseWord n_2313 n_2318
          let r_2334 : Int32 := w_2336
          if r_2334 = 6 then (
            let w_2352 := F_r_next2 m_textEnd n_2315 n_2316 n_2317 n_2318 g_tape
            let n_2344 : Int32 := w_2352.1
            let n_2345 : Int32 := w_2352.2.1
            let n_2346 : Int32 := w_2352.2.2.1
            let n_2347 : Int32 := w_2352.2.2.2.1
            let n_2348 : Int32 := w_2352.2.2.2.2.1
            let n_2349 : Int64 := w_2352.2.2.2.2.2
            F_r_readFeature_C104 g_c g_hasFeels r_2292 r_2319 (1 : Int32) n_2311 n_2312 n_2344 n_2345 n_2346 n_2347 n_2348 n_2349 n_2291) else (
            F_r_readFeature_C104 g_c g_hasFeels r_2292 r_2319 (0 : Int32) n_2311 n_2312 n_2313 n_2314 n_2315 n_2316 n_2317 n_2318 n_2291)) else (
          (n_2311, n_2312, n_2313, n_2314, n_2315, n_2316, n_2317, n_2318, g_c, n_2291, g_hasFeels)))) else (
      let w_2423 := F_r_fail m_bad m_badAt 7 m_at
      let n_2419 : Int32 := w_2423.1
      let n_2420 : Int32 := w_2423.2
      let w_2436 := F_r_readNew_0 m_textEnd n_2419 n_2420 m_token m_at m_behind m_number m_letters m_word g_tape g_c g_words
      let r_2434 : Int32 := w_2436.1
      let n_2425 : Int32 := w_2436.2.1
      let n_2426 : Int32 := w_2436.2.2.1
      let n_2427 : Int32 := w_2436.2.2.2.1
      let n_2428 : Int32 := w_2436.2.2.2.2.1
      let n_2429 : Int32 := w_2436.2.2.2.2.2.1
      let n_2430 : Int32 := w_2436.2.2.2.2.2.2.1
      let n_2431 : Int32 := w_2436.2.2.2.2.2.2.2.1
      let n_2432 : Int64 := w_2436.2.2.2.2.2.2.2.2.1
      let n_2433 : Nat → Int64 := w_2436.2.2.2.2.2.2.2.2.2
      let w_2444 := F_r_houseWord n_2427 n_2432
      let r_2442 : Int32 := w_2444
      if r_2442 = 8 then (
        let w_2509 := F_r_must_1 m_textEnd n_2425 n_2427 n_2428 n_2429 n_2430 n_2431 n_2432 g_tape
        let n_2501 : Int32 := w_2509.1
        let n_2502 : Int32 := w_2509.2.1
        let n_2503 : Int32 := w_2509.2.2.1
        let n_2504 : Int32 := w_2509.2.2.2.1
        let n_2505 : Int32 := w_2509.2.2.2.2.1
        let n_2506 : Int64 := w_2509.2.2.2.2.2
        let w_2523 := F_r_count m_textEnd n_2425 n_2426 n_2501 n_2502 n_2503 n_2504 n_2505 n_2506 g_tape 2 4
        let r_2521 : Int32 := w_2523.1
        let n_2513 : Int32 := w_2523.2.1
        let n_2514 : Int32 := w_2523.2.2.1
        let n_2515 : Int32 := w_2523.2.2.2.1
        let n_2516 : Int32 := w_2523.2.2.2.2.1
        let n_2517 : Int32 := w_2523.2.2.2.2.2.1
        let n_2518 : Int32 := w_2523.2.2.2.2.2.2.1
        let n_2519 : Int32 := w_2523.2.2.2.2.2.2.2.1
        let n_2520 : Int64 := w_2523.2.2.2.2.2.2.2.2
        if n_2513 = 0 then (
          let w_2538 := F_r_houseWord n_2515 n_2520
          let r_2536 : Int32 := w_2538
          if r_2536 = 6 then (
            let w_2554 := F_r_next2 m_textEnd n_2517 n_2518 n_2519 n_2520 g_tape
            let n_2546 : Int32 := w_2554.1
            let n_2547 : Int32 := w_2554.2.1
            let n_2548 : Int32 := w_2554.2.2.1
            let n_2549 : Int32 := w_2554.2.2.2.1
            let n_2550 : Int32 := w_2554.2.2.2.2.1
            let n_2551 : Int64 := w_2554.2.2.2.2.2
            F_r_readFeature_C104 g_c g_hasFeels r_2434 r_2521 (1 : Int32) n_2513 n_2514 n_2546 n_2547 n_2548 n_2549 n_2550 n_2551 n_2433) else (
            F_r_readFeature_C104 g_c g_hasFeels r_2434 r_2521 (0 : Int32) n_2513 n_2514 n_2515 n_2516 n_2517 n_2518 n_2519 n_2520 n_2433)) else (
          (n_2513, n_2514, n_2515, n_2516, n_2517, n_2518, n_2519, n_2520, g_c, n_2433, g_hasFeels))) else (
        let w_2452 := F_r_must_0 n_2425 n_2426 n_2427 n_2428
        let n_2448 : Int32 := w_2452.1
        let n_2449 : Int32 := w_2452.2
        let w_2463 := F_r_count m_textEnd n_2448 n_2449 n_2427 n_2428 n_2429 n_2430 n_2431 n_2432 g_tape 2 4
        let r_2461 : Int32 := w_2463.1
        let n_2453 : Int32 := w_2463.2.1
        let n_2454 : Int32 := w_2463.2.2.1
        let n_2455 : Int32 := w_2463.2.2.2.1
        let n_2456 : Int32 := w_2463.2.2.2.2.1
        let n_2457 : Int32 := w_2463.2.2.2.2.2.1
        let n_2458 : Int32 := w_2463.2.2.2.2.2.2.1
        let n_2459 : Int32 := w_2463.2.2.2.2.2.2.2.1
        let n_2460 : Int64 := w_2463.2.2.2.2.2.2.2.2
        if n_2453 = 0 then (
          let w_2478 := F_r_houseWord n_2455 n_2460
          let r_2476 : Int32 := w_2478
          if r_2476 = 6 then (
            let w_2494 := F_r_next2 m_textEnd n_2457 n_2458 n_2459 n_2460 g_tape
            let n_2486 : Int32 := w_2494.1
            let n_2487 : Int32 := w_2494.2.1
            let n_2488 : Int32 := w_2494.2.2.1
            let n_2489 : Int32 := w_2494.2.2.2.1
            let n_2490 : Int32 := w_2494.2.2.2.2.1
            let n_2491 : Int64 := w_2494.2.2.2.2.2
            F_r_readFeature_C104 g_c g_hasFeels r_2434 r_2461 (1 : Int32) n_2453 n_2454 n_2486 n_2487 n_2488 n_2489 n_2490 n_2491 n_2433) else (
            F_r_readFeature_C104 g_c g_hasFeels r_2434 r_2461 (0 : Int32) n_2453 n_2454 n_2455 n_2456 n_2457 n_2458 n_2459 n_2460 n_2433)) else (
          (n_2453, n_2454, n_2455, n_2456, n_2457, n_2458, n_2459, n_2460, g_c, n_2433, g_hasFeels)))))) := rfl
