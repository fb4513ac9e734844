noncomputable def F_Se_measured (se_places : Int32) (h_doors : Int32) (h_roundMany : Int32) (c_h_wanted : Nat → Int32) (c_h_openers : Nat → Int32) (c_h_seconds : Nat → Int32) (c_h_roundDoors : Nat → Int32) (c_se_row : Nat → Int32) (k : Int32) : Int32 :=
  if k = 0 then (
    let w_17 := F_Se_wantedSecondsFrom se_places h_doors c_h_wanted c_h_openers c_h_seconds c_se_row 0 0
    let r_15 : Int32 := w_17
    r_15) else (
    if k = 1 then (
      let w_12 := F_Se_wantedSecondsAnywhere se_places h_doors c_h_wanted c_h_openers c_h_seconds c_se_row
      let r_10 : Int32 := w_12
      r_10) else (
      let w_7 := F_Se_secondsOfRound se_places h_doors h_roundMany c_h_openers c_h_seconds c_h_roundDoors c_se_row
      let r_5 : Int32 := w_7
      r_5))
theorem F_Se_measured_s (se_places : Int32) (h_doors : Int32) (h_roundMany : Int32) (c_h_wanted : Nat → Int32) (c_h_openers : Nat → Int32) (c_h_seconds : Nat → Int32) (c_h_roundDoors : Nat → Int32) (c_se_row : Nat → Int32) (k : Int32) : F_Se_measured se_places h_doors h_roundMany c_h_wanted c_h_openers c_h_seconds c_h_roundDoors c_se_row k = (
  if k = 0 then (
    let w_17 := F_Se_wantedSecondsFrom se_places h_doors c_h_wanted c_h_openers c_h_seconds c_se_row 0 0
    let r_15 : Int32 := w_17
    r_15) else (
    if k = 1 then (
      let w_12 := F_Se_wantedSecondsAnywhere se_places h_doors c_h_wanted c_h_openers c_h_seconds c_se_row
      let r_10 : Int32 := w_12
      r_10) else (
      let w_7 := F_Se_secondsOfRound se_places h_doors h_roundMany c_h_openers c_h_seconds c_h_roundDoors c_se_row
      let r_5 : Int32 := w_7
      r_5))) := rfl
noncomputable def F_Se_keepFound_r_L7a (c_se_row : Nat → Int32) (k : Int32) : Nat → Int32 → (Nat → Int32) → (Int32 × (Nat → Int32)) := fun k9 => Nat.rec (motive := fun _ => Int32 → (Nat → Int32) → (Int32 × (Nat → Int32))) (fun _ _ => default) (fun _ (G_L7a : Int32 → (Nat → Int32) → (Int32 × (Nat → Int32))) => fun (v_21 : Int32) (g_22 : Nat → Int32) =>
    if k ≤ v_21 then (
      (k, g_22)) else (
      let w_42 := F_at_10 c_se_row v_21
      let r_40 : Int32 := w_42
      let w_46 := F_keepAt_10 g_22 v_21 r_40
      let nw0_43 : Nat → Int32 := w_46
      G_L7a (v_21 + 1) nw0_43)) k9
theorem F_Se_keepFound_r_L7a_s (c_se_row : Nat → Int32) (k : Int32) (n9 : Nat) (v_21 : Int32) (g_22 : Nat → Int32) : F_Se_keepFound_r_L7a c_se_row k (n9 + 1) v_21 g_22 = (
    if k ≤ v_21 then (
      (k, g_22)) else (
      let w_42 := F_at_10 c_se_row v_21
      let r_40 : Int32 := w_42
      let w_46 := F_keepAt_10 g_22 v_21 r_40
      let nw0_43 : Nat → Int32 := w_46
      (F_Se_keepFound_r_L7a c_se_row k n9) (v_21 + 1) nw0_43)) := rfl
noncomputable def F_Se_keepFound_r (c_se_row : Nat → Int32) (c_se_found : Nat → Int32) (k : Int32) : Int32 × (Nat → Int32) :=
  F_Se_keepFound_r_L7a c_se_row k ((2147483647 - (0 : Int32).toInt).toNat + 1) (0 : Int32) c_se_found
theorem F_Se_keepFound_r_s (c_se_row : Nat → Int32) (c_se_found : Nat → Int32) (k : Int32) : F_Se_keepFound_r c_se_row c_se_found k = (
  F_Se_keepFound_r_L7a c_se_row k ((2147483647 - (0 : Int32).toInt).toNat + 1) (0 : Int32) c_se_found) := rfl
noncomputable def F_Se_keepFound_q_L7a (c_se_rr : Nat → Int32) (k : Int32) : Nat → Int32 → (Nat → Int32) → (Int32 × (Nat → Int32)) := fun k9 => Nat.rec (motive := fun _ => Int32 → (Nat → Int32) → (Int32 × (Nat → Int32))) (fun _ _ => default) (fun _ (G_L7a : Int32 → (Nat → Int32) → (Int32 × (Nat → Int32))) => fun (v_21 : Int32) (g_22 : Nat → Int32) =>
    if k ≤ v_21 then (
      (k, g_22)) else (
      let w_42 := F_at_3 c_se_rr v_21
      let r_40 : Int32 := w_42
      let w_46 := F_keepAt_10 g_22 v_21 r_40
      let nw0_43 : Nat → Int32 := w_46
      G_L7a (v_21 + 1) nw0_43)) k9
theorem F_Se_keepFound_q_L7a_s (c_se_rr : Nat → Int32) (k : Int32) (n9 : Nat) (v_21 : Int32) (g_22 : Nat → Int32) : F_Se_keepFound_q_L7a c_se_rr k (n9 + 1) v_21 g_22 = (
    if k ≤ v_21 then (
      (k, g_22)) else (
      let w_42 := F_at_3 c_se_rr v_21
      let r_40 : Int32 := w_42
      let w_46 := F_keepAt_10 g_22 v_21 r_40
      let nw0_43 : Nat → Int32 := w_46
      (F_Se_keepFound_q_L7a c_se_rr k n9) (v_21 + 1) nw0_43)) := rfl
noncomputable def F_Se_keepFound_q (c_se_found : Nat → Int32) (c_se_rr : Nat → Int32) (k : Int32) : Int32 × (Nat → Int32) :=
  F_Se_keepFound_q_L7a c_se_rr k ((2147483647 - (0 : Int32).toInt).toNat + 1) (0 : Int32) c_se_found
theorem F_Se_keepFound_q_s (c_se_found : Nat → Int32) (c_se_rr : Nat → Int32) (k : Int32) : F_Se_keepFound_q c_se_found c_se_rr k = (
  F_Se_keepFound_q_L7a c_se_rr k ((2147483647 - (0 : Int32).toInt).toNat + 1) (0 : Int32) c_se_found) := rfl
noncomputable def F_Se_swap_r (c_se_row : Nat → Int32) (k : Int32) (j : Int32) : (Nat → Int32) :=
  let w_3 := F_at_10 c_se_row k
  let r_1 : Int32 := w_3
  let w_6 := F_at_10 c_se_row j
  let r_4 : Int32 := w_6
  let w_10 := F_keepAt_10 c_se_row k r_4
  let nw0_7 : Nat → Int32 := w_10
  let w_14 := F_keepAt_10 nw0_7 j r_1
  let nw0_11 : Nat → Int32 := w_14
  nw0_11
theorem F_Se_swap_r_s (c_se_row : Nat → Int32) (k : Int32) (j : Int32) : F_Se_swap_r c_se_row k j = (
  let w_3 := F_at_10 c_se_row k
  let r_1 : Int32 := w_3
  let w_6 := F_at_10 c_se_row j
  let r_4 : Int32 := w_6
  let w_10 := F_keepAt_10 c_se_row k r_4
  let nw0_7 : Nat → Int32 := w_10
  let w_14 := F_keepAt_10 nw0_7 j r_1
  let nw0_11 : Nat → Int32 := w_14
  nw0_11) := rfl
noncomputable def F_Se_swap_q (c_se_rr : Nat → Int32) (k : Int32) (j : Int32) : (Nat → Int32) :=
  let w_3 := F_at_3 c_se_rr k
  let r_1 : Int32 := w_3
  let w_6 := F_at_3 c_se_rr j
  let r_4 : Int32 := w_6
  let w_10 := F_keepAt_3 c_se_rr k r_4
  let nw0_7 : Nat → Int32 := w_10
  let w_14 := F_keepAt_3 nw0_7 j r_1
  let nw0_11 : Nat → Int32 := w_14
  nw0_11
theorem F_Se_swap_q_s (c_se_rr : Nat → Int32) (k : Int32) (j : Int32) : F_Se_swap_q c_se_rr k j = (
  let w_3 := F_at_3 c_se_rr k
  let r_1 : Int32 := w_3
  let w_6 := F_at_3 c_se_rr j
  let r_4 : Int32 := w_6
  let w_10 := F_keepAt_3 c_se_rr k r_4
  let nw0_7 : Nat → Int32 := w_10
  let w_14 := F_keepAt_3 nw0_7 j r_1
  let nw0_11 : Nat → Int32 := w_14
  nw0_11) := rfl
noncomputable def F_Se_sortUp_L9a (v_113 : Int32) (G_L2a : Int32 → (Nat → Int32) → ((Nat → Int32))) : Nat → Int32 → (Nat → Int32) → (Nat → Int32) := fun k9 => Nat.rec (motive := fun _ => Int32 → (Nat → Int32) → (Nat → Int32)) (fun _ _ => default) (fun _ (G_L9a : Int32 → (Nat → Int32) → (Nat → Int32)) => fun (v_230 : Int32) (g_231 : Nat → Int32) =>
    if v_230 ≤ 0 then (
      G_L2a (v_113 + 1) g_231) else (
      let w_256 := F_at_10 g_231 (v_230 - 1)
      let r_254 : Int32 := w_256
      let w_259 := F_at_10 g_231 v_230
      let r_257 : Int32 := w_259
      if r_254 ≤ r_257 then (
        G_L2a (v_113 + 1) g_231) else (
        let w_267 := F_Se_swap_r g_231 (v_230 - 1) v_230
        let nw0_264 : Nat → Int32 := w_267
        G_L9a (v_230 + (-1)) nw0_264))) k9
theorem F_Se_sortUp_L9a_s (v_113 : Int32) (G_L2a : Int32 → (Nat → Int32) → ((Nat → Int32))) (n9 : Nat) (v_230 : Int32) (g_231 : Nat → Int32) : F_Se_sortUp_L9a v_113 G_L2a (n9 + 1) v_230 g_231 = (
    if v_230 ≤ 0 then (
      G_L2a (v_113 + 1) g_231) else (
      let w_256 := F_at_10 g_231 (v_230 - 1)
      let r_254 : Int32 := w_256
      let w_259 := F_at_10 g_231 v_230
      let r_257 : Int32 := w_259
      if r_254 ≤ r_257 then (
        G_L2a (v_113 + 1) g_231) else (
        let w_267 := F_Se_swap_r g_231 (v_230 - 1) v_230
        let nw0_264 : Nat → Int32 := w_267
        (F_Se_sortUp_L9a v_113 G_L2a n9) (v_230 + (-1)) nw0_264))) := rfl
noncomputable def F_Se_sortUp_L2a (k : Int32) : Nat → Int32 → (Nat → Int32) → (Nat → Int32) := fun k9 => Nat.rec (motive := fun _ => Int32 → (Nat → Int32) → (Nat → Int32)) (fun _ _ => default) (fun _ (G_L2a : Int32 → (Nat → Int32) → (Nat → Int32)) => fun (v_113 : Int32) (g_114 : Nat → Int32) =>
    if k ≤ v_113 then (
      g_114) else (
      F_Se_sortUp_L9a v_113 G_L2a ((v_113.toInt + 2147483648).toNat + 1) v_113 g_114)) k9
theorem F_Se_sortUp_L2a_s (k : Int32) (n9 : Nat) (v_113 : Int32) (g_114 : Nat → Int32) : F_Se_sortUp_L2a k (n9 + 1) v_113 g_114 = (
    if k ≤ v_113 then (
      g_114) else (
      F_Se_sortUp_L9a v_113 (F_Se_sortUp_L2a k n9) ((v_113.toInt + 2147483648).toNat + 1) v_113 g_114)) := rfl
noncomputable def F_Se_sortUp (c_se_row : Nat → Int32) (k : Int32) : (Nat → Int32) :=
  F_Se_sortUp_L2a k ((2147483647 - (1 : Int32).toInt).toNat + 1) (1 : Int32) c_se_row
theorem F_Se_sortUp_s (c_se_row : Nat → Int32) (k : Int32) : F_Se_sortUp c_se_row k = (
  F_Se_sortUp_L2a k ((2147483647 - (1 : Int32).toInt).toNat + 1) (1 : Int32) c_se_row) := rfl
noncomputable def F_Se_nextOrder_r_L79a : Nat → Int32 → Int32 → (Nat → Int32) → (Int32 × (Nat → Int32)) := fun k9 => Nat.rec (motive := fun _ => Int32 → Int32 → (Nat → Int32) → (Int32 × (Nat → Int32))) (fun _ _ _ => default) (fun _ (G_L79a : Int32 → Int32 → (Nat → Int32) → (Int32 × (Nat → Int32))) => fun (v_433 : Int32) (v_434 : Int32) (g_435 : Nat → Int32) =>
    if v_433 ≤ v_434 then (
      ((1 : Int32), g_435)) else (
      let w_452 := F_Se_swap_r g_435 v_434 v_433
      let nw0_449 : Nat → Int32 := w_452
      G_L79a (v_433 + (-1)) (v_434 + 1) nw0_449)) k9
theorem F_Se_nextOrder_r_L79a_s (n9 : Nat) (v_433 : Int32) (v_434 : Int32) (g_435 : Nat → Int32) : F_Se_nextOrder_r_L79a (n9 + 1) v_433 v_434 g_435 = (
    if v_433 ≤ v_434 then (
      ((1 : Int32), g_435)) else (
      let w_452 := F_Se_swap_r g_435 v_434 v_433
      let nw0_449 : Nat → Int32 := w_452
      (F_Se_nextOrder_r_L79a n9) (v_433 + (-1)) (v_434 + 1) nw0_449)) := rfl
noncomputable def F_Se_nextOrder_r_L79b : Nat → Int32 → Int32 → (Nat → Int32) → (Int32 × (Nat → Int32)) := fun k9 => Nat.rec (motive := fun _ => Int32 → Int32 → (Nat → Int32) → (Int32 × (Nat → Int32))) (fun _ _ _ => default) (fun _ (G_L79b : Int32 → Int32 → (Nat → Int32) → (Int32 × (Nat → Int32))) => fun (v_487 : Int32) (v_488 : Int32) (g_489 : Nat → Int32) =>
    if v_487 ≤ v_488 then (
      ((1 : Int32), g_489)) else (
      let w_506 := F_Se_swap_r g_489 v_488 v_487
      let nw0_503 : Nat → Int32 := w_506
      G_L79b (v_487 + (-1)) (v_488 + 1) nw0_503)) k9
theorem F_Se_nextOrder_r_L79b_s (n9 : Nat) (v_487 : Int32) (v_488 : Int32) (g_489 : Nat → Int32) : F_Se_nextOrder_r_L79b (n9 + 1) v_487 v_488 g_489 = (
    if v_487 ≤ v_488 then (
      ((1 : Int32), g_489)) else (
      let w_506 := F_Se_swap_r g_489 v_488 v_487
      let nw0_503 : Nat → Int32 := w_506
      (F_Se_nextOrder_r_L79b n9) (v_487 + (-1)) (v_488 + 1) nw0_503)) := rfl
noncomputable def F_Se_nextOrder_r_L39a (c_se_row : Nat → Int32) (k : Int32) (v_28 : Int32) : Nat → Int32 → (Int32 × (Nat → Int32)) := fun k9 => Nat.rec (motive := fun _ => Int32 → (Int32 × (Nat → Int32))) (fun _ => default) (fun _ (G_L39a : Int32 → (Int32 × (Nat → Int32))) => fun (v_307 : Int32) =>
    if v_307 ≤ v_28 then (
      let w_413 := F_Se_swap_r c_se_row v_28 v_307
      let nw0_410 : Nat → Int32 := w_413
      F_Se_nextOrder_r_L79a (((k - 1).toInt + 2147483648).toNat + 1) (k - 1) (v_28 + 1) nw0_410) else (
      let w_458 := F_at_10 c_se_row v_307
      let r_456 : Int32 := w_458
      let w_461 := F_at_10 c_se_row v_28
      let r_459 : Int32 := w_461
      if r_459 ≤ r_456 then (
        let w_467 := F_Se_swap_r c_se_row v_28 v_307
        let nw0_464 : Nat → Int32 := w_467
        F_Se_nextOrder_r_L79b (((k - 1).toInt + 2147483648).toNat + 1) (k - 1) (v_28 + 1) nw0_464) else (
        G_L39a (v_307 + (-1))))) k9
theorem F_Se_nextOrder_r_L39a_s (c_se_row : Nat → Int32) (k : Int32) (v_28 : Int32) (n9 : Nat) (v_307 : Int32) : F_Se_nextOrder_r_L39a c_se_row k v_28 (n9 + 1) v_307 = (
    if v_307 ≤ v_28 then (
      let w_413 := F_Se_swap_r c_se_row v_28 v_307
      let nw0_410 : Nat → Int32 := w_413
      F_Se_nextOrder_r_L79a (((k - 1).toInt + 2147483648).toNat + 1) (k - 1) (v_28 + 1) nw0_410) else (
      let w_458 := F_at_10 c_se_row v_307
      let r_456 : Int32 := w_458
      let w_461 := F_at_10 c_se_row v_28
      let r_459 : Int32 := w_461
      if r_459 ≤ r_456 then (
        let w_467 := F_Se_swap_r c_se_row v_28 v_307
        let nw0_464 : Nat → Int32 := w_467
        F_Se_nextOrder_r_L79b (((k - 1).toInt + 2147483648).toNat + 1) (k - 1) (v_28 + 1) nw0_464) else (
        (F_Se_nextOrder_r_L39a c_se_row k v_28 n9) (v_307 + (-1))))) := rfl
noncomputable def F_Se_nextOrder_r_L4a (c_se_row : Nat → Int32) (k : Int32) : Nat → Int32 → (Int32 × (Nat → Int32)) := fun k9 => Nat.rec (motive := fun _ => Int32 → (Int32 × (Nat → Int32))) (fun _ => default) (fun _ (G_L4a : Int32 → (Int32 × (Nat → Int32))) => fun (v_28 : Int32) =>
    if v_28 < 0 then (
      ((0 : Int32), c_se_row)) else (
      let w_275 := F_at_10 c_se_row v_28
      let r_273 : Int32 := w_275
      let w_278 := F_at_10 c_se_row (v_28 + 1)
      let r_276 : Int32 := w_278
      if r_273 ≤ r_276 then (
        F_Se_nextOrder_r_L39a c_se_row k v_28 (((k - 1).toInt + 2147483648).toNat + 1) (k - 1)) else (
        G_L4a (v_28 + (-1))))) k9
theorem F_Se_nextOrder_r_L4a_s (c_se_row : Nat → Int32) (k : Int32) (n9 : Nat) (v_28 : Int32) : F_Se_nextOrder_r_L4a c_se_row k (n9 + 1) v_28 = (
    if v_28 < 0 then (
      ((0 : Int32), c_se_row)) else (
      let w_275 := F_at_10 c_se_row v_28
      let r_273 : Int32 := w_275
      let w_278 := F_at_10 c_se_row (v_28 + 1)
      let r_276 : Int32 := w_278
      if r_273 ≤ r_276 then (
        F_Se_nextOrder_r_L39a c_se_row k v_28 (((k - 1).toInt + 2147483648).toNat + 1) (k - 1)) else (
        (F_Se_nextOrder_r_L4a c_se_row k n9) (v_28 + (-1))))) := rfl
noncomputable def F_Se_nextOrder_r (c_se_row : Nat → Int32) (k : Int32) : Int32 × (Nat → Int32) :=
  F_Se_nextOrder_r_L4a c_se_row k (((k - 2).toInt + 2147483648).toNat + 1) (k - 2)
theorem F_Se_nextOrder_r_s (c_se_row : Nat → Int32) (k : Int32) : F_Se_nextOrder_r c_se_row k = (
  F_Se_nextOrder_r_L4a c_se_row k (((k - 2).toInt + 2147483648).toNat + 1) (k - 2)) := rfl
noncomputable def F_Se_nextOrder_q_L79a : Nat → Int32 → Int32 → (Nat → Int32) → (Int32 × (Nat → Int32)) := fun k9 => Nat.rec (motive := fun _ => Int32 → Int32 → (Nat → Int32) → (Int32 × (Nat → Int32))) (fun _ _ _ => default) (fun _ (G_L79a : Int32 → Int32 → (Nat → Int32) → (Int32 × (Nat → Int32))) => fun (v_433 : Int32) (v_434 : Int32) (g_435 : Nat → Int32) =>
    if v_433 ≤ v_434 then (
      ((1 : Int32), g_435)) else (
      let w_452 := F_Se_swap_q g_435 v_434 v_433
      let nw0_449 : Nat → Int32 := w_452
      G_L79a (v_433 + (-1)) (v_434 + 1) nw0_449)) k9
theorem F_Se_nextOrder_q_L79a_s (n9 : Nat) (v_433 : Int32) (v_434 : Int32) (g_435 : Nat → Int32) : F_Se_nextOrder_q_L79a (n9 + 1) v_433 v_434 g_435 = (
    if v_433 ≤ v_434 then (
      ((1 : Int32), g_435)) else (
      let w_452 := F_Se_swap_q g_435 v_434 v_433
      let nw0_449 : Nat → Int32 := w_452
      (F_Se_nextOrder_q_L79a n9) (v_433 + (-1)) (v_434 + 1) nw0_449)) := rfl
noncomputable def F_Se_nextOrder_q_L79b : Nat → Int32 → Int32 → (Nat → Int32) → (Int32 × (Nat → Int32)) := fun k9 => Nat.rec (motive := fun _ => Int32 → Int32 → (Nat → Int32) → (Int32 × (Nat → Int32))) (fun _ _ _ => default) (fun _ (G_L79b : Int32 → Int32 → (Nat → Int32) → (Int32 × (Nat → Int32))) => fun (v_487 : Int32) (v_488 : Int32) (g_489 : Nat → Int32) =>
    if v_487 ≤ v_488 then (
      ((1 : Int32), g_489)) else (
      let w_506 := F_Se_swap_q g_489 v_488 v_487
      let nw0_503 : Nat → Int32 := w_506
      G_L79b (v_487 + (-1)) (v_488 + 1) nw0_503)) k9
theorem F_Se_nextOrder_q_L79b_s (n9 : Nat) (v_487 : Int32) (v_488 : Int32) (g_489 : Nat → Int32) : F_Se_nextOrder_q_L79b (n9 + 1) v_487 v_488 g_489 = (
    if v_487 ≤ v_488 then (
      ((1 : Int32), g_489)) else (
      let w_506 := F_Se_swap_q g_489 v_488 v_487
      let nw0_503 : Nat → Int32 := w_506
      (F_Se_nextOrder_q_L79b n9) (v_487 + (-1)) (v_488 + 1) nw0_503)) := rfl
noncomputable def F_Se_nextOrder_q_L39a (c_se_rr : Nat → Int32) (k : Int32) (v_28 : Int32) : Nat → Int32 → (Int32 × (Nat → Int32)) := fun k9 => Nat.rec (motive := fun _ => Int32 → (Int32 × (Nat → Int32))) (fun _ => default) (fun _ (G_L39a : Int32 → (Int32 × (Nat → Int32))) => fun (v_307 : Int32) =>
    if v_307 ≤ v_28 then (
      let w_413 := F_Se_swap_q c_se_rr v_28 v_307
      let nw0_410 : Nat → Int32 := w_413
      F_Se_nextOrder_q_L79a (((k - 1).toInt + 2147483648).toNat + 1) (k - 1) (v_28 + 1) nw0_410) else (
      let w_458 := F_at_3 c_se_rr v_307
      let r_456 : Int32 := w_458
      let w_461 := F_at_3 c_se_rr v_28
      let r_459 : Int32 := w_461
      if r_459 ≤ r_456 then (
        let w_467 := F_Se_swap_q c_se_rr v_28 v_307
        let nw0_464 : Nat → Int32 := w_467
        F_Se_nextOrder_q_L79b (((k - 1).toInt + 2147483648).toNat + 1) (k - 1) (v_28 + 1) nw0_464) else (
        G_L39a (v_307 + (-1))))) k9
theorem F_Se_nextOrder_q_L39a_s (c_se_rr : Nat → Int32) (k : Int32) (v_28 : Int32) (n9 : Nat) (v_307 : Int32) : F_Se_nextOrder_q_L39a c_se_rr k v_28 (n9 + 1) v_307 = (
    if v_307 ≤ v_28 then (
      let w_413 := F_Se_swap_q c_se_rr v_28 v_307
      let nw0_410 : Nat → Int32 := w_413
      F_Se_nextOrder_q_L79a (((k - 1).toInt + 2147483648).toNat + 1) (k - 1) (v_28 + 1) nw0_410) else (
      let w_458 := F_at_3 c_se_rr v_307
      let r_456 : Int32 := w_458
      let w_461 := F_at_3 c_se_rr v_28
      let r_459 : Int32 := w_461
      if r_459 ≤ r_456 then (
        let w_467 := F_Se_swap_q c_se_rr v_28 v_307
        let nw0_464 : Nat → Int32 := w_467
        F_Se_nextOrder_q_L79b (((k - 1).toInt + 2147483648).toNat + 1) (k - 1) (v_28 + 1) nw0_464) else (
        (F_Se_nextOrder_q_L39a c_se_rr k v_28 n9) (v_307 + (-1))))) := rfl
noncomputable def F_Se_nextOrder_q_L4a (c_se_rr : Nat → Int32) (k : Int32) : Nat → Int32 → (Int32 × (Nat → Int32)) := fun k9 => Nat.rec (motive := fun _ => Int32 → (Int32 × (Nat → Int32))) (fun _ => default) (fun _ (G_L4a : Int32 → (Int32 × (Nat → Int32))) => fun (v_28 : Int32) =>
    if v_28 < 0 then (
      ((0 : Int32), c_se_rr)) else (
      let w_275 := F_at_3 c_se_rr v_28
      let r_273 : Int32 := w_275
      let w_278 := F_at_3 c_se_rr (v_28 + 1)
      let r_276 : Int32 := w_278
      if r_273 ≤ r_276 then (
        F_Se_nextOrder_q_L39a c_se_rr k v_28 (((k - 1).toInt + 2147483648).toNat + 1) (k - 1)) else (
        G_L4a (v_28 + (-1))))) k9
theorem F_Se_nextOrder_q_L4a_s (c_se_rr : Nat → Int32) (k : Int32) (n9 : Nat) (v_28 : Int32) : F_Se_nextOrder_q_L4a c_se_rr k (n9 + 1) v_28 = (
    if v_28 < 0 then (
      ((0 : Int32), c_se_rr)) else (
      let w_275 := F_at_3 c_se_rr v_28
      let r_273 : Int32 := w_275
      let w_278 := F_at_3 c_se_rr (v_28 + 1)
      let r_276 : Int32 := w_278
      if r_273 ≤ r_276 then (
        F_Se_nextOrder_q_L39a c_se_rr k v_28 (((k - 1).toInt + 2147483648).toNat + 1) (k - 1)) else (
        (F_Se_nextOrder_q_L4a c_se_rr k n9) (v_28 + (-1))))) := rfl
noncomputable def F_Se_nextOrder_q (c_se_rr : Nat → Int32) (k : Int32) : Int32 × (Nat → Int32) :=
  F_Se_nextOrder_q_L4a c_se_rr k (((k - 2).toInt + 2147483648).toNat + 1) (k - 2)
theorem F_Se_nextOrder_q_s (c_se_rr : Nat → Int32) (k : Int32) : F_Se_nextOrder_q c_se_rr k = (
  F_Se_nextOrder_q_L4a c_se_rr k (((k - 2).toInt + 2147483648).toNat + 1) (k - 2)) := rfl
noncomputable def F_Se_findOrder_L18a (se_places : Int32) (h_doors : Int32) (h_roundMany : Int32) (c_h_wanted : Nat → Int32) (c_h_openers : Nat → Int32) (c_h_seconds : Nat → Int32) (c_h_roundDoors : Nat → Int32) (k : Int32) : Nat → Int32 → Int32 → Int32 → Int32 → (Nat → Int32) → (Nat → Int32) → (Int32 × Int32 × (Nat → Int32) × (Nat → Int32)) := fun k9 => Nat.rec (motive := fun _ => Int32 → Int32 → Int32 → Int32 → (Nat → Int32) → (Nat → Int32) → (Int32 × Int32 × (Nat → Int32) × (Nat → Int32))) (fun _ _ _ _ _ _ => default) (fun _ (G_L18a : Int32 → Int32 → Int32 → Int32 → (Nat → Int32) → (Nat → Int32) → (Int32 × Int32 × (Nat → Int32) × (Nat → Int32))) => fun (v_60 : Int32) (v_61 : Int32) (v_62 : Int32) (v_63 : Int32) (g_64 : Nat → Int32) (g_65 : Nat → Int32) =>
    if 720 ≤ v_62 then (
      (v_60, v_63, g_65, g_64)) else (
      if v_61 = 0 then (
        (v_60, v_63, g_65, g_64)) else (
        let w_116 := F_Se_measured se_places h_doors h_roundMany c_h_wanted c_h_openers c_h_seconds c_h_roundDoors g_65 k
        let r_114 : Int32 := w_116
        if v_60 = (-1) then (
          let w_123 := F_Se_keepFound_r g_65 g_64 se_places
          let nw0_119 : Int32 := w_123.1
          let nw1_120 : Nat → Int32 := w_123.2
          let w_127 := F_Se_nextOrder_r g_65 se_places
          let r_125 : Int32 := w_127.1
          let nw0_124 : Nat → Int32 := w_127.2
          G_L18a r_114 r_125 (v_62 + 1) nw0_119 nw1_120 nw0_124) else (
          if v_60 ≤ r_114 then (
            let w_135 := F_Se_nextOrder_r g_65 se_places
            let r_133 : Int32 := w_135.1
            let nw0_132 : Nat → Int32 := w_135.2
            G_L18a v_60 r_133 (v_62 + 1) v_63 g_64 nw0_132) else (
            let w_142 := F_Se_keepFound_r g_65 g_64 se_places
            let nw0_138 : Int32 := w_142.1
            let nw1_139 : Nat → Int32 := w_142.2
            let w_146 := F_Se_nextOrder_r g_65 se_places
            let r_144 : Int32 := w_146.1
            let nw0_143 : Nat → Int32 := w_146.2
            G_L18a r_114 r_144 (v_62 + 1) nw0_138 nw1_139 nw0_143))))) k9
theorem F_Se_findOrder_L18a_s (se_places : Int32) (h_doors : Int32) (h_roundMany : Int32) (c_h_wanted : Nat → Int32) (c_h_openers : Nat → Int32) (c_h_seconds : Nat → Int32) (c_h_roundDoors : Nat → Int32) (k : Int32) (n9 : Nat) (v_60 : Int32) (v_61 : Int32) (v_62 : Int32) (v_63 : Int32) (g_64 : Nat → Int32) (g_65 : Nat → Int32) : F_Se_findOrder_L18a se_places h_doors h_roundMany c_h_wanted c_h_openers c_h_seconds c_h_roundDoors k (n9 + 1) v_60 v_61 v_62 v_63 g_64 g_65 = (
    if 720 ≤ v_62 then (
      (v_60, v_63, g_65, g_64)) else (
      if v_61 = 0 then (
        (v_60, v_63, g_65, g_64)) else (
        let w_116 := F_Se_measured se_places h_doors h_roundMany c_h_wanted c_h_openers c_h_seconds c_h_roundDoors g_65 k
        let r_114 : Int32 := w_116
        if v_60 = (-1) then (
          let w_123 := F_Se_keepFound_r g_65 g_64 se_places
          let nw0_119 : Int32 := w_123.1
          let nw1_120 : Nat → Int32 := w_123.2
          let w_127 := F_Se_nextOrder_r g_65 se_places
          let r_125 : Int32 := w_127.1
          let nw0_124 : Nat → Int32 := w_127.2
          (F_Se_findOrder_L18a se_places h_doors h_roundMany c_h_wanted c_h_openers c_h_seconds c_h_roundDoors k n9) r_114 r_125 (v_62 + 1) nw0_119 nw1_120 nw0_124) else (
          if v_60 ≤ r_114 then (
            let w_135 := F_Se_nextOrder_r g_65 se_places
            let r_133 : Int32 := w_135.1
            let nw0_132 : Nat → Int32 := w_135.2
            (F_Se_findOrder_L18a se_places h_doors h_roundMany c_h_wanted c_h_openers c_h_seconds c_h_roundDoors k n9) v_60 r_133 (v_62 + 1) v_63 g_64 nw0_132) else (
            let w_142 := F_Se_keepFound_r g_65 g_64 se_places
            let nw0_138 : Int32 := w_142.1
            let nw1_139 : Nat → Int32 := w_142.2
            let w_146 := F_Se_nextOrder_r g_65 se_places
            let r_144 : Int32 := w_146.1
            let nw0_143 : Nat → Int32 := w_146.2
            (F_Se_findOrder_L18a se_places h_doors h_roundMany c_h_wanted c_h_openers c_h_seconds c_h_roundDoors k n9) r_114 r_144 (v_62 + 1) nw0_138 nw1_139 nw0_143))))) := rfl
noncomputable def F_Se_findOrder (se_places : Int32) (se_foundMany : Int32) (h_doors : Int32) (h_roundMany : Int32) (c_h_wanted : Nat → Int32) (c_h_openers : Nat → Int32) (c_h_seconds : Nat → Int32) (c_h_roundDoors : Nat → Int32) (c_se_row : Nat → Int32) (c_se_found : Nat → Int32) (k : Int32) : Int32 × Int32 × (Nat → Int32) × (Nat → Int32) :=
  let w_4 := F_Se_sortUp c_se_row se_places
  let nw0_1 : Nat → Int32 := w_4
  F_Se_findOrder_L18a se_places h_doors h_roundMany c_h_wanted c_h_openers c_h_seconds c_h_roundDoors k ((2147483647 - (0 : Int32).toInt).toNat + 1) (-1 : Int32) (1 : Int32) (0 : Int32) se_foundMany c_se_found nw0_1
theorem F_Se_findOrder_s (se_places : Int32) (se_foundMany : Int32) (h_doors : Int32) (h_roundMany : Int32) (c_h_wanted : Nat → Int32) (c_h_openers : Nat → Int32) (c_h_seconds : Nat → Int32) (c_h_roundDoors : Nat → Int32) (c_se_row : Nat → Int32) (c_se_found : Nat → Int32) (k : Int32) : F_Se_findOrder se_places se_foundMany h_doors h_roundMany c_h_wanted c_h_openers c_h_seconds c_h_roundDoors c_se_row c_se_found k = (
  let w_4 := F_Se_sortUp c_se_row se_places
  let nw0_1 : Nat → Int32 := w_4
  F_Se_findOrder_L18a se_places h_doors h_roundMany c_h_wanted c_h_openers c_h_seconds c_h_roundDoors k ((2147483647 - (0 : Int32).toInt).toNat + 1) (-1 : Int32) (1 : Int32) (0 : Int32) se_foundMany c_se_found nw0_1) := rfl
noncomputable def F_Li_load (h_keys : Int32) (h_lent : Int32) (h_rings : Int32) (c_h_on : Nat → Int32) (c_h_onMany : Nat → Int32) (c_li_row : Nat → Int32) (k : Int32) : Int32 × (Nat → Int32) :=
  let w_4 := F_H_rowThere h_keys h_lent h_rings c_h_on c_h_onMany c_li_row k
  let r_2 : Int32 := w_4.1
  let nw0_1 : Nat → Int32 := w_4.2
  (r_2, nw0_1)
theorem F_Li_load_s (h_keys : Int32) (h_lent : Int32) (h_rings : Int32) (c_h_on : Nat → Int32) (c_h_onMany : Nat → Int32) (c_li_row : Nat → Int32) (k : Int32) : F_Li_load h_keys h_lent h_rings c_h_on c_h_onMany c_li_row k = (
  let w_4 := F_H_rowThere h_keys h_lent h_rings c_h_on c_h_onMany c_li_row k
  let r_2 : Int32 := w_4.1
  let nw0_1 : Nat → Int32 := w_4.2
  (r_2, nw0_1)) := rfl
noncomputable def F_Li_keyAt (c_li_row : Nat → Int32) (k : Int32) : Int32 :=
  let w_3 := F_at_10 c_li_row k
  let r_1 : Int32 := w_3
  r_1
theorem F_Li_keyAt_s (c_li_row : Nat → Int32) (k : Int32) : F_Li_keyAt c_li_row k = (
  let w_3 := F_at_10 c_li_row k
  let r_1 : Int32 := w_3
  r_1) := rfl
noncomputable def F_Li_areAlike_L3a (h_features : Int32) (h_keys : Int32) (c_h_steps : Nat → Int32) (c_h_turnedFeatures : Nat → Int32) (c_h_keySteps : Nat → Int32) (k : Int32) (j : Int32) (i1 : Int32) (i2 : Int32) : Nat → Int32 → Int32 := fun k9 => Nat.rec (motive := fun _ => Int32 → Int32) (fun _ => default) (fun _ (G_L3a : Int32 → Int32) => fun (v_34 : Int32) =>
    if h_features ≤ v_34 then (
      (1 : Int32)) else (
      let x_59 : Int32 := (i1 >>> (v_34 &&& 31))
      let x_60 : Int32 := (x_59 &&& 1)
      if x_60 = 0 then (
        G_L3a (v_34 + 1)) else (
        let w_65 := F_H_stepAt h_features h_keys c_h_steps c_h_turnedFeatures c_h_keySteps k v_34 0
        let r_63 : Int32 := w_65
        let w_68 := F_H_stepAt h_features h_keys c_h_steps c_h_turnedFeatures c_h_keySteps j v_34 i2
        let r_66 : Int32 := w_68
        if r_63 = r_66 then (
          G_L3a (v_34 + 1)) else (
          (0 : Int32))))) k9
theorem F_Li_areAlike_L3a_s (h_features : Int32) (h_keys : Int32) (c_h_steps : Nat → Int32) (c_h_turnedFeatures : Nat → Int32) (c_h_keySteps : Nat → Int32) (k : Int32) (j : Int32) (i1 : Int32) (i2 : Int32) (n9 : Nat) (v_34 : Int32) : F_Li_areAlike_L3a h_features h_keys c_h_steps c_h_turnedFeatures c_h_keySteps k j i1 i2 (n9 + 1) v_34 = (
    if h_features ≤ v_34 then (
      (1 : Int32)) else (
      let x_59 : Int32 := (i1 >>> (v_34 &&& 31))
      let x_60 : Int32 := (x_59 &&& 1)
      if x_60 = 0 then (
        (F_Li_areAlike_L3a h_features h_keys c_h_steps c_h_turnedFeatures c_h_keySteps k j i1 i2 n9) (v_34 + 1)) else (
        let w_65 := F_H_stepAt h_features h_keys c_h_steps c_h_turnedFeatures c_h_keySteps k v_34 0
        let r_63 : Int32 := w_65
        let w_68 := F_H_stepAt h_features h_keys c_h_steps c_h_turnedFeatures c_h_keySteps j v_34 i2
        let r_66 : Int32 := w_68
        if r_63 = r_66 then (
          (F_Li_areAlike_L3a h_features h_keys c_h_steps c_h_turnedFeatures c_h_keySteps k j i1 i2 n9) (v_34 + 1)) else (
          (0 : Int32))))) := rfl
noncomputable def F_Li_areAlike (h_features : Int32) (h_keys : Int32) (c_h_steps : Nat → Int32) (c_h_turnedFeatures : Nat → Int32) (c_h_keySteps : Nat → Int32) (k : Int32) (j : Int32) (i1 : Int32) (i2 : Int32) : Int32 :=
  F_Li_areAlike_L3a h_features h_keys c_h_steps c_h_turnedFeatures c_h_keySteps k j i1 i2 ((2147483647 - (0 : Int32).toInt).toNat + 1) (0 : Int32)
theorem F_Li_areAlike_s (h_features : Int32) (h_keys : Int32) (c_h_steps : Nat → Int32) (c_h_turnedFeatures : Nat → Int32) (c_h_keySteps : Nat → Int32) (k : Int32) (j : Int32) (i1 : Int32) (i2 : Int32) : F_Li_areAlike h_features h_keys c_h_steps c_h_turnedFeatures c_h_keySteps k j i1 i2 = (
  F_Li_areAlike_L3a h_features h_keys c_h_steps c_h_turnedFeatures c_h_keySteps k j i1 i2 ((2147483647 - (0 : Int32).toInt).toNat + 1) (0 : Int32)) := rfl
noncomputable def F_Li_allFeatures (h_features : Int32) : Int32 :=
  let x_1 : Int32 := ((1 : Int32) <<< (h_features &&& 31))
  let x_2 : Int32 := (x_1 - 1)
  x_2
theorem F_Li_allFeatures_s (h_features : Int32) : F_Li_allFeatures h_features = (
  let x_1 : Int32 := ((1 : Int32) <<< (h_features &&& 31))
  let x_2 : Int32 := (x_1 - 1)
  x_2) := rfl
noncomputable def F_Li_alikeAhead_L4a (h_features : Int32) (h_keys : Int32) (c_h_steps : Nat → Int32) (c_h_turnedFeatures : Nat → Int32) (c_h_keySteps : Nat → Int32) (c_li_row : Nat → Int32) (k : Int32) : Nat → Int32 → Int32 → Int32 := fun k9 => Nat.rec (motive := fun _ => Int32 → Int32 → Int32) (fun _ _ => default) (fun _ (G_L4a : Int32 → Int32 → Int32) => fun (v_37 : Int32) (v_38 : Int32) =>
    if k ≤ v_38 then (
      v_37) else (
      let w_66 := F_Li_keyAt c_li_row v_38
      let r_64 : Int32 := w_66
      let w_69 := F_Li_keyAt c_li_row k
      let r_67 : Int32 := w_69
      let w_72 := F_Li_allFeatures h_features
      let r_70 : Int32 := w_72
      let w_75 := F_Li_areAlike h_features h_keys c_h_steps c_h_turnedFeatures c_h_keySteps r_64 r_67 r_70 0
      let r_73 : Int32 := w_75
      if r_73 = 0 then (
        G_L4a v_37 (v_38 + 1)) else (
        G_L4a (v_37 + 1) (v_38 + 1)))) k9
theorem F_Li_alikeAhead_L4a_s (h_features : Int32) (h_keys : Int32) (c_h_steps : Nat → Int32) (c_h_turnedFeatures : Nat → Int32) (c_h_keySteps : Nat → Int32) (c_li_row : Nat → Int32) (k : Int32) (n9 : Nat) (v_37 : Int32) (v_38 : Int32) : F_Li_alikeAhead_L4a h_features h_keys c_h_steps c_h_turnedFeatures c_h_keySteps c_li_row k (n9 + 1) v_37 v_38 = (
    if k ≤ v_38 then (
      v_37) else (
      let w_66 := F_Li_keyAt c_li_row v_38
      let r_64 : Int32 := w_66
      let w_69 := F_Li_keyAt c_li_row k
      let r_67 : Int32 := w_69
      let w_72 := F_Li_allFeatures h_features
      let r_70 : Int32 := w_72
      let w_75 := F_Li_areAlike h_features h_keys c_h_steps c_h_turnedFeatures c_h_keySteps r_64 r_67 r_70 0
      let r_73 : Int32 := w_75
      if r_73 = 0 then (
        (F_Li_alikeAhead_L4a h_features h_keys c_h_steps c_h_turnedFeatures c_h_keySteps c_li_row k n9) v_37 (v_38 + 1)) else (
        (F_Li_alikeAhead_L4a h_features h_keys c_h_steps c_h_turnedFeatures c_h_keySteps c_li_row k n9) (v_37 + 1) (v_38 + 1)))) := rfl
noncomputable def F_Li_alikeAhead (h_features : Int32) (h_keys : Int32) (c_h_steps : Nat → Int32) (c_h_turnedFeatures : Nat → Int32) (c_h_keySteps : Nat → Int32) (c_li_row : Nat → Int32) (k : Int32) : Int32 :=
  F_Li_alikeAhead_L4a h_features h_keys c_h_steps c_h_turnedFeatures c_h_keySteps c_li_row k ((2147483647 - (0 : Int32).toInt).toNat + 1) (0 : Int32) (0 : Int32)
theorem F_Li_alikeAhead_s (h_features : Int32) (h_keys : Int32) (c_h_steps : Nat → Int32) (c_h_turnedFeatures : Nat → Int32) (c_h_keySteps : Nat → Int32) (c_li_row : Nat → Int32) (k : Int32) : F_Li_alikeAhead h_features h_keys c_h_steps c_h_turnedFeatures c_h_keySteps c_li_row k = (
  F_Li_alikeAhead_L4a h_features h_keys c_h_steps c_h_turnedFeatures c_h_keySteps c_li_row k ((2147483647 - (0 : Int32).toInt).toNat + 1) (0 : Int32) (0 : Int32)) := rfl
noncomputable def F_Li_couplesAlike_L4a (li_places : Int32) (h_features : Int32) (h_keys : Int32) (c_h_steps : Nat → Int32) (c_h_turnedFeatures : Nat → Int32) (c_h_keySteps : Nat → Int32) (c_li_row : Nat → Int32) : Nat → Int32 → Int32 → Int32 := fun k9 => Nat.rec (motive := fun _ => Int32 → Int32 → Int32) (fun _ _ => default) (fun _ (G_L4a : Int32 → Int32 → Int32) => fun (v_15 : Int32) (v_16 : Int32) =>
    if li_places ≤ v_16 then (
      v_15) else (
      let w_33 := F_Li_alikeAhead h_features h_keys c_h_steps c_h_turnedFeatures c_h_keySteps c_li_row v_16
      let r_31 : Int32 := w_33
      let x_34 : Int32 := (v_15 + r_31)
      G_L4a x_34 (v_16 + 1))) k9
theorem F_Li_couplesAlike_L4a_s (li_places : Int32) (h_features : Int32) (h_keys : Int32) (c_h_steps : Nat → Int32) (c_h_turnedFeatures : Nat → Int32) (c_h_keySteps : Nat → Int32) (c_li_row : Nat → Int32) (n9 : Nat) (v_15 : Int32) (v_16 : Int32) : F_Li_couplesAlike_L4a li_places h_features h_keys c_h_steps c_h_turnedFeatures c_h_keySteps c_li_row (n9 + 1) v_15 v_16 = (
    if li_places ≤ v_16 then (
      v_15) else (
      let w_33 := F_Li_alikeAhead h_features h_keys c_h_steps c_h_turnedFeatures c_h_keySteps c_li_row v_16
      let r_31 : Int32 := w_33
      let x_34 : Int32 := (v_15 + r_31)
      (F_Li_couplesAlike_L4a li_places h_features h_keys c_h_steps c_h_turnedFeatures c_h_keySteps c_li_row n9) x_34 (v_16 + 1))) := rfl
noncomputable def F_Li_couplesAlike (li_places : Int32) (h_features : Int32) (h_keys : Int32) (c_h_steps : Nat → Int32) (c_h_turnedFeatures : Nat → Int32) (c_h_keySteps : Nat → Int32) (c_li_row : Nat → Int32) : Int32 :=
  F_Li_couplesAlike_L4a li_places h_features h_keys c_h_steps c_h_turnedFeatures c_h_keySteps c_li_row ((2147483647 - (0 : Int32).toInt).toNat + 1) (0 : Int32) (0 : Int32)
theorem F_Li_couplesAlike_s (li_places : Int32) (h_features : Int32) (h_keys : Int32) (c_h_steps : Nat → Int32) (c_h_turnedFeatures : Nat → Int32) (c_h_keySteps : Nat → Int32) (c_li_row : Nat → Int32) : F_Li_couplesAlike li_places h_features h_keys c_h_steps c_h_turnedFeatures c_h_keySteps c_li_row = (
  F_Li_couplesAlike_L4a li_places h_features h_keys c_h_steps c_h_turnedFeatures c_h_keySteps c_li_row ((2147483647 - (0 : Int32).toInt).toNat + 1) (0 : Int32) (0 : Int32)) := rfl
noncomputable def F_Li_tellsAllApart_L13a (h_features : Int32) (h_keys : Int32) (c_h_steps : Nat → Int32) (c_h_turnedFeatures : Nat → Int32) (c_h_keySteps : Nat → Int32) (c_li_row : Nat → Int32) (k : Int32) (j : Int32) (v_101 : Int32) (G_L2a : Int32 → (Int32)) : Nat → Int32 → Int32 := fun k9 => Nat.rec (motive := fun _ => Int32 → Int32) (fun _ => default) (fun _ (G_L13a : Int32 → Int32) => fun (v_295 : Int32) =>
    if v_101 ≤ v_295 then (
      G_L2a (v_101 + 1)) else (
      let w_335 := F_Li_keyAt c_li_row v_101
      let r_333 : Int32 := w_335
      let w_338 := F_Li_keyAt c_li_row v_295
      let r_336 : Int32 := w_338
      let w_341 := F_Li_areAlike h_features h_keys c_h_steps c_h_turnedFeatures c_h_keySteps r_333 r_336 k 0
      let r_339 : Int32 := w_341
      if r_339 = 0 then (
        if j = 0 then (
          G_L13a (v_295 + 1)) else (
          let w_350 := F_Li_keyAt c_li_row v_101
          let r_348 : Int32 := w_350
          let w_353 := F_Li_keyAt c_li_row v_295
          let r_351 : Int32 := w_353
          let w_356 := F_Li_areAlike h_features h_keys c_h_steps c_h_turnedFeatures c_h_keySteps r_348 r_351 k 1
          let r_354 : Int32 := w_356
          if r_354 = 0 then (
            G_L13a (v_295 + 1)) else (
            (0 : Int32)))) else (
        (0 : Int32)))) k9
theorem F_Li_tellsAllApart_L13a_s (h_features : Int32) (h_keys : Int32) (c_h_steps : Nat → Int32) (c_h_turnedFeatures : Nat → Int32) (c_h_keySteps : Nat → Int32) (c_li_row : Nat → Int32) (k : Int32) (j : Int32) (v_101 : Int32) (G_L2a : Int32 → (Int32)) (n9 : Nat) (v_295 : Int32) : F_Li_tellsAllApart_L13a h_features h_keys c_h_steps c_h_turnedFeatures c_h_keySteps c_li_row k j v_101 G_L2a (n9 + 1) v_295 = (
    if v_101 ≤ v_295 then (
      G_L2a (v_101 + 1)) else (
      let w_335 := F_Li_keyAt c_li_row v_101
      let r_333 : Int32 := w_335
      let w_338 := F_Li_keyAt c_li_row v_295
      let r_336 : Int32 := w_338
      let w_341 := F_Li_areAlike h_features h_keys c_h_steps c_h_turnedFeatures c_h_keySteps r_333 r_336 k 0
      let r_339 : Int32 := w_341
      if r_339 = 0 then (
        if j = 0 then (
          (F_Li_tellsAllApart_L13a h_features h_keys c_h_steps c_h_turnedFeatures c_h_keySteps c_li_row k j v_101 G_L2a n9) (v_295 + 1)) else (
          let w_350 := F_Li_keyAt c_li_row v_101
          let r_348 : Int32 := w_350
          let w_353 := F_Li_keyAt c_li_row v_295
          let r_351 : Int32 := w_353
          let w_356 := F_Li_areAlike h_features h_keys c_h_steps c_h_turnedFeatures c_h_keySteps r_348 r_351 k 1
          let r_354 : Int32 := w_356
          if r_354 = 0 then (
            (F_Li_tellsAllApart_L13a h_features h_keys c_h_steps c_h_turnedFeatures c_h_keySteps c_li_row k j v_101 G_L2a n9) (v_295 + 1)) else (
            (0 : Int32)))) else (
        (0 : Int32)))) := rfl
noncomputable def F_Li_tellsAllApart_L2a (li_places : Int32) (h_features : Int32) (h_keys : Int32) (c_h_steps : Nat → Int32) (c_h_turnedFeatures : Nat → Int32) (c_h_keySteps : Nat → Int32) (c_li_row : Nat → Int32) (k : Int32) (j : Int32) : Nat → Int32 → Int32 := fun k9 => Nat.rec (motive := fun _ => Int32 → Int32) (fun _ => default) (fun _ (G_L2a : Int32 → Int32) => fun (v_101 : Int32) =>
    if li_places ≤ v_101 then (
      (1 : Int32)) else (
      F_Li_tellsAllApart_L13a h_features h_keys c_h_steps c_h_turnedFeatures c_h_keySteps c_li_row k j v_101 G_L2a ((2147483647 - (0 : Int32).toInt).toNat + 1) (0 : Int32))) k9
theorem F_Li_tellsAllApart_L2a_s (li_places : Int32) (h_features : Int32) (h_keys : Int32) (c_h_steps : Nat → Int32) (c_h_turnedFeatures : Nat → Int32) (c_h_keySteps : Nat → Int32) (c_li_row : Nat → Int32) (k : Int32) (j : Int32) (n9 : Nat) (v_101 : Int32) : F_Li_tellsAllApart_L2a li_places h_features h_keys c_h_steps c_h_turnedFeatures c_h_keySteps c_li_row k j (n9 + 1) v_101 = (
    if li_places ≤ v_101 then (
      (1 : Int32)) else (
      F_Li_tellsAllApart_L13a h_features h_keys c_h_steps c_h_turnedFeatures c_h_keySteps c_li_row k j v_101 (F_Li_tellsAllApart_L2a li_places h_features h_keys c_h_steps c_h_turnedFeatures c_h_keySteps c_li_row k j n9) ((2147483647 - (0 : Int32).toInt).toNat + 1) (0 : Int32))) := rfl
noncomputable def F_Li_tellsAllApart (li_places : Int32) (h_features : Int32) (h_keys : Int32) (c_h_steps : Nat → Int32) (c_h_turnedFeatures : Nat → Int32) (c_h_keySteps : Nat → Int32) (c_li_row : Nat → Int32) (k : Int32) (j : Int32) : Int32 :=
  F_Li_tellsAllApart_L2a li_places h_features h_keys c_h_steps c_h_turnedFeatures c_h_keySteps c_li_row k j ((2147483647 - (0 : Int32).toInt).toNat + 1) (0 : Int32)
theorem F_Li_tellsAllApart_s (li_places : Int32) (h_features : Int32) (h_keys : Int32) (c_h_steps : Nat → Int32) (c_h_turnedFeatures : Nat → Int32) (c_h_keySteps : Nat → Int32) (c_li_row : Nat → Int32) (k : Int32) (j : Int32) : F_Li_tellsAllApart li_places h_features h_keys c_h_steps c_h_turnedFeatures c_h_keySteps c_li_row k j = (
  F_Li_tellsAllApart_L2a li_places h_features h_keys c_h_steps c_h_turnedFeatures c_h_keySteps c_li_row k j ((2147483647 - (0 : Int32).toInt).toNat + 1) (0 : Int32)) := rfl
noncomputable def F_Li_fewestFeatures_L4a (li_places : Int32) (h_features : Int32) (h_keys : Int32) (c_h_steps : Nat → Int32) (c_h_turnedFeatures : Nat → Int32) (c_h_keySteps : Nat → Int32) (c_li_row : Nat → Int32) (k : Int32) : Nat → Int32 → Int32 → Int32 := fun k9 => Nat.rec (motive := fun _ => Int32 → Int32 → Int32) (fun _ _ => default) (fun _ (G_L4a : Int32 → Int32 → Int32) => fun (v_43 : Int32) (v_44 : Int32) =>
    let w_80 := F_Li_allFeatures h_features
    let r_78 : Int32 := w_80
    if r_78 < v_44 then (
      v_43) else (
      if v_43 = (-1) then (
        let w_89 := F_Li_tellsAllApart li_places h_features h_keys c_h_steps c_h_turnedFeatures c_h_keySteps c_li_row v_44 k
        let r_87 : Int32 := w_89
        if r_87 = 0 then (
          G_L4a v_43 (v_44 + 1)) else (
          G_L4a v_44 (v_44 + 1))) else (
        let w_98 := F_ja_bitCount v_44
        let r_96 : Int32 := w_98
        let w_101 := F_ja_bitCount v_43
        let r_99 : Int32 := w_101
        if r_99 ≤ r_96 then (
          G_L4a v_43 (v_44 + 1)) else (
          let w_108 := F_Li_tellsAllApart li_places h_features h_keys c_h_steps c_h_turnedFeatures c_h_keySteps c_li_row v_44 k
          let r_106 : Int32 := w_108
          if r_106 = 0 then (
            G_L4a v_43 (v_44 + 1)) else (
            G_L4a v_44 (v_44 + 1)))))) k9
theorem F_Li_fewestFeatures_L4a_s (li_places : Int32) (h_features : Int32) (h_keys : Int32) (c_h_steps : Nat → Int32) (c_h_turnedFeatures : Nat → Int32) (c_h_keySteps : Nat → Int32) (c_li_row : Nat → Int32) (k : Int32) (n9 : Nat) (v_43 : Int32) (v_44 : Int32) : F_Li_fewestFeatures_L4a li_places h_features h_keys c_h_steps c_h_turnedFeatures c_h_keySteps c_li_row k (n9 + 1) v_43 v_44 = (
    let w_80 := F_Li_allFeatures h_features
    let r_78 : Int32 := w_80
    if r_78 < v_44 then (
      v_43) else (
      if v_43 = (-1) then (
        let w_89 := F_Li_tellsAllApart li_places h_features h_keys c_h_steps c_h_turnedFeatures c_h_keySteps c_li_row v_44 k
        let r_87 : Int32 := w_89
        if r_87 = 0 then (
          (F_Li_fewestFeatures_L4a li_places h_features h_keys c_h_steps c_h_turnedFeatures c_h_keySteps c_li_row k n9) v_43 (v_44 + 1)) else (
          (F_Li_fewestFeatures_L4a li_places h_features h_keys c_h_steps c_h_turnedFeatures c_h_keySteps c_li_row k n9) v_44 (v_44 + 1))) else (
        let w_98 := F_ja_bitCount v_44
        let r_96 : Int32 := w_98
        let w_101 := F_ja_bitCount v_43
        let r_99 : Int32 := w_101
        if r_99 ≤ r_96 then (
          (F_Li_fewestFeatures_L4a li_places h_features h_keys c_h_steps c_h_turnedFeatures c_h_keySteps c_li_row k n9) v_43 (v_44 + 1)) else (
          let w_108 := F_Li_tellsAllApart li_places h_features h_keys c_h_steps c_h_turnedFeatures c_h_keySteps c_li_row v_44 k
          let r_106 : Int32 := w_108
          if r_106 = 0 then (
            (F_Li_fewestFeatures_L4a li_places h_features h_keys c_h_steps c_h_turnedFeatures c_h_keySteps c_li_row k n9) v_43 (v_44 + 1)) else (
            (F_Li_fewestFeatures_L4a li_places h_features h_keys c_h_steps c_h_turnedFeatures c_h_keySteps c_li_row k n9) v_44 (v_44 + 1)))))) := rfl
noncomputable def F_Li_fewestFeatures (li_places : Int32) (h_features : Int32) (h_keys : Int32) (c_h_steps : Nat → Int32) (c_h_turnedFeatures : Nat → Int32) (c_h_keySteps : Nat → Int32) (c_li_row : Nat → Int32) (k : Int32) : Int32 :=
  F_Li_fewestFeatures_L4a li_places h_features h_keys c_h_steps c_h_turnedFeatures c_h_keySteps c_li_row k ((2147483647 - (0 : Int32).toInt).toNat + 1) (-1 : Int32) (0 : Int32)
theorem F_Li_fewestFeatures_s (li_places : Int32) (h_features : Int32) (h_keys : Int32) (c_h_steps : Nat → Int32) (c_h_turnedFeatures : Nat → Int32) (c_h_keySteps : Nat → Int32) (c_li_row : Nat → Int32) (k : Int32) : F_Li_fewestFeatures li_places h_features h_keys c_h_steps c_h_turnedFeatures c_h_keySteps c_li_row k = (
  F_Li_fewestFeatures_L4a li_places h_features h_keys c_h_steps c_h_turnedFeatures c_h_keySteps c_li_row k ((2147483647 - (0 : Int32).toInt).toNat + 1) (-1 : Int32) (0 : Int32)) := rfl
noncomputable def F_Li_fewestFiled_L4a (li_places : Int32) (h_features : Int32) (h_keys : Int32) (c_h_steps : Nat → Int32) (c_h_turnedFeatures : Nat → Int32) (c_h_keySteps : Nat → Int32) (c_li_row : Nat → Int32) (k : Int32) : Nat → Int32 → Int32 → Int32 := fun k9 => Nat.rec (motive := fun _ => Int32 → Int32 → Int32) (fun _ _ => default) (fun _ (G_L4a : Int32 → Int32 → Int32) => fun (v_25 : Int32) (v_26 : Int32) =>
    if li_places ≤ v_26 then (
      v_25) else (
      let w_48 := F_Li_alikeAhead h_features h_keys c_h_steps c_h_turnedFeatures c_h_keySteps c_li_row v_26
      let r_46 : Int32 := w_48
      if r_46 < k then (
        if r_46 ≤ 0 then (
          G_L4a v_25 (v_26 + 1)) else (
          G_L4a (v_25 + 1) (v_26 + 1))) else (
        (-1 : Int32)))) k9
theorem F_Li_fewestFiled_L4a_s (li_places : Int32) (h_features : Int32) (h_keys : Int32) (c_h_steps : Nat → Int32) (c_h_turnedFeatures : Nat → Int32) (c_h_keySteps : Nat → Int32) (c_li_row : Nat → Int32) (k : Int32) (n9 : Nat) (v_25 : Int32) (v_26 : Int32) : F_Li_fewestFiled_L4a li_places h_features h_keys c_h_steps c_h_turnedFeatures c_h_keySteps c_li_row k (n9 + 1) v_25 v_26 = (
    if li_places ≤ v_26 then (
      v_25) else (
      let w_48 := F_Li_alikeAhead h_features h_keys c_h_steps c_h_turnedFeatures c_h_keySteps c_li_row v_26
      let r_46 : Int32 := w_48
      if r_46 < k then (
        if r_46 ≤ 0 then (
          (F_Li_fewestFiled_L4a li_places h_features h_keys c_h_steps c_h_turnedFeatures c_h_keySteps c_li_row k n9) v_25 (v_26 + 1)) else (
          (F_Li_fewestFiled_L4a li_places h_features h_keys c_h_steps c_h_turnedFeatures c_h_keySteps c_li_row k n9) (v_25 + 1) (v_26 + 1))) else (
        (-1 : Int32)))) := rfl
noncomputable def F_Li_fewestFiled (li_places : Int32) (h_features : Int32) (h_keys : Int32) (c_h_steps : Nat → Int32) (c_h_turnedFeatures : Nat → Int32) (c_h_keySteps : Nat → Int32) (c_li_row : Nat → Int32) (k : Int32) : Int32 :=
  F_Li_fewestFiled_L4a li_places h_features h_keys c_h_steps c_h_turnedFeatures c_h_keySteps c_li_row k ((2147483647 - (0 : Int32).toInt).toNat + 1) (0 : Int32) (0 : Int32)
theorem F_Li_fewestFiled_s (li_places : Int32) (h_features : Int32) (h_keys : Int32) (c_h_steps : Nat → Int32) (c_h_turnedFeatures : Nat → Int32) (c_h_keySteps : Nat → Int32) (c_li_row : Nat → Int32) (k : Int32) : F_Li_fewestFiled li_places h_features h_keys c_h_steps c_h_turnedFeatures c_h_keySteps c_li_row k = (
  F_Li_fewestFiled_L4a li_places h_features h_keys c_h_steps c_h_turnedFeatures c_h_keySteps c_li_row k ((2147483647 - (0 : Int32).toInt).toNat + 1) (0 : Int32) (0 : Int32)) := rfl
noncomputable def F_HR_placeOf_3_L3a (c_n_f : Nat → Int64) (l1 : Int64) (k : Int32) : Nat → Int32 → Int32 := fun k9 => Nat.rec (motive := fun _ => Int32 → Int32) (fun _ => default) (fun _ (G_L3a : Int32 → Int32) => fun (v_18 : Int32) =>
    if k ≤ v_18 then (
      (-1 : Int32)) else (
      let w_37 := F_longAt_3 c_n_f v_18
      let r_35 : Int64 := w_37
      if (lg_cmp r_35 l1) = 0 then (
        v_18) else (
        G_L3a (v_18 + 1)))) k9
theorem F_HR_placeOf_3_L3a_s (c_n_f : Nat → Int64) (l1 : Int64) (k : Int32) (n9 : Nat) (v_18 : Int32) : F_HR_placeOf_3_L3a c_n_f l1 k (n9 + 1) v_18 = (
    if k ≤ v_18 then (
      (-1 : Int32)) else (
      let w_37 := F_longAt_3 c_n_f v_18
      let r_35 : Int64 := w_37
      if (lg_cmp r_35 l1) = 0 then (
        v_18) else (
        (F_HR_placeOf_3_L3a c_n_f l1 k n9) (v_18 + 1)))) := rfl
noncomputable def F_HR_placeOf_3 (c_n_f : Nat → Int64) (l1 : Int64) (k : Int32) : Int32 :=
  F_HR_placeOf_3_L3a c_n_f l1 k ((2147483647 - (0 : Int32).toInt).toNat + 1) (0 : Int32)
theorem F_HR_placeOf_3_s (c_n_f : Nat → Int64) (l1 : Int64) (k : Int32) : F_HR_placeOf_3 c_n_f l1 k = (
  F_HR_placeOf_3_L3a c_n_f l1 k ((2147483647 - (0 : Int32).toInt).toNat + 1) (0 : Int32)) := rfl
noncomputable def F_HR_placeOf_10_L3a (c_n_k : Nat → Int64) (l1 : Int64) (k : Int32) : Nat → Int32 → Int32 := fun k9 => Nat.rec (motive := fun _ => Int32 → Int32) (fun _ => default) (fun _ (G_L3a : Int32 → Int32) => fun (v_18 : Int32) =>
    if k ≤ v_18 then (
      (-1 : Int32)) else (
      let w_37 := F_longAt_10 c_n_k v_18
      let r_35 : Int64 := w_37
      if (lg_cmp r_35 l1) = 0 then (
        v_18) else (
        G_L3a (v_18 + 1)))) k9
theorem F_HR_placeOf_10_L3a_s (c_n_k : Nat → Int64) (l1 : Int64) (k : Int32) (n9 : Nat) (v_18 : Int32) : F_HR_placeOf_10_L3a c_n_k l1 k (n9 + 1) v_18 = (
    if k ≤ v_18 then (
      (-1 : Int32)) else (
      let w_37 := F_longAt_10 c_n_k v_18
      let r_35 : Int64 := w_37
      if (lg_cmp r_35 l1) = 0 then (
        v_18) else (
        (F_HR_placeOf_10_L3a c_n_k l1 k n9) (v_18 + 1)))) := rfl
noncomputable def F_HR_placeOf_10 (c_n_k : Nat → Int64) (l1 : Int64) (k : Int32) : Int32 :=
  F_HR_placeOf_10_L3a c_n_k l1 k ((2147483647 - (0 : Int32).toInt).toNat + 1) (0 : Int32)
theorem F_HR_placeOf_10_s (c_n_k : Nat → Int64) (l1 : Int64) (k : Int32) : F_HR_placeOf_10 c_n_k l1 k = (
  F_HR_placeOf_10_L3a c_n_k l1 k ((2147483647 - (0 : Int32).toInt).toNat + 1) (0 : Int32)) := rfl
noncomputable def F_HR_placeOf_5_L3a (c_n_d : Nat → Int64) (l1 : Int64) (k : Int32) : Nat → Int32 → Int32 := fun k9 => Nat.rec (motive := fun _ => Int32 → Int32) (fun _ => default) (fun _ (G_L3a : Int32 → Int32) => fun (v_18 : Int32) =>
    if k ≤ v_18 then (
      (-1 : Int32)) else (
      let w_37 := F_longAt_5 c_n_d v_18
      let r_35 : Int64 := w_37
      if (lg_cmp r_35 l1) = 0 then (
        v_18) else (
        G_L3a (v_18 + 1)))) k9
theorem F_HR_placeOf_5_L3a_s (c_n_d : Nat → Int64) (l1 : Int64) (k : Int32) (n9 : Nat) (v_18 : Int32) : F_HR_placeOf_5_L3a c_n_d l1 k (n9 + 1) v_18 = (
    if k ≤ v_18 then (
      (-1 : Int32)) else (
      let w_37 := F_longAt_5 c_n_d v_18
      let r_35 : Int64 := w_37
      if (lg_cmp r_35 l1) = 0 then (
        v_18) else (
        (F_HR_placeOf_5_L3a c_n_d l1 k n9) (v_18 + 1)))) := rfl
noncomputable def F_HR_placeOf_5 (c_n_d : Nat → Int64) (l1 : Int64) (k : Int32) : Int32 :=
  F_HR_placeOf_5_L3a c_n_d l1 k ((2147483647 - (0 : Int32).toInt).toNat + 1) (0 : Int32)
theorem F_HR_placeOf_5_s (c_n_d : Nat → Int64) (l1 : Int64) (k : Int32) : F_HR_placeOf_5 c_n_d l1 k = (
  F_HR_placeOf_5_L3a c_n_d l1 k ((2147483647 - (0 : Int32).toInt).toNat + 1) (0 : Int32)) := rfl
noncomputable def F_Ho_isTaken (c_n_f : Nat → Int64) (c_n_k : Nat → Int64) (c_n_r : Nat → Int64) (c_n_d : Nat → Int64) (hf_features : Int32) (hf_keys : Int32) (hf_rings : Int32) (hf_doors : Int32) (l1 : Int64) : Int32 :=
  let w_3 := F_HR_placeOf_3 c_n_f l1 hf_features
  let r_1 : Int32 := w_3
  if r_1 = (-1) then (
    let w_10 := F_HR_placeOf_10 c_n_k l1 hf_keys
    let r_8 : Int32 := w_10
    if r_8 = (-1) then (
      let w_17 := F_HR_placeOf_3 c_n_r l1 hf_rings
      let r_15 : Int32 := w_17
      if r_15 = (-1) then (
        let w_24 := F_HR_placeOf_5 c_n_d l1 hf_doors
        let r_22 : Int32 := w_24
        if r_22 = (-1) then (
          (0 : Int32)) else (
          (1 : Int32))) else (
        (1 : Int32))) else (
      (1 : Int32))) else (
    (1 : Int32))
theorem F_Ho_isTaken_s (c_n_f : Nat → Int64) (c_n_k : Nat → Int64) (c_n_r : Nat → Int64) (c_n_d : Nat → Int64) (hf_features : Int32) (hf_keys : Int32) (hf_rings : Int32) (hf_doors : Int32) (l1 : Int64) : F_Ho_isTaken c_n_f c_n_k c_n_r c_n_d hf_features hf_keys hf_rings hf_doors l1 = (
  let w_3 := F_HR_placeOf_3 c_n_f l1 hf_features
  let r_1 : Int32 := w_3
  if r_1 = (-1) then (
    let w_10 := F_HR_placeOf_10 c_n_k l1 hf_keys
    let r_8 : Int32 := w_10
    if r_8 = (-1) then (
      let w_17 := F_HR_placeOf_3 c_n_r l1 hf_rings
      let r_15 : Int32 := w_17
      if r_15 = (-1) then (
        let w_24 := F_HR_placeOf_5 c_n_d l1 hf_doors
        let r_22 : Int32 := w_24
        if r_22 = (-1) then (
          (0 : Int32)) else (
          (1 : Int32))) else (
        (1 : Int32))) else (
      (1 : Int32))) else (
    (1 : Int32))) := rfl
noncomputable def F_Ho_takeNewName (t_length : Int32) (t_kind : Int32) (t_start : Int32) (t_end : Int32) (t_number : Int32) (t_sign : Int32) (t_letters : Int64) (t_fault : Int32) (t_faultPlace : Int32) (c_tape : Nat → Int32) (c_n_f : Nat → Int64) (c_n_k : Nat → Int64) (c_n_r : Nat → Int64) (c_n_d : Nat → Int64) (hf_features : Int32) (hf_keys : Int32) (hf_rings : Int32) (hf_doors : Int32) : Int64 × Int32 × Int32 × Int32 × Int32 × Int32 × Int64 × Int32 × Int32 :=
  let w_3 := F_Te_isName t_length t_kind t_start t_end t_letters c_tape
  let r_1 : Int32 := w_3
  if r_1 = 0 then (
    let w_33 := F_Te_refuse t_kind t_start t_fault t_faultPlace 2
    let r_31 : Int32 := w_33.1
    let nw0_29 : Int32 := w_33.2.1
    let nw1_30 : Int32 := w_33.2.2
    ((0 : Int64), t_kind, t_start, t_end, t_number, t_sign, t_letters, nw0_29, nw1_30)) else (
    let w_8 := F_Ho_isTaken c_n_f c_n_k c_n_r c_n_d hf_features hf_keys hf_rings hf_doors t_letters
    let r_6 : Int32 := w_8
    if r_6 = 0 then (
      let w_19 := F_Te_advance t_length t_end t_number t_sign t_letters c_tape
      let nw0_11 : Int32 := w_19.1
      let nw1_12 : Int32 := w_19.2.1
      let nw2_13 : Int32 := w_19.2.2.1
      let nw3_14 : Int32 := w_19.2.2.2.1
      let nw4_15 : Int32 := w_19.2.2.2.2.1
      let nw5_16 : Int64 := w_19.2.2.2.2.2
      (t_letters, nw0_11, nw1_12, nw2_13, nw4_15, nw3_14, nw5_16, t_fault, t_faultPlace)) else (
      let w_26 := F_Te_refuse t_kind t_start t_fault t_faultPlace 3
      let r_24 : Int32 := w_26.1
      let nw0_22 : Int32 := w_26.2.1
      let nw1_23 : Int32 := w_26.2.2
      ((0 : Int64), t_kind, t_start, t_end, t_number, t_sign, t_letters, nw0_22, nw1_23)))
theorem F_Ho_takeNewName_s (t_length : Int32) (t_kind : Int32) (t_start : Int32) (t_end : Int32) (t_number : Int32) (t_sign : Int32) (t_letters : Int64) (t_fault : Int32) (t_faultPlace : Int32) (c_tape : Nat → Int32) (c_n_f : Nat → Int64) (c_n_k : Nat → Int64) (c_n_r : Nat → Int64) (c_n_d : Nat → Int64) (hf_features : Int32) (hf_keys : Int32) (hf_rings : Int32) (hf_doors : Int32) : F_Ho_takeNewName t_length t_kind t_start t_end t_number t_sign t_letters t_fault t_faultPlace c_tape c_n_f c_n_k c_n_r c_n_d hf_features hf_keys hf_rings hf_doors = (
  let w_3 := F_Te_isName t_length t_kind t_start t_end t_letters c_tape
  let r_1 : Int32 := w_3
  if r_1 = 0 then (
    let w_33 := F_Te_refuse t_kind t_start t_fault t_faultPlace 2
    let r_31 : Int32 := w_33.1
    let nw0_29 : Int32 := w_33.2.1
    let nw1_30 : Int32 := w_33.2.2
    ((0 : Int64), t_kind, t_start, t_end, t_number, t_sign, t_letters, nw0_29, nw1_30)) else (
    let w_8 := F_Ho_isTaken c_n_f c_n_k c_n_r c_n_d hf_features hf_keys hf_rings hf_doors t_letters
    let r_6 : Int32 := w_8
    if r_6 = 0 then (
      let w_19 := F_Te_advance t_length t_end t_number t_sign t_letters c_tape
      let nw0_11 : Int32 := w_19.1
      let nw1_12 : Int32 := w_19.2.1
      let nw2_13 : Int32 := w_19.2.2.1
      let nw3_14 : Int32 := w_19.2.2.2.1
      let nw4_15 : Int32 := w_19.2.2.2.2.1
      let nw5_16 : Int64 := w_19.2.2.2.2.2
      (t_letters, nw0_11, nw1_12, nw2_13, nw4_15, nw3_14, nw5_16, t_fault, t_faultPlace)) else (
      let w_26 := F_Te_refuse t_kind t_start t_fault t_faultPlace 3
      let r_24 : Int32 := w_26.1
      let nw0_22 : Int32 := w_26.2.1
      let nw1_23 : Int32 := w_26.2.2
      ((0 : Int64), t_kind, t_start, t_end, t_number, t_sign, t_letters, nw0_22, nw1_23)))) := rfl
noncomputable def F_HR_thing_f (t_length : Int32) (t_kind : Int32) (t_start : Int32) (t_end : Int32) (t_letters : Int64) (t_fault : Int32) (t_faultPlace : Int32) (c_tape : Nat → Int32) (c_n_f : Nat → Int64) (k : Int32) : Int32 × Int32 × Int32 :=
  let w_3 := F_Te_isName t_length t_kind t_start t_end t_letters c_tape
  let r_1 : Int32 := w_3
  if r_1 = 0 then (
    let w_24 := F_Te_refuse t_kind t_start t_fault t_faultPlace 2
    let r_22 : Int32 := w_24.1
    let nw0_20 : Int32 := w_24.2.1
    let nw1_21 : Int32 := w_24.2.2
    ((-1 : Int32), nw0_20, nw1_21)) else (
    let w_8 := F_HR_placeOf_3 c_n_f t_letters k
    let r_6 : Int32 := w_8
    if r_6 = (-1) then (
      let w_17 := F_Te_refuse t_kind t_start t_fault t_faultPlace 3
      let r_15 : Int32 := w_17.1
      let nw0_13 : Int32 := w_17.2.1
      let nw1_14 : Int32 := w_17.2.2
      (r_6, nw0_13, nw1_14)) else (
      (r_6, t_fault, t_faultPlace)))
theorem F_HR_thing_f_s (t_length : Int32) (t_kind : Int32) (t_start : Int32) (t_end : Int32) (t_letters : Int64) (t_fault : Int32) (t_faultPlace : Int32) (c_tape : Nat → Int32) (c_n_f : Nat → Int64) (k : Int32) : F_HR_thing_f t_length t_kind t_start t_end t_letters t_fault t_faultPlace c_tape c_n_f k = (
  let w_3 := F_Te_isName t_length t_kind t_start t_end t_letters c_tape
  let r_1 : Int32 := w_3
  if r_1 = 0 then (
    let w_24 := F_Te_refuse t_kind t_start t_fault t_faultPlace 2
    let r_22 : Int32 := w_24.1
    let nw0_20 : Int32 := w_24.2.1
    let nw1_21 : Int32 := w_24.2.2
    ((-1 : Int32), nw0_20, nw1_21)) else (
    let w_8 := F_HR_placeOf_3 c_n_f t_letters k
    let r_6 : Int32 := w_8
    if r_6 = (-1) then (
      let w_17 := F_Te_refuse t_kind t_start t_fault t_faultPlace 3
      let r_15 : Int32 := w_17.1
      let nw0_13 : Int32 := w_17.2.1
      let nw1_14 : Int32 := w_17.2.2
      (r_6, nw0_13, nw1_14)) else (
      (r_6, t_fault, t_faultPlace)))) := rfl
noncomputable def F_HR_thing_k (t_length : Int32) (t_kind : Int32) (t_start : Int32) (t_end : Int32) (t_letters : Int64) (t_fault : Int32) (t_faultPlace : Int32) (c_tape : Nat → Int32) (c_n_k : Nat → Int64) (k : Int32) : Int32 × Int32 × Int32 :=
  let w_3 := F_Te_isName t_length t_kind t_start t_end t_letters c_tape
  let r_1 : Int32 := w_3
  if r_1 = 0 then (
    let w_24 := F_Te_refuse t_kind t_start t_fault t_faultPlace 2
    let r_22 : Int32 := w_24.1
    let nw0_20 : Int32 := w_24.2.1
    let nw1_21 : Int32 := w_24.2.2
    ((-1 : Int32), nw0_20, nw1_21)) else (
    let w_8 := F_HR_placeOf_10 c_n_k t_letters k
    let r_6 : Int32 := w_8
    if r_6 = (-1) then (
      let w_17 := F_Te_refuse t_kind t_start t_fault t_faultPlace 3
      let r_15 : Int32 := w_17.1
      let nw0_13 : Int32 := w_17.2.1
      let nw1_14 : Int32 := w_17.2.2
      (r_6, nw0_13, nw1_14)) else (
      (r_6, t_fault, t_faultPlace)))
theorem F_HR_thing_k_s (t_length : Int32) (t_kind : Int32) (t_start : Int32) (t_end : Int32) (t_letters : Int64) (t_fault : Int32) (t_faultPlace : Int32) (c_tape : Nat → Int32) (c_n_k : Nat → Int64) (k : Int32) : F_HR_thing_k t_length t_kind t_start t_end t_letters t_fault t_faultPlace c_tape c_n_k k = (
  let w_3 := F_Te_isName t_length t_kind t_start t_end t_letters c_tape
  let r_1 : Int32 := w_3
  if r_1 = 0 then (
    let w_24 := F_Te_refuse t_kind t_start t_fault t_faultPlace 2
    let r_22 : Int32 := w_24.1
    let nw0_20 : Int32 := w_24.2.1
    let nw1_21 : Int32 := w_24.2.2
    ((-1 : Int32), nw0_20, nw1_21)) else (
    let w_8 := F_HR_placeOf_10 c_n_k t_letters k
    let r_6 : Int32 := w_8
    if r_6 = (-1) then (
      let w_17 := F_Te_refuse t_kind t_start t_fault t_faultPlace 3
      let r_15 : Int32 := w_17.1
      let nw0_13 : Int32 := w_17.2.1
      let nw1_14 : Int32 := w_17.2.2
      (r_6, nw0_13, nw1_14)) else (
      (r_6, t_fault, t_faultPlace)))) := rfl
noncomputable def F_HR_thing_d (t_length : Int32) (t_kind : Int32) (t_start : Int32) (t_end : Int32) (t_letters : Int64) (t_fault : Int32) (t_faultPlace : Int32) (c_tape : Nat → Int32) (c_n_d : Nat → Int64) (k : Int32) : Int32 × Int32 × Int32 :=
  let w_3 := F_Te_isName t_length t_kind t_start t_end t_letters c_tape
  let r_1 : Int32 := w_3
  if r_1 = 0 then (
    let w_24 := F_Te_refuse t_kind t_start t_fault t_faultPlace 2
    let r_22 : Int32 := w_24.1
    let nw0_20 : Int32 := w_24.2.1
    let nw1_21 : Int32 := w_24.2.2
    ((-1 : Int32), nw0_20, nw1_21)) else (
    let w_8 := F_HR_placeOf_5 c_n_d t_letters k
    let r_6 : Int32 := w_8
    if r_6 = (-1) then (
      let w_17 := F_Te_refuse t_kind t_start t_fault t_faultPlace 3
      let r_15 : Int32 := w_17.1
      let nw0_13 : Int32 := w_17.2.1
      let nw1_14 : Int32 := w_17.2.2
      (r_6, nw0_13, nw1_14)) else (
      (r_6, t_fault, t_faultPlace)))
theorem F_HR_thing_d_s (t_length : Int32) (t_kind : Int32) (t_start : Int32) (t_end : Int32) (t_letters : Int64) (t_fault : Int32) (t_faultPlace : Int32) (c_tape : Nat → Int32) (c_n_d : Nat → Int64) (k : Int32) : F_HR_thing_d t_length t_kind t_start t_end t_letters t_fault t_faultPlace c_tape c_n_d k = (
  let w_3 := F_Te_isName t_length t_kind t_start t_end t_letters c_tape
  let r_1 : Int32 := w_3
  if r_1 = 0 then (
    let w_24 := F_Te_refuse t_kind t_start t_fault t_faultPlace 2
    let r_22 : Int32 := w_24.1
    let nw0_20 : Int32 := w_24.2.1
    let nw1_21 : Int32 := w_24.2.2
    ((-1 : Int32), nw0_20, nw1_21)) else (
    let w_8 := F_HR_placeOf_5 c_n_d t_letters k
    let r_6 : Int32 := w_8
    if r_6 = (-1) then (
      let w_17 := F_Te_refuse t_kind t_start t_fault t_faultPlace 3
      let r_15 : Int32 := w_17.1
      let nw0_13 : Int32 := w_17.2.1
      let nw1_14 : Int32 := w_17.2.2
      (r_6, nw0_13, nw1_14)) else (
      (r_6, t_fault, t_faultPlace)))) := rfl
noncomputable def F_Ho_readFeature (t_length : Int32) (t_kind : Int32) (t_start : Int32) (t_end : Int32) (t_number : Int32) (t_sign : Int32) (t_letters : Int64) (t_fault : Int32) (t_faultPlace : Int32) (c_tape : Nat → Int32) (c_n_f : Nat → Int64) (c_n_k : Nat → Int64) (c_n_r : Nat → Int64) (c_n_d : Nat → Int64) (hf_features : Int32) (hf_keys : Int32) (hf_rings : Int32) (hf_doors : Int32) (c_hf_featureNames : Nat → Int64) (c_hf_steps : Nat → Int32) (c_hf_turnedFeatures : Nat → Int32) (c_hf_sixteenths : Nat → Int32) : Int32 × Int32 × Int32 × Int32 × Int32 × Int32 × Int64 × Int32 × Int32 × (Nat → Int64) × Int32 × (Nat → Int64) × (Nat → Int32) × (Nat → Int32) × (Nat → Int32) :=
  if hf_features < 3 then (
    if hf_keys ≤ 0 then (
      let w_13 := F_Te_advance t_length t_end t_number t_sign t_letters c_tape
      let nw0_5 : Int32 := w_13.1
      let nw1_6 : Int32 := w_13.2.1
      let nw2_7 : Int32 := w_13.2.2.1
      let nw3_8 : Int32 := w_13.2.2.2.1
      let nw4_9 : Int32 := w_13.2.2.2.2.1
      let nw5_10 : Int64 := w_13.2.2.2.2.2
      let w_24 := F_Ho_takeNewName t_length nw0_5 nw1_6 nw2_7 nw4_9 nw3_8 nw5_10 t_fault t_faultPlace c_tape c_n_f c_n_k c_n_r c_n_d hf_features hf_keys hf_rings hf_doors
      let r_22 : Int64 := w_24.1
      let nw0_14 : Int32 := w_24.2.1
      let nw1_15 : Int32 := w_24.2.2.1
      let nw2_16 : Int32 := w_24.2.2.2.1
      let nw3_17 : Int32 := w_24.2.2.2.2.1
      let nw4_18 : Int32 := w_24.2.2.2.2.2.1
      let nw5_19 : Int64 := w_24.2.2.2.2.2.2.1
      let nw6_20 : Int32 := w_24.2.2.2.2.2.2.2.1
      let nw7_21 : Int32 := w_24.2.2.2.2.2.2.2.2
      if (lg_cmp r_22 0) = 0 then (
        ((0 : Int32), nw0_14, nw1_15, nw2_16, nw3_17, nw4_18, nw5_19, nw6_20, nw7_21, c_n_f, hf_features, c_hf_featureNames, c_hf_steps, c_hf_turnedFeatures, c_hf_sixteenths)) else (
        let w_39 := F_Te_takeWord t_length nw0_14 nw1_15 nw2_16 nw3_17 nw4_18 nw5_19 nw6_20 nw7_21 c_tape 16
        let r_37 : Int32 := w_39.1
        let nw0_29 : Int32 := w_39.2.1
        let nw1_30 : Int32 := w_39.2.2.1
        let nw2_31 : Int32 := w_39.2.2.2.1
        let nw3_32 : Int32 := w_39.2.2.2.2.1
        let nw4_33 : Int32 := w_39.2.2.2.2.2.1
        let nw5_34 : Int64 := w_39.2.2.2.2.2.2.1
        let nw6_35 : Int32 := w_39.2.2.2.2.2.2.2.1
        let nw7_36 : Int32 := w_39.2.2.2.2.2.2.2.2
        if r_37 = 0 then (
          ((0 : Int32), nw0_29, nw1_30, nw2_31, nw3_32, nw4_33, nw5_34, nw6_35, nw7_36, c_n_f, hf_features, c_hf_featureNames, c_hf_steps, c_hf_turnedFeatures, c_hf_sixteenths)) else (
          let w_52 := F_Te_takeNumber t_length nw0_29 nw1_30 nw2_31 nw3_32 nw4_33 nw5_34 nw6_35 nw7_36 c_tape 2 4
          let r_50 : Int32 := w_52.1
          let nw0_42 : Int32 := w_52.2.1
          let nw1_43 : Int32 := w_52.2.2.1
          let nw2_44 : Int32 := w_52.2.2.2.1
          let nw3_45 : Int32 := w_52.2.2.2.2.1
          let nw4_46 : Int32 := w_52.2.2.2.2.2.1
          let nw5_47 : Int32 := w_52.2.2.2.2.2.2.1
          let nw6_48 : Int32 := w_52.2.2.2.2.2.2.2.1
          let nw7_49 : Int64 := w_52.2.2.2.2.2.2.2.2
          if r_50 = (-1) then (
            ((0 : Int32), nw2_44, nw3_45, nw4_46, nw5_47, nw6_48, nw7_49, nw0_42, nw1_43, c_n_f, hf_features, c_hf_featureNames, c_hf_steps, c_hf_turnedFeatures, c_hf_sixteenths)) else (
            let w_57 := F_Te_is t_length nw2_44 nw3_45 nw4_46 c_tape 17
            let r_55 : Int32 := w_57
            if r_55 = 0 then (
              let w_63 := F_keepLongAt_3 c_n_f hf_features r_22
              let nw0_60 : Nat → Int64 := w_63
              let w_71 := F_H_addFeature hf_features c_hf_featureNames c_hf_steps c_hf_turnedFeatures c_hf_sixteenths r_22 r_50 r_55
              let nw0_64 : Int32 := w_71.1
              let nw1_65 : Nat → Int64 := w_71.2.1
              let nw2_66 : Nat → Int32 := w_71.2.2.1
              let nw3_67 : Nat → Int32 := w_71.2.2.2.1
              let nw4_68 : Nat → Int32 := w_71.2.2.2.2
              let w_82 := F_Te_takeSign t_length nw2_44 nw3_45 nw4_46 nw5_47 nw6_48 nw7_49 nw0_42 nw1_43 c_tape 59
              let r_80 : Int32 := w_82.1
              let nw0_72 : Int32 := w_82.2.1
              let nw1_73 : Int32 := w_82.2.2.1
              let nw2_74 : Int32 := w_82.2.2.2.1
              let nw3_75 : Int32 := w_82.2.2.2.2.1
              let nw4_76 : Int32 := w_82.2.2.2.2.2.1
              let nw5_77 : Int64 := w_82.2.2.2.2.2.2.1
              let nw6_78 : Int32 := w_82.2.2.2.2.2.2.2.1
              let nw7_79 : Int32 := w_82.2.2.2.2.2.2.2.2
              (r_80, nw0_72, nw1_73, nw2_74, nw3_75, nw4_76, nw5_77, nw6_78, nw7_79, nw0_60, nw0_64, nw1_65, nw2_66, nw3_67, nw4_68)) else (
              let w_93 := F_Te_advance t_length nw4_46 nw5_47 nw6_48 nw7_49 c_tape
              let nw0_85 : Int32 := w_93.1
              let nw1_86 : Int32 := w_93.2.1
              let nw2_87 : Int32 := w_93.2.2.1
              let nw3_88 : Int32 := w_93.2.2.2.1
              let nw4_89 : Int32 := w_93.2.2.2.2.1
              let nw5_90 : Int64 := w_93.2.2.2.2.2
              let w_97 := F_keepLongAt_3 c_n_f hf_features r_22
              let nw0_94 : Nat → Int64 := w_97
              let w_105 := F_H_addFeature hf_features c_hf_featureNames c_hf_steps c_hf_turnedFeatures c_hf_sixteenths r_22 r_50 r_55
              let nw0_98 : Int32 := w_105.1
              let nw1_99 : Nat → Int64 := w_105.2.1
              let nw2_100 : Nat → Int32 := w_105.2.2.1
              let nw3_101 : Nat → Int32 := w_105.2.2.2.1
              let nw4_102 : Nat → Int32 := w_105.2.2.2.2
              let w_116 := F_Te_takeSign t_length nw0_85 nw1_86 nw2_87 nw4_89 nw3_88 nw5_90 nw0_42 nw1_43 c_tape 59
              let r_114 : Int32 := w_116.1
              let nw0_106 : Int32 := w_116.2.1
              let nw1_107 : Int32 := w_116.2.2.1
              let nw2_108 : Int32 := w_116.2.2.2.1
              let nw3_109 : Int32 := w_116.2.2.2.2.1
              let nw4_110 : Int32 := w_116.2.2.2.2.2.1
              let nw5_111 : Int64 := w_116.2.2.2.2.2.2.1
              let nw6_112 : Int32 := w_116.2.2.2.2.2.2.2.1
              let nw7_113 : Int32 := w_116.2.2.2.2.2.2.2.2
              (r_114, nw0_106, nw1_107, nw2_108, nw3_109, nw4_110, nw5_111, nw6_112, nw7_113, nw0_94, nw0_98, nw1_99, nw2_100, nw3_101, nw4_102)))))) else (
      let w_127 := F_Te_refuse t_kind t_start t_fault t_faultPlace 7
      let r_125 : Int32 := w_127.1
      let nw0_123 : Int32 := w_127.2.1
      let nw1_124 : Int32 := w_127.2.2
      (r_125, t_kind, t_start, t_end, t_number, t_sign, t_letters, nw0_123, nw1_124, c_n_f, hf_features, c_hf_featureNames, c_hf_steps, c_hf_turnedFeatures, c_hf_sixteenths))) else (
    let w_134 := F_Te_refuse t_kind t_start t_fault t_faultPlace 6
    let r_132 : Int32 := w_134.1
    let nw0_130 : Int32 := w_134.2.1
    let nw1_131 : Int32 := w_134.2.2
    (r_132, t_kind, t_start, t_end, t_number, t_sign, t_letters, nw0_130, nw1_131, c_n_f, hf_features, c_hf_featureNames, c_hf_steps, c_hf_turnedFeatures, c_hf_sixteenths))
theorem F_Ho_readFeature_s (t_length : Int32) (t_kind : Int32) (t_start : Int32) (t_end : Int32) (t_number : Int32) (t_sign : Int32) (t_letters : Int64) (t_fault : Int32) (t_faultPlace : Int32) (c_tape : Nat → Int32) (c_n_f : Nat → Int64) (c_n_k : Nat → Int64) (c_n_r : Nat → Int64) (c_n_d : Nat → Int64) (hf_features : Int32) (hf_keys : Int32) (hf_rings : Int32) (hf_doors : Int32) (c_hf_featureNames : Nat → Int64) (c_hf_steps : Nat → Int32) (c_hf_turnedFeatures : Nat → Int32) (c_hf_sixteenths : Nat → Int32) : F_Ho_readFeature t_length t_kind t_start t_end t_number t_sign t_letters t_fault t_faultPlace c_tape c_n_f c_n_k c_n_r c_n_d hf_features hf_keys hf_rings hf_doors c_hf_featureNames c_hf_steps c_hf_turnedFeatures c_hf_sixteenths = (
  if hf_features < 3 then (
    if hf_keys ≤ 0 then (
      let w_13 := F_Te_advance t_length t_end t_number t_sign t_letters c_tape
      let nw0_5 : Int32 := w_13.1
      let nw1_6 : Int32 := w_13.2.1
      let nw2_7 : Int32 := w_13.2.2.1
      let nw3_8 : Int32 := w_13.2.2.2.1
      let nw4_9 : Int32 := w_13.2.2.2.2.1
      let nw5_10 : Int64 := w_13.2.2.2.2.2
      let w_24 := F_Ho_takeNewName t_length nw0_5 nw1_6 nw2_7 nw4_9 nw3_8 nw5_10 t_fault t_faultPlace c_tape c_n_f c_n_k c_n_r c_n_d hf_features hf_keys hf_rings hf_doors
      let r_22 : Int64 := w_24.1
      let nw0_14 : Int32 := w_24.2.1
      let nw1_15 : Int32 := w_24.2.2.1
      let nw2_16 : Int32 := w_24.2.2.2.1
      let nw3_17 : Int32 := w_24.2.2.2.2.1
      let nw4_18 : Int32 := w_24.2.2.2.2.2.1
      let nw5_19 : Int64 := w_24.2.2.2.2.2.2.1
      let nw6_20 : Int32 := w_24.2.2.2.2.2.2.2.1
      let nw7_21 : Int32 := w_24.2.2.2.2.2.2.2.2
      if (lg_cmp r_22 0) = 0 then (
        ((0 : Int32), nw0_14, nw1_15, nw2_16, nw3_17, nw4_18, nw5_19, nw6_20, nw7_21, c_n_f, hf_features, c_hf_featureNames, c_hf_steps, c_hf_turnedFeatures, c_hf_sixteenths)) else (
        let w_39 := F_Te_takeWord t_length nw0_14 nw1_15 nw2_16 nw3_17 nw4_18 nw5_19 nw6_20 nw7_21 c_tape 16
        let r_37 : Int32 := w_39.1
        let nw0_29 : Int32 := w_39.2.1
        let nw1_30 : Int32 := w_39.2.2.1
        let nw2_31 : Int32 := w_39.2.2.2.1
        let nw3_32 : Int32 := w_39.2.2.2.2.1
        let nw4_33 : Int32 := w_39.2.2.2.2.2.1
        let nw5_34 : Int64 := w_39.2.2.2.2.2.2.1
        let nw6_35 : Int32 := w_39.2.2.2.2.2.2.2.1
        let nw7_36 : Int32 := w_39.2.2.2.2.2.2.2.2
        if r_37 = 0 then (
          ((0 : Int32), nw0_29, nw1_30, nw2_31, nw3_32, nw4_33, nw5_34, nw6_35, nw7_36, c_n_f, hf_features, c_hf_featureNames, c_hf_steps, c_hf_turnedFeatures, c_hf_sixteenths)) else (
          let w_52 := F_Te_takeNumber t_length nw0_29 nw1_30 nw2_31 nw3_32 nw4_33 nw5_34 nw6_35 nw7_36 c_tape 2 4
          let r_50 : Int32 := w_52.1
          let nw0_42 : Int32 := w_52.2.1
          let nw1_43 : Int32 := w_52.2.2.1
          let nw2_44 : Int32 := w_52.2.2.2.1
          let nw3_45 : Int32 := w_52.2.2.2.2.1
          let nw4_46 : Int32 := w_52.2.2.2.2.2.1
          let nw5_47 : Int32 := w_52.2.2.2.2.2.2.1
          let nw6_48 : Int32 := w_52.2.2.2.2.2.2.2.1
          let nw7_49 : Int64 := w_52.2.2.2.2.2.2.2.2
          if r_50 = (-1) then (
            ((0 : Int32), nw2_44, nw3_45, nw4_46, nw5_47, nw6_48, nw7_49, nw0_42, nw1_43, c_n_f, hf_features, c_hf_featureNames, c_hf_steps, c_hf_turnedFeatures, c_hf_sixteenths)) else (
            let w_57 := F_Te_is t_length nw2_44 nw3_45 nw4_46 c_tape 17
            let r_55 : Int32 := w_57
            if r_55 = 0 then (
              let w_63 := F_keepLongAt_3 c_n_f hf_features r_22
              let nw0_60 : Nat → Int64 := w_63
              let w_71 := F_H_addFeature hf_features c_hf_featureNames c_hf_steps c_hf_turnedFeatures c_hf_sixteenths r_22 r_50 r_55
              let nw0_64 : Int32 := w_71.1
              let nw1_65 : Nat → Int64 := w_71.2.1
              let nw2_66 : Nat → Int32 := w_71.2.2.1
              let nw3_67 : Nat → Int32 := w_71.2.2.2.1
              let nw4_68 : Nat → Int32 := w_71.2.2.2.2
              let w_82 := F_Te_takeSign t_length nw2_44 nw3_45 nw4_46 nw5_47 nw6_48 nw7_49 nw0_42 nw1_43 c_tape 59
              let r_80 : Int32 := w_82.1
              let nw0_72 : Int32 := w_82.2.1
              let nw1_73 : Int32 := w_82.2.2.1
              let nw2_74 : Int32 := w_82.2.2.2.1
              let nw3_75 : Int32 := w_82.2.2.2.2.1
              let nw4_76 : Int32 := w_82.2.2.2.2.2.1
              let nw5_77 : Int64 := w_82.2.2.2.2.2.2.1
              let nw6_78 : Int32 := w_82.2.2.2.2.2.2.2.1
              let nw7_79 : Int32 := w_82.2.2.2.2.2.2.2.2
              (r_80, nw0_72, nw1_73, nw2_74, nw3_75, nw4_76, nw5_77, nw6_78, nw7_79, nw0_60, nw0_64, nw1_65, nw2_66, nw3_67, nw4_68)) else (
              let w_93 := F_Te_advance t_length nw4_46 nw5_47 nw6_48 nw7_49 c_tape
              let nw0_85 : Int32 := w_93.1
              let nw1_86 : Int32 := w_93.2.1
              let nw2_87 : Int32 := w_93.2.2.1
              let nw3_88 : Int32 := w_93.2.2.2.1
              let nw4_89 : Int32 := w_93.2.2.2.2.1
              let nw5_90 : Int64 := w_93.2.2.2.2.2
              let w_97 := F_keepLongAt_3 c_n_f hf_features r_22
              let nw0_94 : Nat → Int64 := w_97
              let w_105 := F_H_addFeature hf_features c_hf_featureNames c_hf_steps c_hf_turnedFeatures c_hf_sixteenths r_22 r_50 r_55
              let nw0_98 : Int32 := w_105.1
              let nw1_99 : Nat → Int64 := w_105.2.1
              let nw2_100 : Nat → Int32 := w_105.2.2.1
              let nw3_101 : Nat → Int32 := w_105.2.2.2.1
              let nw4_102 : Nat → Int32 := w_105.2.2.2.2
              let w_116 := F_Te_takeSign t_length nw0_85 nw1_86 nw2_87 nw4_89 nw3_88 nw5_90 nw0_42 nw1_43 c_tape 59
              let r_114 : Int32 := w_116.1
              let nw0_106 : Int32 := w_116.2.1
              let nw1_107 : Int32 := w_116.2.2.1
              let nw2_108 : Int32 := w_116.2.2.2.1
              let nw3_109 : Int32 := w_116.2.2.2.2.1
              let nw4_110 : Int32 := w_116.2.2.2.2.2.1
              let nw5_111 : Int64 := w_116.2.2.2.2.2.2.1
              let nw6_112 : Int32 := w_116.2.2.2.2.2.2.2.1
              let nw7_113 : Int32 := w_116.2.2.2.2.2.2.2.2
              (r_114, nw0_106, nw1_107, nw2_108, nw3_109, nw4_110, nw5_111, nw6_112, nw7_113, nw0_94, nw0_98, nw1_99, nw2_100, nw3_101, nw4_102)))))) else (
      let w_127 := F_Te_refuse t_kind t_start t_fault t_faultPlace 7
      let r_125 : Int32 := w_127.1
      let nw0_123 : Int32 := w_127.2.1
      let nw1_124 : Int32 := w_127.2.2
      (r_125, t_kind, t_start, t_end, t_number, t_sign, t_letters, nw0_123, nw1_124, c_n_f, hf_features, c_hf_featureNames, c_hf_steps, c_hf_turnedFeatures, c_hf_sixteenths))) else (
    let w_134 := F_Te_refuse t_kind t_start t_fault t_faultPlace 6
    let r_132 : Int32 := w_134.1
    let nw0_130 : Int32 := w_134.2.1
    let nw1_131 : Int32 := w_134.2.2
    (r_132, t_kind, t_start, t_end, t_number, t_sign, t_letters, nw0_130, nw1_131, c_n_f, hf_features, c_hf_featureNames, c_hf_steps, c_hf_turnedFeatures, c_hf_sixteenths))) := rfl
noncomputable def F_Ho_readFeels_L103a (t_length : Int32) (c_tape : Nat → Int32) (r_12 : Int32) (nw0_10 : Int32) (nw1_11 : Int32) (x_22 : Int32) (r_37 : Int32) : Nat → Int32 → Int32 → (Nat → Int32) → Int32 → Int32 → Int32 → Int32 → Int32 → Int64 → (Int32 × Int32 × Int32 × Int32 × Int32 × Int32 × Int32 × Int64 × Int32 × Int32 × (Nat → Int32)) := fun k9 => Nat.rec (motive := fun _ => Int32 → Int32 → (Nat → Int32) → Int32 → Int32 → Int32 → Int32 → Int32 → Int64 → (Int32 × Int32 × Int32 × Int32 × Int32 × Int32 × Int32 × Int64 × Int32 × Int32 × (Nat → Int32))) (fun _ _ _ _ _ _ _ _ _ => default) (fun _ (G_L103a : Int32 → Int32 → (Nat → Int32) → Int32 → Int32 → Int32 → Int32 → Int32 → Int64 → (Int32 × Int32 × Int32 × Int32 × Int32 × Int32 × Int32 × Int64 × Int32 × Int32 × (Nat → Int32))) => fun (v_278 : Int32) (v_279 : Int32) (g_280 : Nat → Int32) (v_281 : Int32) (v_282 : Int32) (v_283 : Int32) (v_284 : Int32) (v_285 : Int32) (v_286 : Int64) =>
    if 16 < v_278 then (
      let w_485 := F_Te_isSign v_281 v_285 59
      let r_483 : Int32 := w_485
      if r_483 = 0 then (
        let w_498 := F_Te_takeSign t_length v_281 v_282 v_283 v_284 v_285 v_286 nw0_10 nw1_11 c_tape 59
        let r_496 : Int32 := w_498.1
        let nw0_488 : Int32 := w_498.2.1
        let nw1_489 : Int32 := w_498.2.2.1
        let nw2_490 : Int32 := w_498.2.2.2.1
        let nw3_491 : Int32 := w_498.2.2.2.2.1
        let nw4_492 : Int32 := w_498.2.2.2.2.2.1
        let nw5_493 : Int64 := w_498.2.2.2.2.2.2.1
        let nw6_494 : Int32 := w_498.2.2.2.2.2.2.2.1
        let nw7_495 : Int32 := w_498.2.2.2.2.2.2.2.2
        (r_496, x_22, nw0_488, nw1_489, nw2_490, nw3_491, nw4_492, nw5_493, nw6_494, nw7_495, g_280)) else (
        let x_501 : Int32 := (r_37 * r_37)
        if x_501 ≤ v_278 then (
          let w_514 := F_Te_takeSign t_length v_281 v_282 v_283 v_284 v_285 v_286 nw0_10 nw1_11 c_tape 59
          let r_512 : Int32 := w_514.1
          let nw0_504 : Int32 := w_514.2.1
          let nw1_505 : Int32 := w_514.2.2.1
          let nw2_506 : Int32 := w_514.2.2.2.1
          let nw3_507 : Int32 := w_514.2.2.2.2.1
          let nw4_508 : Int32 := w_514.2.2.2.2.2.1
          let nw5_509 : Int64 := w_514.2.2.2.2.2.2.1
          let nw6_510 : Int32 := w_514.2.2.2.2.2.2.2.1
          let nw7_511 : Int32 := w_514.2.2.2.2.2.2.2.2
          (r_512, x_22, nw0_504, nw1_505, nw2_506, nw3_507, nw4_508, nw5_509, nw6_510, nw7_511, g_280)) else (
          let w_521 := F_Te_refuse v_281 v_282 nw0_10 nw1_11 8
          let r_519 : Int32 := w_521.1
          let nw0_517 : Int32 := w_521.2.1
          let nw1_518 : Int32 := w_521.2.2
          (r_519, x_22, v_281, v_282, v_283, v_284, v_285, v_286, nw0_517, nw1_518, g_280)))) else (
      let w_526 := F_Te_isNumber v_281
      let r_524 : Int32 := w_526
      if r_524 = 0 then (
        let w_531 := F_Te_isSign v_281 v_285 59
        let r_529 : Int32 := w_531
        if r_529 = 0 then (
          let w_544 := F_Te_takeSign t_length v_281 v_282 v_283 v_284 v_285 v_286 nw0_10 nw1_11 c_tape 59
          let r_542 : Int32 := w_544.1
          let nw0_534 : Int32 := w_544.2.1
          let nw1_535 : Int32 := w_544.2.2.1
          let nw2_536 : Int32 := w_544.2.2.2.1
          let nw3_537 : Int32 := w_544.2.2.2.2.1
          let nw4_538 : Int32 := w_544.2.2.2.2.2.1
          let nw5_539 : Int64 := w_544.2.2.2.2.2.2.1
          let nw6_540 : Int32 := w_544.2.2.2.2.2.2.2.1
          let nw7_541 : Int32 := w_544.2.2.2.2.2.2.2.2
          (r_542, x_22, nw0_534, nw1_535, nw2_536, nw3_537, nw4_538, nw5_539, nw6_540, nw7_541, g_280)) else (
          let x_547 : Int32 := (r_37 * r_37)
          if x_547 ≤ v_278 then (
            let w_560 := F_Te_takeSign t_length v_281 v_282 v_283 v_284 v_285 v_286 nw0_10 nw1_11 c_tape 59
            let r_558 : Int32 := w_560.1
            let nw0_550 : Int32 := w_560.2.1
            let nw1_551 : Int32 := w_560.2.2.1
            let nw2_552 : Int32 := w_560.2.2.2.1
            let nw3_553 : Int32 := w_560.2.2.2.2.1
            let nw4_554 : Int32 := w_560.2.2.2.2.2.1
            let nw5_555 : Int64 := w_560.2.2.2.2.2.2.1
            let nw6_556 : Int32 := w_560.2.2.2.2.2.2.2.1
            let nw7_557 : Int32 := w_560.2.2.2.2.2.2.2.2
            (r_558, x_22, nw0_550, nw1_551, nw2_552, nw3_553, nw4_554, nw5_555, nw6_556, nw7_557, g_280)) else (
            let w_567 := F_Te_refuse v_281 v_282 nw0_10 nw1_11 8
            let r_565 : Int32 := w_567.1
            let nw0_563 : Int32 := w_567.2.1
            let nw1_564 : Int32 := w_567.2.2
            (r_565, x_22, v_281, v_282, v_283, v_284, v_285, v_286, nw0_563, nw1_564, g_280)))) else (
        if v_284 ≤ 16 then (
          if r_37 ≤ 0 then (
            let w_578 := F_Te_refuse v_281 v_282 nw0_10 nw1_11 8
            let r_576 : Int32 := w_578.1
            let nw0_574 : Int32 := w_578.2.1
            let nw1_575 : Int32 := w_578.2.2
            (r_576, x_22, v_281, v_282, v_283, v_284, v_285, v_286, nw0_574, nw1_575, g_280)) else (
            let x_581 : Int32 := (r_37 * r_37)
            if v_278 < x_581 then (
              let x_584 : Int32 := (v_278 - v_278 / r_37 * r_37)
              if x_584 = 0 then (
                if x_584 = (r_37 - 1) then (
                  if v_284 = 16 then (
                    let x_651 : Int32 := (v_278 / r_37)
                    let w_655 := F_H_setFeltAs g_280 r_12 x_651 x_584 v_284
                    let nw0_652 : Nat → Int32 := w_655
                    let w_664 := F_Te_advance t_length v_283 v_284 v_285 v_286 c_tape
                    let nw0_656 : Int32 := w_664.1
                    let nw1_657 : Int32 := w_664.2.1
                    let nw2_658 : Int32 := w_664.2.2.1
                    let nw3_659 : Int32 := w_664.2.2.2.1
                    let nw4_660 : Int32 := w_664.2.2.2.2.1
                    let nw5_661 : Int64 := w_664.2.2.2.2.2
                    G_L103a (v_278 + 1) v_284 nw0_652 nw0_656 nw1_657 nw2_658 nw4_660 nw3_659 nw5_661) else (
                    let w_671 := F_Te_refuse v_281 v_282 nw0_10 nw1_11 9
                    let r_669 : Int32 := w_671.1
                    let nw0_667 : Int32 := w_671.2.1
                    let nw1_668 : Int32 := w_671.2.2
                    (r_669, x_22, v_281, v_282, v_283, v_284, v_285, v_286, nw0_667, nw1_668, g_280))) else (
                  let x_633 : Int32 := (v_278 / r_37)
                  let w_637 := F_H_setFeltAs g_280 r_12 x_633 x_584 v_284
                  let nw0_634 : Nat → Int32 := w_637
                  let w_646 := F_Te_advance t_length v_283 v_284 v_285 v_286 c_tape
                  let nw0_638 : Int32 := w_646.1
                  let nw1_639 : Int32 := w_646.2.1
                  let nw2_640 : Int32 := w_646.2.2.1
                  let nw3_641 : Int32 := w_646.2.2.2.1
                  let nw4_642 : Int32 := w_646.2.2.2.2.1
                  let nw5_643 : Int64 := w_646.2.2.2.2.2
                  G_L103a (v_278 + 1) v_284 nw0_634 nw0_638 nw1_639 nw2_640 nw4_642 nw3_641 nw5_643)) else (
                let x_587 : Int32 := (v_279 + v_284)
                if x_584 = (r_37 - 1) then (
                  if x_587 = 16 then (
                    let x_608 : Int32 := (v_278 / r_37)
                    let w_612 := F_H_setFeltAs g_280 r_12 x_608 x_584 v_284
                    let nw0_609 : Nat → Int32 := w_612
                    let w_621 := F_Te_advance t_length v_283 v_284 v_285 v_286 c_tape
                    let nw0_613 : Int32 := w_621.1
                    let nw1_614 : Int32 := w_621.2.1
                    let nw2_615 : Int32 := w_621.2.2.1
                    let nw3_616 : Int32 := w_621.2.2.2.1
                    let nw4_617 : Int32 := w_621.2.2.2.2.1
                    let nw5_618 : Int64 := w_621.2.2.2.2.2
                    G_L103a (v_278 + 1) x_587 nw0_609 nw0_613 nw1_614 nw2_615 nw4_617 nw3_616 nw5_618) else (
                    let w_628 := F_Te_refuse v_281 v_282 nw0_10 nw1_11 9
                    let r_626 : Int32 := w_628.1
                    let nw0_624 : Int32 := w_628.2.1
                    let nw1_625 : Int32 := w_628.2.2
                    (r_626, x_22, v_281, v_282, v_283, v_284, v_285, v_286, nw0_624, nw1_625, g_280))) else (
                  let x_590 : Int32 := (v_278 / r_37)
                  let w_594 := F_H_setFeltAs g_280 r_12 x_590 x_584 v_284
                  let nw0_591 : Nat → Int32 := w_594
                  let w_603 := F_Te_advance t_length v_283 v_284 v_285 v_286 c_tape
                  let nw0_595 : Int32 := w_603.1
                  let nw1_596 : Int32 := w_603.2.1
                  let nw2_597 : Int32 := w_603.2.2.1
                  let nw3_598 : Int32 := w_603.2.2.2.1
                  let nw4_599 : Int32 := w_603.2.2.2.2.1
                  let nw5_600 : Int64 := w_603.2.2.2.2.2
                  G_L103a (v_278 + 1) x_587 nw0_591 nw0_595 nw1_596 nw2_597 nw4_599 nw3_598 nw5_600))) else (
              let w_678 := F_Te_refuse v_281 v_282 nw0_10 nw1_11 8
              let r_676 : Int32 := w_678.1
              let nw0_674 : Int32 := w_678.2.1
              let nw1_675 : Int32 := w_678.2.2
              (r_676, x_22, v_281, v_282, v_283, v_284, v_285, v_286, nw0_674, nw1_675, g_280)))) else (
          let w_685 := F_Te_refuse v_281 v_282 nw0_10 nw1_11 4
          let r_683 : Int32 := w_685.1
          let nw0_681 : Int32 := w_685.2.1
          let nw1_682 : Int32 := w_685.2.2
          (r_683, x_22, v_281, v_282, v_283, v_284, v_285, v_286, nw0_681, nw1_682, g_280))))) k9
theorem F_Ho_readFeels_L103a_s (t_length : Int32) (c_tape : Nat → Int32) (r_12 : Int32) (nw0_10 : Int32) (nw1_11 : Int32) (x_22 : Int32) (r_37 : Int32) (n9 : Nat) (v_278 : Int32) (v_279 : Int32) (g_280 : Nat → Int32) (v_281 : Int32) (v_282 : Int32) (v_283 : Int32) (v_284 : Int32) (v_285 : Int32) (v_286 : Int64) : F_Ho_readFeels_L103a t_length c_tape r_12 nw0_10 nw1_11 x_22 r_37 (n9 + 1) v_278 v_279 g_280 v_281 v_282 v_283 v_284 v_285 v_286 = (
    if 16 < v_278 then (
      let w_485 := F_Te_isSign v_281 v_285 59
      let r_483 : Int32 := w_485
      if r_483 = 0 then (
        let w_498 := F_Te_takeSign t_length v_281 v_282 v_283 v_284 v_285 v_286 nw0_10 nw1_11 c_tape 59
        let r_496 : Int32 := w_498.1
        let nw0_488 : Int32 := w_498.2.1
        let nw1_489 : Int32 := w_498.2.2.1
        let nw2_490 : Int32 := w_498.2.2.2.1
        let nw3_491 : Int32 := w_498.2.2.2.2.1
        let nw4_492 : Int32 := w_498.2.2.2.2.2.1
        let nw5_493 : Int64 := w_498.2.2.2.2.2.2.1
        let nw6_494 : Int32 := w_498.2.2.2.2.2.2.2.1
        let nw7_495 : Int32 := w_498.2.2.2.2.2.2.2.2
        (r_496, x_22, nw0_488, nw1_489, nw2_490, nw3_491, nw4_492, nw5_493, nw6_494, nw7_495, g_280)) else (
        let x_501 : Int32 := (r_37 * r_37)
        if x_501 ≤ v_278 then (
          let w_514 := F_Te_takeSign t_length v_281 v_282 v_283 v_284 v_285 v_286 nw0_10 nw1_11 c_tape 59
          let r_512 : Int32 := w_514.1
          let nw0_504 : Int32 := w_514.2.1
          let nw1_505 : Int32 := w_514.2.2.1
          let nw2_506 : Int32 := w_514.2.2.2.1
          let nw3_507 : Int32 := w_514.2.2.2.2.1
          let nw4_508 : Int32 := w_514.2.2.2.2.2.1
          let nw5_509 : Int64 := w_514.2.2.2.2.2.2.1
          let nw6_510 : Int32 := w_514.2.2.2.2.2.2.2.1
          let nw7_511 : Int32 := w_514.2.2.2.2.2.2.2.2
          (r_512, x_22, nw0_504, nw1_505, nw2_506, nw3_507, nw4_508, nw5_509, nw6_510, nw7_511, g_280)) else (
          let w_521 := F_Te_refuse v_281 v_282 nw0_10 nw1_11 8
          let r_519 : Int32 := w_521.1
          let nw0_517 : Int32 := w_521.2.1
          let nw1_518 : Int32 := w_521.2.2
          (r_519, x_22, v_281, v_282, v_283, v_284, v_285, v_286, nw0_517, nw1_518, g_280)))) else (
      let w_526 := F_Te_isNumber v_281
      let r_524 : Int32 := w_526
      if r_524 = 0 then (
        let w_531 := F_Te_isSign v_281 v_285 59
        let r_529 : Int32 := w_531
        if r_529 = 0 then (
          let w_544 := F_Te_takeSign t_length v_281 v_282 v_283 v_284 v_285 v_286 nw0_10 nw1_11 c_tape 59
          let r_542 : Int32 := w_544.1
          let nw0_534 : Int32 := w_544.2.1
          let nw1_535 : Int32 := w_544.2.2.1
          let nw2_536 : Int32 := w_544.2.2.2.1
          let nw3_537 : Int32 := w_544.2.2.2.2.1
          let nw4_538 : Int32 := w_544.2.2.2.2.2.1
          let nw5_539 : Int64 := w_544.2.2.2.2.2.2.1
          let nw6_540 : Int32 := w_544.2.2.2.2.2.2.2.1
          let nw7_541 : Int32 := w_544.2.2.2.2.2.2.2.2
          (r_542, x_22, nw0_534, nw1_535, nw2_536, nw3_537, nw4_538, nw5_539, nw6_540, nw7_541, g_280)) else (
          let x_547 : Int32 := (r_37 * r_37)
          if x_547 ≤ v_278 then (
            let w_560 := F_Te_takeSign t_length v_281 v_282 v_283 v_284 v_285 v_286 nw0_10 nw1_11 c_tape 59
            let r_558 : Int32 := w_560.1
            let nw0_550 : Int32 := w_560.2.1
            let nw1_551 : Int32 := w_560.2.2.1
            let nw2_552 : Int32 := w_560.2.2.2.1
            let nw3_553 : Int32 := w_560.2.2.2.2.1
            let nw4_554 : Int32 := w_560.2.2.2.2.2.1
            let nw5_555 : Int64 := w_560.2.2.2.2.2.2.1
            let nw6_556 : Int32 := w_560.2.2.2.2.2.2.2.1
            let nw7_557 : Int32 := w_560.2.2.2.2.2.2.2.2
            (r_558, x_22, nw0_550, nw1_551, nw2_552, nw3_553, nw4_554, nw5_555, nw6_556, nw7_557, g_280)) else (
            let w_567 := F_Te_refuse v_281 v_282 nw0_10 nw1_11 8
            let r_565 : Int32 := w_567.1
            let nw0_563 : Int32 := w_567.2.1
            let nw1_564 : Int32 := w_567.2.2
            (r_565, x_22, v_281, v_282, v_283, v_284, v_285, v_286, nw0_563, nw1_564, g_280)))) else (
        if v_284 ≤ 16 then (
          if r_37 ≤ 0 then (
            let w_578 := F_Te_refuse v_281 v_282 nw0_10 nw1_11 8
            let r_576 : Int32 := w_578.1
            let nw0_574 : Int32 := w_578.2.1
            let nw1_575 : Int32 := w_578.2.2
            (r_576, x_22, v_281, v_282, v_283, v_284, v_285, v_286, nw0_574, nw1_575, g_280)) else (
            let x_581 : Int32 := (r_37 * r_37)
            if v_278 < x_581 then (
              let x_584 : Int32 := (v_278 - v_278 / r_37 * r_37)
              if x_584 = 0 then (
                if x_584 = (r_37 - 1) then (
                  if v_284 = 16 then (
                    let x_651 : Int32 := (v_278 / r_37)
                    let w_655 := F_H_setFeltAs g_280 r_12 x_651 x_584 v_284
                    let nw0_652 : Nat → Int32 := w_655
                    let w_664 := F_Te_advance t_length v_283 v_284 v_285 v_286 c_tape
                    let nw0_656 : Int32 := w_664.1
                    let nw1_657 : Int32 := w_664.2.1
                    let nw2_658 : Int32 := w_664.2.2.1
                    let nw3_659 : Int32 := w_664.2.2.2.1
                    let nw4_660 : Int32 := w_664.2.2.2.2.1
                    let nw5_661 : Int64 := w_664.2.2.2.2.2
                    (F_Ho_readFeels_L103a t_length c_tape r_12 nw0_10 nw1_11 x_22 r_37 n9) (v_278 + 1) v_284 nw0_652 nw0_656 nw1_657 nw2_658 nw4_660 nw3_659 nw5_661) else (
                    let w_671 := F_Te_refuse v_281 v_282 nw0_10 nw1_11 9
                    let r_669 : Int32 := w_671.1
                    let nw0_667 : Int32 := w_671.2.1
                    let nw1_668 : Int32 := w_671.2.2
                    (r_669, x_22, v_281, v_282, v_283, v_284, v_285, v_286, nw0_667, nw1_668, g_280))) else (
                  let x_633 : Int32 := (v_278 / r_37)
                  let w_637 := F_H_setFeltAs g_280 r_12 x_633 x_584 v_284
                  let nw0_634 : Nat → Int32 := w_637
                  let w_646 := F_Te_advance t_length v_283 v_284 v_285 v_286 c_tape
                  let nw0_638 : Int32 := w_646.1
                  let nw1_639 : Int32 := w_646.2.1
                  let nw2_640 : Int32 := w_646.2.2.1
                  let nw3_641 : Int32 := w_646.2.2.2.1
                  let nw4_642 : Int32 := w_646.2.2.2.2.1
                  let nw5_643 : Int64 := w_646.2.2.2.2.2
                  (F_Ho_readFeels_L103a t_length c_tape r_12 nw0_10 nw1_11 x_22 r_37 n9) (v_278 + 1) v_284 nw0_634 nw0_638 nw1_639 nw2_640 nw4_642 nw3_641 nw5_643)) else (
                let x_587 : Int32 := (v_279 + v_284)
                if x_584 = (r_37 - 1) then (
                  if x_587 = 16 then (
                    let x_608 : Int32 := (v_278 / r_37)
                    let w_612 := F_H_setFeltAs g_280 r_12 x_608 x_584 v_284
                    let nw0_609 : Nat → Int32 := w_612
                    let w_621 := F_Te_advance t_length v_283 v_284 v_285 v_286 c_tape
                    let nw0_613 : Int32 := w_621.1
                    let nw1_614 : Int32 := w_621.2.1
                    let nw2_615 : Int32 := w_621.2.2.1
                    let nw3_616 : Int32 := w_621.2.2.2.1
                    let nw4_617 : Int32 := w_621.2.2.2.2.1
                    let nw5_618 : Int64 := w_621.2.2.2.2.2
                    (F_Ho_readFeels_L103a t_length c_tape r_12 nw0_10 nw1_11 x_22 r_37 n9) (v_278 + 1) x_587 nw0_609 nw0_613 nw1_614 nw2_615 nw4_617 nw3_616 nw5_618) else (
                    let w_628 := F_Te_refuse v_281 v_282 nw0_10 nw1_11 9
                    let r_626 : Int32 := w_628.1
                    let nw0_624 : Int32 := w_628.2.1
                    let nw1_625 : Int32 := w_628.2.2
                    (r_626, x_22, v_281, v_282, v_283, v_284, v_285, v_286, nw0_624, nw1_625, g_280))) else (
                  let x_590 : Int32 := (v_278 / r_37)
                  let w_594 := F_H_setFeltAs g_280 r_12 x_590 x_584 v_284
                  let nw0_591 : Nat → Int32 := w_594
                  let w_603 := F_Te_advance t_length v_283 v_284 v_285 v_286 c_tape
                  let nw0_595 : Int32 := w_603.1
                  let nw1_596 : Int32 := w_603.2.1
                  let nw2_597 : Int32 := w_603.2.2.1
                  let nw3_598 : Int32 := w_603.2.2.2.1
                  let nw4_599 : Int32 := w_603.2.2.2.2.1
                  let nw5_600 : Int64 := w_603.2.2.2.2.2
                  (F_Ho_readFeels_L103a t_length c_tape r_12 nw0_10 nw1_11 x_22 r_37 n9) (v_278 + 1) x_587 nw0_591 nw0_595 nw1_596 nw2_597 nw4_599 nw3_598 nw5_600))) else (
              let w_678 := F_Te_refuse v_281 v_282 nw0_10 nw1_11 8
              let r_676 : Int32 := w_678.1
              let nw0_674 : Int32 := w_678.2.1
              let nw1_675 : Int32 := w_678.2.2
              (r_676, x_22, v_281, v_282, v_283, v_284, v_285, v_286, nw0_674, nw1_675, g_280)))) else (
          let w_685 := F_Te_refuse v_281 v_282 nw0_10 nw1_11 4
          let r_683 : Int32 := w_685.1
          let nw0_681 : Int32 := w_685.2.1
          let nw1_682 : Int32 := w_685.2.2
          (r_683, x_22, v_281, v_282, v_283, v_284, v_285, v_286, nw0_681, nw1_682, g_280))))) := rfl
noncomputable def F_Ho_readFeels (hr_feelsTold : Int32) (t_length : Int32) (t_end : Int32) (t_number : Int32) (t_sign : Int32) (t_letters : Int64) (t_fault : Int32) (t_faultPlace : Int32) (c_tape : Nat → Int32) (c_n_f : Nat → Int64) (hf_features : Int32) (c_hf_steps : Nat → Int32) (c_hf_sixteenths : Nat → Int32) : Int32 × Int32 × Int32 × Int32 × Int32 × Int32 × Int32 × Int64 × Int32 × Int32 × (Nat → Int32) :=
  let w_9 := F_Te_advance t_length t_end t_number t_sign t_letters c_tape
  let nw0_1 : Int32 := w_9.1
  let nw1_2 : Int32 := w_9.2.1
  let nw2_3 : Int32 := w_9.2.2.1
  let nw3_4 : Int32 := w_9.2.2.2.1
  let nw4_5 : Int32 := w_9.2.2.2.2.1
  let nw5_6 : Int64 := w_9.2.2.2.2.2
  let w_14 := F_HR_thing_f t_length nw0_1 nw1_2 nw2_3 nw5_6 t_fault t_faultPlace c_tape c_n_f hf_features
  let r_12 : Int32 := w_14.1
  let nw0_10 : Int32 := w_14.2.1
  let nw1_11 : Int32 := w_14.2.2
  if r_12 = (-1) then (
    ((0 : Int32), hr_feelsTold, nw0_1, nw1_2, nw2_3, nw4_5, nw3_4, nw5_6, nw0_10, nw1_11, c_hf_sixteenths)) else (
    let x_17 : Int32 := (hr_feelsTold >>> (r_12 &&& 31))
    let x_18 : Int32 := (x_17 &&& 1)
    if x_18 = 1 then (
      let w_700 := F_Te_refuse nw0_1 nw1_2 nw0_10 nw1_11 5
      let r_698 : Int32 := w_700.1
      let nw0_696 : Int32 := w_700.2.1
      let nw1_697 : Int32 := w_700.2.2
      (r_698, hr_feelsTold, nw0_1, nw1_2, nw2_3, nw4_5, nw3_4, nw5_6, nw0_696, nw1_697, c_hf_sixteenths)) else (
      let x_21 : Int32 := ((1 : Int32) <<< (r_12 &&& 31))
      let x_22 : Int32 := (hr_feelsTold ||| x_21)
      let w_31 := F_Te_advance t_length nw2_3 nw4_5 nw3_4 nw5_6 c_tape
      let nw0_23 : Int32 := w_31.1
      let nw1_24 : Int32 := w_31.2.1
      let nw2_25 : Int32 := w_31.2.2.1
      let nw3_26 : Int32 := w_31.2.2.2.1
      let nw4_27 : Int32 := w_31.2.2.2.2.1
      let nw5_28 : Int64 := w_31.2.2.2.2.2
      let w_34 := F_Te_isNumber nw0_23
      let r_32 : Int32 := w_34
      if r_32 = 0 then (
        let w_693 := F_Te_refuse nw0_23 nw1_24 nw0_10 nw1_11 2
        let r_691 : Int32 := w_693.1
        let nw0_689 : Int32 := w_693.2.1
        let nw1_690 : Int32 := w_693.2.2
        (r_691, x_22, nw0_23, nw1_24, nw2_25, nw4_27, nw3_26, nw5_28, nw0_689, nw1_690, c_hf_sixteenths)) else (
        let w_39 := F_H_stepsOf hf_features c_hf_steps r_12
        let r_37 : Int32 := w_39
        F_Ho_readFeels_L103a t_length c_tape r_12 nw0_10 nw1_11 x_22 r_37 ((2147483647 - (0 : Int32).toInt).toNat + 1) (0 : Int32) (0 : Int32) c_hf_sixteenths nw0_23 nw1_24 nw2_25 nw4_27 nw3_26 nw5_28)))
theorem F_Ho_readFeels_s (hr_feelsTold : Int32) (t_length : Int32) (t_end : Int32) (t_number : Int32) (t_sign : Int32) (t_letters : Int64) (t_fault : Int32) (t_faultPlace : Int32) (c_tape : Nat → Int32) (c_n_f : Nat → Int64) (hf_features : Int32) (c_hf_steps : Nat → Int32) (c_hf_sixteenths : Nat → Int32) : F_Ho_readFeels hr_feelsTold t_length t_end t_number t_sign t_letters t_fault t_faultPlace c_tape c_n_f hf_features c_hf_steps c_hf_sixteenths = (
  let w_9 := F_Te_advance t_length t_end t_number t_sign t_letters c_tape
  let nw0_1 : Int32 := w_9.1
  let nw1_2 : Int32 := w_9.2.1
  let nw2_3 : Int32 := w_9.2.2.1
  let nw3_4 : Int32 := w_9.2.2.2.1
  let nw4_5 : Int32 := w_9.2.2.2.2.1
  let nw5_6 : Int64 := w_9.2.2.2.2.2
  let w_14 := F_HR_thing_f t_length nw0_1 nw1_2 nw2_3 nw5_6 t_fault t_faultPlace c_tape c_n_f hf_features
  let r_12 : Int32 := w_14.1
  let nw0_10 : Int32 := w_14.2.1
  let nw1_11 : Int32 := w_14.2.2
  if r_12 = (-1) then (
    ((0 : Int32), hr_feelsTold, nw0_1, nw1_2, nw2_3, nw4_5, nw3_4, nw5_6, nw0_10, nw1_11, c_hf_sixteenths)) else (
    let x_17 : Int32 := (hr_feelsTold >>> (r_12 &&& 31))
    let x_18 : Int32 := (x_17 &&& 1)
    if x_18 = 1 then (
      let w_700 := F_Te_refuse nw0_1 nw1_2 nw0_10 nw1_11 5
      let r_698 : Int32 := w_700.1
      let nw0_696 : Int32 := w_700.2.1
      let nw1_697 : Int32 := w_700.2.2
      (r_698, hr_feelsTold, nw0_1, nw1_2, nw2_3, nw4_5, nw3_4, nw5_6, nw0_696, nw1_697, c_hf_sixteenths)) else (
      let x_21 : Int32 := ((1 : Int32) <<< (r_12 &&& 31))
      let x_22 : Int32 := (hr_feelsTold ||| x_21)
      let w_31 := F_Te_advance t_length nw2_3 nw4_5 nw3_4 nw5_6 c_tape
      let nw0_23 : Int32 := w_31.1
      let nw1_24 : Int32 := w_31.2.1
      let nw2_25 : Int32 := w_31.2.2.1
      let nw3_26 : Int32 := w_31.2.2.2.1
      let nw4_27 : Int32 := w_31.2.2.2.2.1
      let nw5_28 : Int64 := w_31.2.2.2.2.2
      let w_34 := F_Te_isNumber nw0_23
      let r_32 : Int32 := w_34
      if r_32 = 0 then (
        let w_693 := F_Te_refuse nw0_23 nw1_24 nw0_10 nw1_11 2
        let r_691 : Int32 := w_693.1
        let nw0_689 : Int32 := w_693.2.1
        let nw1_690 : Int32 := w_693.2.2
        (r_691, x_22, nw0_23, nw1_24, nw2_25, nw4_27, nw3_26, nw5_28, nw0_689, nw1_690, c_hf_sixteenths)) else (
        let w_39 := F_H_stepsOf hf_features c_hf_steps r_12
        let r_37 : Int32 := w_39
        F_Ho_readFeels_L103a t_length c_tape r_12 nw0_10 nw1_11 x_22 r_37 ((2147483647 - (0 : Int32).toInt).toNat + 1) (0 : Int32) (0 : Int32) c_hf_sixteenths nw0_23 nw1_24 nw2_25 nw4_27 nw3_26 nw5_28)))) := rfl
noncomputable def F_Ho_readKey_L44a (t_length : Int32) (c_tape : Nat → Int32) (c_n_k : Nat → Int64) (hf_features : Int32) (hf_keys : Int32) (c_hf_steps : Nat → Int32) (r_20 : Int64) : Nat → Int32 → (Nat → Int32) → Int32 → Int32 → Int32 → Int32 → Int32 → Int64 → Int32 → Int32 → (Int32 × Int32 × Int32 × Int32 × Int32 × Int32 × Int64 × Int32 × Int32 × (Nat → Int32) × (Nat → Int64) × Int32) := fun k9 => Nat.rec (motive := fun _ => Int32 → (Nat → Int32) → Int32 → Int32 → Int32 → Int32 → Int32 → Int64 → Int32 → Int32 → (Int32 × Int32 × Int32 × Int32 × Int32 × Int32 × Int64 × Int32 × Int32 × (Nat → Int32) × (Nat → Int64) × Int32)) (fun _ _ _ _ _ _ _ _ _ _ => default) (fun _ (G_L44a : Int32 → (Nat → Int32) → Int32 → Int32 → Int32 → Int32 → Int32 → Int64 → Int32 → Int32 → (Int32 × Int32 × Int32 × Int32 × Int32 × Int32 × Int64 × Int32 × Int32 × (Nat → Int32) × (Nat → Int64) × Int32)) => fun (v_106 : Int32) (g_107 : Nat → Int32) (v_108 : Int32) (v_109 : Int32) (v_110 : Int32) (v_111 : Int32) (v_112 : Int32) (v_113 : Int64) (v_114 : Int32) (v_115 : Int32) =>
    if 3 < v_106 then (
      let w_249 := F_Te_isSign v_108 v_112 59
      let r_247 : Int32 := w_249
      if r_247 = 0 then (
        let w_255 := F_keepLongAt_10 c_n_k hf_keys r_20
        let nw0_252 : Nat → Int64 := w_255
        let w_266 := F_Te_takeSign t_length v_108 v_109 v_110 v_111 v_112 v_113 v_114 v_115 c_tape 59
        let r_264 : Int32 := w_266.1
        let nw0_256 : Int32 := w_266.2.1
        let nw1_257 : Int32 := w_266.2.2.1
        let nw2_258 : Int32 := w_266.2.2.2.1
        let nw3_259 : Int32 := w_266.2.2.2.2.1
        let nw4_260 : Int32 := w_266.2.2.2.2.2.1
        let nw5_261 : Int64 := w_266.2.2.2.2.2.2.1
        let nw6_262 : Int32 := w_266.2.2.2.2.2.2.2.1
        let nw7_263 : Int32 := w_266.2.2.2.2.2.2.2.2
        (r_264, nw0_256, nw1_257, nw2_258, nw3_259, nw4_260, nw5_261, nw6_262, nw7_263, g_107, nw0_252, (hf_keys + 1))) else (
        if hf_features ≤ v_106 then (
          let w_274 := F_keepLongAt_10 c_n_k hf_keys r_20
          let nw0_271 : Nat → Int64 := w_274
          let w_285 := F_Te_takeSign t_length v_108 v_109 v_110 v_111 v_112 v_113 v_114 v_115 c_tape 59
          let r_283 : Int32 := w_285.1
          let nw0_275 : Int32 := w_285.2.1
          let nw1_276 : Int32 := w_285.2.2.1
          let nw2_277 : Int32 := w_285.2.2.2.1
          let nw3_278 : Int32 := w_285.2.2.2.2.1
          let nw4_279 : Int32 := w_285.2.2.2.2.2.1
          let nw5_280 : Int64 := w_285.2.2.2.2.2.2.1
          let nw6_281 : Int32 := w_285.2.2.2.2.2.2.2.1
          let nw7_282 : Int32 := w_285.2.2.2.2.2.2.2.2
          (r_283, nw0_275, nw1_276, nw2_277, nw3_278, nw4_279, nw5_280, nw6_281, nw7_282, g_107, nw0_271, (hf_keys + 1))) else (
          let w_292 := F_Te_refuse v_108 v_109 v_114 v_115 8
          let r_290 : Int32 := w_292.1
          let nw0_288 : Int32 := w_292.2.1
          let nw1_289 : Int32 := w_292.2.2
          (r_290, v_108, v_109, v_110, v_111, v_112, v_113, nw0_288, nw1_289, g_107, c_n_k, hf_keys)))) else (
      let w_297 := F_Te_isNumber v_108
      let r_295 : Int32 := w_297
      if r_295 = 0 then (
        let w_302 := F_Te_isSign v_108 v_112 59
        let r_300 : Int32 := w_302
        if r_300 = 0 then (
          let w_308 := F_keepLongAt_10 c_n_k hf_keys r_20
          let nw0_305 : Nat → Int64 := w_308
          let w_319 := F_Te_takeSign t_length v_108 v_109 v_110 v_111 v_112 v_113 v_114 v_115 c_tape 59
          let r_317 : Int32 := w_319.1
          let nw0_309 : Int32 := w_319.2.1
          let nw1_310 : Int32 := w_319.2.2.1
          let nw2_311 : Int32 := w_319.2.2.2.1
          let nw3_312 : Int32 := w_319.2.2.2.2.1
          let nw4_313 : Int32 := w_319.2.2.2.2.2.1
          let nw5_314 : Int64 := w_319.2.2.2.2.2.2.1
          let nw6_315 : Int32 := w_319.2.2.2.2.2.2.2.1
          let nw7_316 : Int32 := w_319.2.2.2.2.2.2.2.2
          (r_317, nw0_309, nw1_310, nw2_311, nw3_312, nw4_313, nw5_314, nw6_315, nw7_316, g_107, nw0_305, (hf_keys + 1))) else (
          if hf_features ≤ v_106 then (
            let w_327 := F_keepLongAt_10 c_n_k hf_keys r_20
            let nw0_324 : Nat → Int64 := w_327
            let w_338 := F_Te_takeSign t_length v_108 v_109 v_110 v_111 v_112 v_113 v_114 v_115 c_tape 59
            let r_336 : Int32 := w_338.1
            let nw0_328 : Int32 := w_338.2.1
            let nw1_329 : Int32 := w_338.2.2.1
            let nw2_330 : Int32 := w_338.2.2.2.1
            let nw3_331 : Int32 := w_338.2.2.2.2.1
            let nw4_332 : Int32 := w_338.2.2.2.2.2.1
            let nw5_333 : Int64 := w_338.2.2.2.2.2.2.1
            let nw6_334 : Int32 := w_338.2.2.2.2.2.2.2.1
            let nw7_335 : Int32 := w_338.2.2.2.2.2.2.2.2
            (r_336, nw0_328, nw1_329, nw2_330, nw3_331, nw4_332, nw5_333, nw6_334, nw7_335, g_107, nw0_324, (hf_keys + 1))) else (
            let w_345 := F_Te_refuse v_108 v_109 v_114 v_115 8
            let r_343 : Int32 := w_345.1
            let nw0_341 : Int32 := w_345.2.1
            let nw1_342 : Int32 := w_345.2.2
            (r_343, v_108, v_109, v_110, v_111, v_112, v_113, nw0_341, nw1_342, g_107, c_n_k, hf_keys)))) else (
        if v_106 < hf_features then (
          let w_352 := F_H_stepsOf hf_features c_hf_steps v_106
          let r_350 : Int32 := w_352
          let w_363 := F_Te_takeNumber t_length v_108 v_109 v_110 v_111 v_112 v_113 v_114 v_115 c_tape 0 (r_350 - 1)
          let r_361 : Int32 := w_363.1
          let nw0_353 : Int32 := w_363.2.1
          let nw1_354 : Int32 := w_363.2.2.1
          let nw2_355 : Int32 := w_363.2.2.2.1
          let nw3_356 : Int32 := w_363.2.2.2.2.1
          let nw4_357 : Int32 := w_363.2.2.2.2.2.1
          let nw5_358 : Int32 := w_363.2.2.2.2.2.2.1
          let nw6_359 : Int32 := w_363.2.2.2.2.2.2.2.1
          let nw7_360 : Int64 := w_363.2.2.2.2.2.2.2.2
          if r_361 = (-1) then (
            ((0 : Int32), nw2_355, nw3_356, nw4_357, nw5_358, nw6_359, nw7_360, nw0_353, nw1_354, g_107, c_n_k, hf_keys)) else (
            let w_369 := F_H_setStep g_107 hf_keys v_106 r_361
            let nw0_366 : Nat → Int32 := w_369
            G_L44a (v_106 + 1) nw0_366 nw2_355 nw3_356 nw4_357 nw5_358 nw6_359 nw7_360 nw0_353 nw1_354)) else (
          let w_378 := F_Te_refuse v_108 v_109 v_114 v_115 8
          let r_376 : Int32 := w_378.1
          let nw0_374 : Int32 := w_378.2.1
          let nw1_375 : Int32 := w_378.2.2
          (r_376, v_108, v_109, v_110, v_111, v_112, v_113, nw0_374, nw1_375, g_107, c_n_k, hf_keys))))) k9
theorem F_Ho_readKey_L44a_s (t_length : Int32) (c_tape : Nat → Int32) (c_n_k : Nat → Int64) (hf_features : Int32) (hf_keys : Int32) (c_hf_steps : Nat → Int32) (r_20 : Int64) (n9 : Nat) (v_106 : Int32) (g_107 : Nat → Int32) (v_108 : Int32) (v_109 : Int32) (v_110 : Int32) (v_111 : Int32) (v_112 : Int32) (v_113 : Int64) (v_114 : Int32) (v_115 : Int32) : F_Ho_readKey_L44a t_length c_tape c_n_k hf_features hf_keys c_hf_steps r_20 (n9 + 1) v_106 g_107 v_108 v_109 v_110 v_111 v_112 v_113 v_114 v_115 = (
    if 3 < v_106 then (
      let w_249 := F_Te_isSign v_108 v_112 59
      let r_247 : Int32 := w_249
      if r_247 = 0 then (
        let w_255 := F_keepLongAt_10 c_n_k hf_keys r_20
        let nw0_252 : Nat → Int64 := w_255
        let w_266 := F_Te_takeSign t_length v_108 v_109 v_110 v_111 v_112 v_113 v_114 v_115 c_tape 59
        let r_264 : Int32 := w_266.1
        let nw0_256 : Int32 := w_266.2.1
        let nw1_257 : Int32 := w_266.2.2.1
        let nw2_258 : Int32 := w_266.2.2.2.1
        let nw3_259 : Int32 := w_266.2.2.2.2.1
        let nw4_260 : Int32 := w_266.2.2.2.2.2.1
        let nw5_261 : Int64 := w_266.2.2.2.2.2.2.1
        let nw6_262 : Int32 := w_266.2.2.2.2.2.2.2.1
        let nw7_263 : Int32 := w_266.2.2.2.2.2.2.2.2
        (r_264, nw0_256, nw1_257, nw2_258, nw3_259, nw4_260, nw5_261, nw6_262, nw7_263, g_107, nw0_252, (hf_keys + 1))) else (
        if hf_features ≤ v_106 then (
          let w_274 := F_keepLongAt_10 c_n_k hf_keys r_20
          let nw0_271 : Nat → Int64 := w_274
          let w_285 := F_Te_takeSign t_length v_108 v_109 v_110 v_111 v_112 v_113 v_114 v_115 c_tape 59
          let r_283 : Int32 := w_285.1
          let nw0_275 : Int32 := w_285.2.1
          let nw1_276 : Int32 := w_285.2.2.1
          let nw2_277 : Int32 := w_285.2.2.2.1
          let nw3_278 : Int32 := w_285.2.2.2.2.1
          let nw4_279 : Int32 := w_285.2.2.2.2.2.1
          let nw5_280 : Int64 := w_285.2.2.2.2.2.2.1
          let nw6_281 : Int32 := w_285.2.2.2.2.2.2.2.1
          let nw7_282 : Int32 := w_285.2.2.2.2.2.2.2.2
          (r_283, nw0_275, nw1_276, nw2_277, nw3_278, nw4_279, nw5_280, nw6_281, nw7_282, g_107, nw0_271, (hf_keys + 1))) else (
          let w_292 := F_Te_refuse v_108 v_109 v_114 v_115 8
          let r_290 : Int32 := w_292.1
          let nw0_288 : Int32 := w_292.2.1
          let nw1_289 : Int32 := w_292.2.2
          (r_290, v_108, v_109, v_110, v_111, v_112, v_113, nw0_288, nw1_289, g_107, c_n_k, hf_keys)))) else (
      let w_297 := F_Te_isNumber v_108
      let r_295 : Int32 := w_297
      if r_295 = 0 then (
        let w_302 := F_Te_isSign v_108 v_112 59
        let r_300 : Int32 := w_302
        if r_300 = 0 then (
          let w_308 := F_keepLongAt_10 c_n_k hf_keys r_20
          let nw0_305 : Nat → Int64 := w_308
          let w_319 := F_Te_takeSign t_length v_108 v_109 v_110 v_111 v_112 v_113 v_114 v_115 c_tape 59
          let r_317 : Int32 := w_319.1
          let nw0_309 : Int32 := w_319.2.1
          let nw1_310 : Int32 := w_319.2.2.1
          let nw2_311 : Int32 := w_319.2.2.2.1
          let nw3_312 : Int32 := w_319.2.2.2.2.1
          let nw4_313 : Int32 := w_319.2.2.2.2.2.1
          let nw5_314 : Int64 := w_319.2.2.2.2.2.2.1
          let nw6_315 : Int32 := w_319.2.2.2.2.2.2.2.1
          let nw7_316 : Int32 := w_319.2.2.2.2.2.2.2.2
          (r_317, nw0_309, nw1_310, nw2_311, nw3_312, nw4_313, nw5_314, nw6_315, nw7_316, g_107, nw0_305, (hf_keys + 1))) else (
          if hf_features ≤ v_106 then (
            let w_327 := F_keepLongAt_10 c_n_k hf_keys r_20
            let nw0_324 : Nat → Int64 := w_327
            let w_338 := F_Te_takeSign t_length v_108 v_109 v_110 v_111 v_112 v_113 v_114 v_115 c_tape 59
            let r_336 : Int32 := w_338.1
            let nw0_328 : Int32 := w_338.2.1
            let nw1_329 : Int32 := w_338.2.2.1
            let nw2_330 : Int32 := w_338.2.2.2.1
            let nw3_331 : Int32 := w_338.2.2.2.2.1
            let nw4_332 : Int32 := w_338.2.2.2.2.2.1
            let nw5_333 : Int64 := w_338.2.2.2.2.2.2.1
            let nw6_334 : Int32 := w_338.2.2.2.2.2.2.2.1
            let nw7_335 : Int32 := w_338.2.2.2.2.2.2.2.2
            (r_336, nw0_328, nw1_329, nw2_330, nw3_331, nw4_332, nw5_333, nw6_334, nw7_335, g_107, nw0_324, (hf_keys + 1))) else (
            let w_345 := F_Te_refuse v_108 v_109 v_114 v_115 8
            let r_343 : Int32 := w_345.1
            let nw0_341 : Int32 := w_345.2.1
            let nw1_342 : Int32 := w_345.2.2
            (r_343, v_108, v_109, v_110, v_111, v_112, v_113, nw0_341, nw1_342, g_107, c_n_k, hf_keys)))) else (
        if v_106 < hf_features then (
          let w_352 := F_H_stepsOf hf_features c_hf_steps v_106
          let r_350 : Int32 := w_352
          let w_363 := F_Te_takeNumber t_length v_108 v_109 v_110 v_111 v_112 v_113 v_114 v_115 c_tape 0 (r_350 - 1)
          let r_361 : Int32 := w_363.1
          let nw0_353 : Int32 := w_363.2.1
          let nw1_354 : Int32 := w_363.2.2.1
          let nw2_355 : Int32 := w_363.2.2.2.1
          let nw3_356 : Int32 := w_363.2.2.2.2.1
          let nw4_357 : Int32 := w_363.2.2.2.2.2.1
          let nw5_358 : Int32 := w_363.2.2.2.2.2.2.1
          let nw6_359 : Int32 := w_363.2.2.2.2.2.2.2.1
          let nw7_360 : Int64 := w_363.2.2.2.2.2.2.2.2
          if r_361 = (-1) then (
            ((0 : Int32), nw2_355, nw3_356, nw4_357, nw5_358, nw6_359, nw7_360, nw0_353, nw1_354, g_107, c_n_k, hf_keys)) else (
            let w_369 := F_H_setStep g_107 hf_keys v_106 r_361
            let nw0_366 : Nat → Int32 := w_369
            (F_Ho_readKey_L44a t_length c_tape c_n_k hf_features hf_keys c_hf_steps r_20 n9) (v_106 + 1) nw0_366 nw2_355 nw3_356 nw4_357 nw5_358 nw6_359 nw7_360 nw0_353 nw1_354)) else (
          let w_378 := F_Te_refuse v_108 v_109 v_114 v_115 8
          let r_376 : Int32 := w_378.1
          let nw0_374 : Int32 := w_378.2.1
          let nw1_375 : Int32 := w_378.2.2
          (r_376, v_108, v_109, v_110, v_111, v_112, v_113, nw0_374, nw1_375, g_107, c_n_k, hf_keys))))) := rfl
noncomputable def F_Ho_readKey (t_length : Int32) (t_kind : Int32) (t_start : Int32) (t_end : Int32) (t_number : Int32) (t_sign : Int32) (t_letters : Int64) (t_fault : Int32) (t_faultPlace : Int32) (c_tape : Nat → Int32) (c_n_f : Nat → Int64) (c_n_k : Nat → Int64) (c_n_r : Nat → Int64) (c_n_d : Nat → Int64) (hf_features : Int32) (hf_keys : Int32) (hf_rings : Int32) (hf_doors : Int32) (c_hf_steps : Nat → Int32) (c_hf_keySteps : Nat → Int32) : Int32 × Int32 × Int32 × Int32 × Int32 × Int32 × Int64 × Int32 × Int32 × (Nat → Int32) × (Nat → Int64) × Int32 :=
  if hf_keys < 10 then (
    let w_11 := F_Te_advance t_length t_end t_number t_sign t_letters c_tape
    let nw0_3 : Int32 := w_11.1
    let nw1_4 : Int32 := w_11.2.1
    let nw2_5 : Int32 := w_11.2.2.1
    let nw3_6 : Int32 := w_11.2.2.2.1
    let nw4_7 : Int32 := w_11.2.2.2.2.1
    let nw5_8 : Int64 := w_11.2.2.2.2.2
    let w_22 := F_Ho_takeNewName t_length nw0_3 nw1_4 nw2_5 nw4_7 nw3_6 nw5_8 t_fault t_faultPlace c_tape c_n_f c_n_k c_n_r c_n_d hf_features hf_keys hf_rings hf_doors
    let r_20 : Int64 := w_22.1
    let nw0_12 : Int32 := w_22.2.1
    let nw1_13 : Int32 := w_22.2.2.1
    let nw2_14 : Int32 := w_22.2.2.2.1
    let nw3_15 : Int32 := w_22.2.2.2.2.1
    let nw4_16 : Int32 := w_22.2.2.2.2.2.1
    let nw5_17 : Int64 := w_22.2.2.2.2.2.2.1
    let nw6_18 : Int32 := w_22.2.2.2.2.2.2.2.1
    let nw7_19 : Int32 := w_22.2.2.2.2.2.2.2.2
    if (lg_cmp r_20 0) = 0 then (
      ((0 : Int32), nw0_12, nw1_13, nw2_14, nw3_15, nw4_16, nw5_17, nw6_18, nw7_19, c_hf_keySteps, c_n_k, hf_keys)) else (
      F_Ho_readKey_L44a t_length c_tape c_n_k hf_features hf_keys c_hf_steps r_20 ((2147483647 - (0 : Int32).toInt).toNat + 1) (0 : Int32) c_hf_keySteps nw0_12 nw1_13 nw2_14 nw3_15 nw4_16 nw5_17 nw6_18 nw7_19)) else (
    let w_388 := F_Te_refuse t_kind t_start t_fault t_faultPlace 6
    let r_386 : Int32 := w_388.1
    let nw0_384 : Int32 := w_388.2.1
    let nw1_385 : Int32 := w_388.2.2
    (r_386, t_kind, t_start, t_end, t_number, t_sign, t_letters, nw0_384, nw1_385, c_hf_keySteps, c_n_k, hf_keys))
theorem F_Ho_readKey_s (t_length : Int32) (t_kind : Int32) (t_start : Int32) (t_end : Int32) (t_number : Int32) (t_sign : Int32) (t_letters : Int64) (t_fault : Int32) (t_faultPlace : Int32) (c_tape : Nat → Int32) (c_n_f : Nat → Int64) (c_n_k : Nat → Int64) (c_n_r : Nat → Int64) (c_n_d : Nat → Int64) (hf_features : Int32) (hf_keys : Int32) (hf_rings : Int32) (hf_doors : Int32) (c_hf_steps : Nat → Int32) (c_hf_keySteps : Nat → Int32) : F_Ho_readKey t_length t_kind t_start t_end t_number t_sign t_letters t_fault t_faultPlace c_tape c_n_f c_n_k c_n_r c_n_d hf_features hf_keys hf_rings hf_doors c_hf_steps c_hf_keySteps = (
  if hf_keys < 10 then (
    let w_11 := F_Te_advance t_length t_end t_number t_sign t_letters c_tape
    let nw0_3 : Int32 := w_11.1
    let nw1_4 : Int32 := w_11.2.1
    let nw2_5 : Int32 := w_11.2.2.1
    let nw3_6 : Int32 := w_11.2.2.2.1
    let nw4_7 : Int32 := w_11.2.2.2.2.1
    let nw5_8 : Int64 := w_11.2.2.2.2.2
    let w_22 := F_Ho_takeNewName t_length nw0_3 nw1_4 nw2_5 nw4_7 nw3_6 nw5_8 t_fault t_faultPlace c_tape c_n_f c_n_k c_n_r c_n_d hf_features hf_keys hf_rings hf_doors
    let r_20 : Int64 := w_22.1
    let nw0_12 : Int32 := w_22.2.1
    let nw1_13 : Int32 := w_22.2.2.1
    let nw2_14 : Int32 := w_22.2.2.2.1
    let nw3_15 : Int32 := w_22.2.2.2.2.1
    let nw4_16 : Int32 := w_22.2.2.2.2.2.1
    let nw5_17 : Int64 := w_22.2.2.2.2.2.2.1
    let nw6_18 : Int32 := w_22.2.2.2.2.2.2.2.1
    let nw7_19 : Int32 := w_22.2.2.2.2.2.2.2.2
    if (lg_cmp r_20 0) = 0 then (
      ((0 : Int32), nw0_12, nw1_13, nw2_14, nw3_15, nw4_16, nw5_17, nw6_18, nw7_19, c_hf_keySteps, c_n_k, hf_keys)) else (
      F_Ho_readKey_L44a t_length c_tape c_n_k hf_features hf_keys c_hf_steps r_20 ((2147483647 - (0 : Int32).toInt).toNat + 1) (0 : Int32) c_hf_keySteps nw0_12 nw1_13 nw2_14 nw3_15 nw4_16 nw5_17 nw6_18 nw7_19)) else (
    let w_388 := F_Te_refuse t_kind t_start t_fault t_faultPlace 6
    let r_386 : Int32 := w_388.1
    let nw0_384 : Int32 := w_388.2.1
    let nw1_385 : Int32 := w_388.2.2
    (r_386, t_kind, t_start, t_end, t_number, t_sign, t_letters, nw0_384, nw1_385, c_hf_keySteps, c_n_k, hf_keys))) := rfl
noncomputable def F_Ho_readRing_L68a (t_length : Int32) (c_tape : Nat → Int32) (c_n_k : Nat → Int64) (hf_keys : Int32) (hf_rings : Int32) (nw0_25 : Nat → Int64) (nw0_29 : Int32) : Nat → Int32 → (Nat → Int32) → Int32 → Int32 → Int32 → Int32 → Int32 → Int32 → Int64 → Int32 → Int32 → (Nat → Int32) → (Int32 × Int32 × Int32 × Int32 × Int32 × Int32 × Int64 × Int32 × Int32 × (Nat → Int64) × Int32 × (Nat → Int32) × Int32 × (Nat → Int32)) := fun k9 => Nat.rec (motive := fun _ => Int32 → (Nat → Int32) → Int32 → Int32 → Int32 → Int32 → Int32 → Int32 → Int64 → Int32 → Int32 → (Nat → Int32) → (Int32 × Int32 × Int32 × Int32 × Int32 × Int32 × Int64 × Int32 × Int32 × (Nat → Int64) × Int32 × (Nat → Int32) × Int32 × (Nat → Int32))) (fun _ _ _ _ _ _ _ _ _ _ _ _ => default) (fun _ (G_L68a : Int32 → (Nat → Int32) → Int32 → Int32 → Int32 → Int32 → Int32 → Int32 → Int64 → Int32 → Int32 → (Nat → Int32) → (Int32 × Int32 × Int32 × Int32 × Int32 × Int32 × Int64 × Int32 × Int32 × (Nat → Int64) × Int32 × (Nat → Int32) × Int32 × (Nat → Int32))) => fun (v_129 : Int32) (g_130 : Nat → Int32) (v_131 : Int32) (v_132 : Int32) (v_133 : Int32) (v_134 : Int32) (v_135 : Int32) (v_136 : Int32) (v_137 : Int64) (v_138 : Int32) (v_139 : Int32) (g_140 : Nat → Int32) =>
    if 10 < v_129 then (
      let w_221 := F_Te_takeSign t_length v_132 v_133 v_134 v_135 v_136 v_137 v_138 v_139 c_tape 59
      let r_219 : Int32 := w_221.1
      let nw0_211 : Int32 := w_221.2.1
      let nw1_212 : Int32 := w_221.2.2.1
      let nw2_213 : Int32 := w_221.2.2.2.1
      let nw3_214 : Int32 := w_221.2.2.2.2.1
      let nw4_215 : Int32 := w_221.2.2.2.2.2.1
      let nw5_216 : Int64 := w_221.2.2.2.2.2.2.1
      let nw6_217 : Int32 := w_221.2.2.2.2.2.2.2.1
      let nw7_218 : Int32 := w_221.2.2.2.2.2.2.2.2
      (r_219, nw0_211, nw1_212, nw2_213, nw3_214, nw4_215, nw5_216, nw6_217, nw7_218, nw0_25, nw0_29, g_140, v_131, g_130)) else (
      let w_226 := F_Te_isSign v_132 v_136 59
      let r_224 : Int32 := w_226
      if r_224 = 0 then (
        let w_246 := F_HR_thing_k t_length v_132 v_133 v_134 v_137 v_138 v_139 c_tape c_n_k hf_keys
        let r_244 : Int32 := w_246.1
        let nw0_242 : Int32 := w_246.2.1
        let nw1_243 : Int32 := w_246.2.2
        if r_244 = (-1) then (
          ((0 : Int32), v_132, v_133, v_134, v_135, v_136, v_137, nw0_242, nw1_243, nw0_25, nw0_29, g_140, v_131, g_130)) else (
          let x_249 : Int32 := (v_131 >>> (r_244 &&& 31))
          let x_250 : Int32 := (x_249 &&& 1)
          if x_250 = 1 then (
            let w_275 := F_Te_refuse v_132 v_133 nw0_242 nw1_243 5
            let r_273 : Int32 := w_275.1
            let nw0_271 : Int32 := w_275.2.1
            let nw1_272 : Int32 := w_275.2.2
            (r_273, v_132, v_133, v_134, v_135, v_136, v_137, nw0_271, nw1_272, nw0_25, nw0_29, g_140, v_131, g_130)) else (
            let x_253 : Int32 := ((1 : Int32) <<< (r_244 &&& 31))
            let x_254 : Int32 := (v_131 ||| x_253)
            let w_259 := F_H_putOn nw0_29 g_130 g_140 r_244 hf_rings v_129
            let nw0_255 : Nat → Int32 := w_259.1
            let nw1_256 : Nat → Int32 := w_259.2
            let w_268 := F_Te_advance t_length v_134 v_135 v_136 v_137 c_tape
            let nw0_260 : Int32 := w_268.1
            let nw1_261 : Int32 := w_268.2.1
            let nw2_262 : Int32 := w_268.2.2.1
            let nw3_263 : Int32 := w_268.2.2.2.1
            let nw4_264 : Int32 := w_268.2.2.2.2.1
            let nw5_265 : Int64 := w_268.2.2.2.2.2
            G_L68a (v_129 + 1) nw0_255 x_254 nw0_260 nw1_261 nw2_262 nw4_264 nw3_263 nw5_265 nw0_242 nw1_243 nw1_256))) else (
        let w_239 := F_Te_takeSign t_length v_132 v_133 v_134 v_135 v_136 v_137 v_138 v_139 c_tape 59
        let r_237 : Int32 := w_239.1
        let nw0_229 : Int32 := w_239.2.1
        let nw1_230 : Int32 := w_239.2.2.1
        let nw2_231 : Int32 := w_239.2.2.2.1
        let nw3_232 : Int32 := w_239.2.2.2.2.1
        let nw4_233 : Int32 := w_239.2.2.2.2.2.1
        let nw5_234 : Int64 := w_239.2.2.2.2.2.2.1
        let nw6_235 : Int32 := w_239.2.2.2.2.2.2.2.1
        let nw7_236 : Int32 := w_239.2.2.2.2.2.2.2.2
        (r_237, nw0_229, nw1_230, nw2_231, nw3_232, nw4_233, nw5_234, nw6_235, nw7_236, nw0_25, nw0_29, g_140, v_131, g_130)))) k9
theorem F_Ho_readRing_L68a_s (t_length : Int32) (c_tape : Nat → Int32) (c_n_k : Nat → Int64) (hf_keys : Int32) (hf_rings : Int32) (nw0_25 : Nat → Int64) (nw0_29 : Int32) (n9 : Nat) (v_129 : Int32) (g_130 : Nat → Int32) (v_131 : Int32) (v_132 : Int32) (v_133 : Int32) (v_134 : Int32) (v_135 : Int32) (v_136 : Int32) (v_137 : Int64) (v_138 : Int32) (v_139 : Int32) (g_140 : Nat → Int32) : F_Ho_readRing_L68a t_length c_tape c_n_k hf_keys hf_rings nw0_25 nw0_29 (n9 + 1) v_129 g_130 v_131 v_132 v_133 v_134 v_135 v_136 v_137 v_138 v_139 g_140 = (
    if 10 < v_129 then (
      let w_221 := F_Te_takeSign t_length v_132 v_133 v_134 v_135 v_136 v_137 v_138 v_139 c_tape 59
      let r_219 : Int32 := w_221.1
      let nw0_211 : Int32 := w_221.2.1
      let nw1_212 : Int32 := w_221.2.2.1
      let nw2_213 : Int32 := w_221.2.2.2.1
      let nw3_214 : Int32 := w_221.2.2.2.2.1
      let nw4_215 : Int32 := w_221.2.2.2.2.2.1
      let nw5_216 : Int64 := w_221.2.2.2.2.2.2.1
      let nw6_217 : Int32 := w_221.2.2.2.2.2.2.2.1
      let nw7_218 : Int32 := w_221.2.2.2.2.2.2.2.2
      (r_219, nw0_211, nw1_212, nw2_213, nw3_214, nw4_215, nw5_216, nw6_217, nw7_218, nw0_25, nw0_29, g_140, v_131, g_130)) else (
      let w_226 := F_Te_isSign v_132 v_136 59
      let r_224 : Int32 := w_226
      if r_224 = 0 then (
        let w_246 := F_HR_thing_k t_length v_132 v_133 v_134 v_137 v_138 v_139 c_tape c_n_k hf_keys
        let r_244 : Int32 := w_246.1
        let nw0_242 : Int32 := w_246.2.1
        let nw1_243 : Int32 := w_246.2.2
        if r_244 = (-1) then (
          ((0 : Int32), v_132, v_133, v_134, v_135, v_136, v_137, nw0_242, nw1_243, nw0_25, nw0_29, g_140, v_131, g_130)) else (
          let x_249 : Int32 := (v_131 >>> (r_244 &&& 31))
          let x_250 : Int32 := (x_249 &&& 1)
          if x_250 = 1 then (
            let w_275 := F_Te_refuse v_132 v_133 nw0_242 nw1_243 5
            let r_273 : Int32 := w_275.1
            let nw0_271 : Int32 := w_275.2.1
            let nw1_272 : Int32 := w_275.2.2
            (r_273, v_132, v_133, v_134, v_135, v_136, v_137, nw0_271, nw1_272, nw0_25, nw0_29, g_140, v_131, g_130)) else (
            let x_253 : Int32 := ((1 : Int32) <<< (r_244 &&& 31))
            let x_254 : Int32 := (v_131 ||| x_253)
            let w_259 := F_H_putOn nw0_29 g_130 g_140 r_244 hf_rings v_129
            let nw0_255 : Nat → Int32 := w_259.1
            let nw1_256 : Nat → Int32 := w_259.2
            let w_268 := F_Te_advance t_length v_134 v_135 v_136 v_137 c_tape
            let nw0_260 : Int32 := w_268.1
            let nw1_261 : Int32 := w_268.2.1
            let nw2_262 : Int32 := w_268.2.2.1
            let nw3_263 : Int32 := w_268.2.2.2.1
            let nw4_264 : Int32 := w_268.2.2.2.2.1
            let nw5_265 : Int64 := w_268.2.2.2.2.2
            (F_Ho_readRing_L68a t_length c_tape c_n_k hf_keys hf_rings nw0_25 nw0_29 n9) (v_129 + 1) nw0_255 x_254 nw0_260 nw1_261 nw2_262 nw4_264 nw3_263 nw5_265 nw0_242 nw1_243 nw1_256))) else (
        let w_239 := F_Te_takeSign t_length v_132 v_133 v_134 v_135 v_136 v_137 v_138 v_139 c_tape 59
        let r_237 : Int32 := w_239.1
        let nw0_229 : Int32 := w_239.2.1
        let nw1_230 : Int32 := w_239.2.2.1
        let nw2_231 : Int32 := w_239.2.2.2.1
        let nw3_232 : Int32 := w_239.2.2.2.2.1
        let nw4_233 : Int32 := w_239.2.2.2.2.2.1
        let nw5_234 : Int64 := w_239.2.2.2.2.2.2.1
        let nw6_235 : Int32 := w_239.2.2.2.2.2.2.2.1
        let nw7_236 : Int32 := w_239.2.2.2.2.2.2.2.2
        (r_237, nw0_229, nw1_230, nw2_231, nw3_232, nw4_233, nw5_234, nw6_235, nw7_236, nw0_25, nw0_29, g_140, v_131, g_130)))) := rfl
noncomputable def F_Ho_readRing (hr_keysOnRings : Int32) (t_length : Int32) (t_kind : Int32) (t_start : Int32) (t_end : Int32) (t_number : Int32) (t_sign : Int32) (t_letters : Int64) (t_fault : Int32) (t_faultPlace : Int32) (c_tape : Nat → Int32) (c_n_f : Nat → Int64) (c_n_k : Nat → Int64) (c_n_r : Nat → Int64) (c_n_d : Nat → Int64) (hf_features : Int32) (hf_keys : Int32) (hf_rings : Int32) (hf_doors : Int32) (c_hf_on : Nat → Int32) (c_hf_onMany : Nat → Int32) : Int32 × Int32 × Int32 × Int32 × Int32 × Int32 × Int64 × Int32 × Int32 × (Nat → Int64) × Int32 × (Nat → Int32) × Int32 × (Nat → Int32) :=
  if hf_rings < 3 then (
    let w_11 := F_Te_advance t_length t_end t_number t_sign t_letters c_tape
    let nw0_3 : Int32 := w_11.1
    let nw1_4 : Int32 := w_11.2.1
    let nw2_5 : Int32 := w_11.2.2.1
    let nw3_6 : Int32 := w_11.2.2.2.1
    let nw4_7 : Int32 := w_11.2.2.2.2.1
    let nw5_8 : Int64 := w_11.2.2.2.2.2
    let w_22 := F_Ho_takeNewName t_length nw0_3 nw1_4 nw2_5 nw4_7 nw3_6 nw5_8 t_fault t_faultPlace c_tape c_n_f c_n_k c_n_r c_n_d hf_features hf_keys hf_rings hf_doors
    let r_20 : Int64 := w_22.1
    let nw0_12 : Int32 := w_22.2.1
    let nw1_13 : Int32 := w_22.2.2.1
    let nw2_14 : Int32 := w_22.2.2.2.1
    let nw3_15 : Int32 := w_22.2.2.2.2.1
    let nw4_16 : Int32 := w_22.2.2.2.2.2.1
    let nw5_17 : Int64 := w_22.2.2.2.2.2.2.1
    let nw6_18 : Int32 := w_22.2.2.2.2.2.2.2.1
    let nw7_19 : Int32 := w_22.2.2.2.2.2.2.2.2
    if (lg_cmp r_20 0) = 0 then (
      ((0 : Int32), nw0_12, nw1_13, nw2_14, nw3_15, nw4_16, nw5_17, nw6_18, nw7_19, c_n_r, hf_rings, c_hf_onMany, hr_keysOnRings, c_hf_on)) else (
      let w_28 := F_keepLongAt_3 c_n_r hf_rings r_20
      let nw0_25 : Nat → Int64 := w_28
      let w_33 := F_H_addRing hf_rings c_hf_onMany
      let nw0_29 : Int32 := w_33.1
      let nw1_30 : Nat → Int32 := w_33.2
      F_Ho_readRing_L68a t_length c_tape c_n_k hf_keys hf_rings nw0_25 nw0_29 ((2147483647 - (0 : Int32).toInt).toNat + 1) (0 : Int32) c_hf_on hr_keysOnRings nw0_12 nw1_13 nw2_14 nw3_15 nw4_16 nw5_17 nw6_18 nw7_19 nw1_30)) else (
    let w_287 := F_Te_refuse t_kind t_start t_fault t_faultPlace 6
    let r_285 : Int32 := w_287.1
    let nw0_283 : Int32 := w_287.2.1
    let nw1_284 : Int32 := w_287.2.2
    (r_285, t_kind, t_start, t_end, t_number, t_sign, t_letters, nw0_283, nw1_284, c_n_r, hf_rings, c_hf_onMany, hr_keysOnRings, c_hf_on))
theorem F_Ho_readRing_s (hr_keysOnRings : Int32) (t_length : Int32) (t_kind : Int32) (t_start : Int32) (t_end : Int32) (t_number : Int32) (t_sign : Int32) (t_letters : Int64) (t_fault : Int32) (t_faultPlace : Int32) (c_tape : Nat → Int32) (c_n_f : Nat → Int64) (c_n_k : Nat → Int64) (c_n_r : Nat → Int64) (c_n_d : Nat → Int64) (hf_features : Int32) (hf_keys : Int32) (hf_rings : Int32) (hf_doors : Int32) (c_hf_on : Nat → Int32) (c_hf_onMany : Nat → Int32) : F_Ho_readRing hr_keysOnRings t_length t_kind t_start t_end t_number t_sign t_letters t_fault t_faultPlace c_tape c_n_f c_n_k c_n_r c_n_d hf_features hf_keys hf_rings hf_doors c_hf_on c_hf_onMany = (
  if hf_rings < 3 then (
    let w_11 := F_Te_advance t_length t_end t_number t_sign t_letters c_tape
    let nw0_3 : Int32 := w_11.1
    let nw1_4 : Int32 := w_11.2.1
    let nw2_5 : Int32 := w_11.2.2.1
    let nw3_6 : Int32 := w_11.2.2.2.1
    let nw4_7 : Int32 := w_11.2.2.2.2.1
    let nw5_8 : Int64 := w_11.2.2.2.2.2
    let w_22 := F_Ho_takeNewName t_length nw0_3 nw1_4 nw2_5 nw4_7 nw3_6 nw5_8 t_fault t_faultPlace c_tape c_n_f c_n_k c_n_r c_n_d hf_features hf_keys hf_rings hf_doors
    let r_20 : Int64 := w_22.1
    let nw0_12 : Int32 := w_22.2.1
    let nw1_13 : Int32 := w_22.2.2.1
    let nw2_14 : Int32 := w_22.2.2.2.1
    let nw3_15 : Int32 := w_22.2.2.2.2.1
    let nw4_16 : Int32 := w_22.2.2.2.2.2.1
    let nw5_17 : Int64 := w_22.2.2.2.2.2.2.1
    let nw6_18 : Int32 := w_22.2.2.2.2.2.2.2.1
    let nw7_19 : Int32 := w_22.2.2.2.2.2.2.2.2
    if (lg_cmp r_20 0) = 0 then (
      ((0 : Int32), nw0_12, nw1_13, nw2_14, nw3_15, nw4_16, nw5_17, nw6_18, nw7_19, c_n_r, hf_rings, c_hf_onMany, hr_keysOnRings, c_hf_on)) else (
      let w_28 := F_keepLongAt_3 c_n_r hf_rings r_20
      let nw0_25 : Nat → Int64 := w_28
      let w_33 := F_H_addRing hf_rings c_hf_onMany
      let nw0_29 : Int32 := w_33.1
      let nw1_30 : Nat → Int32 := w_33.2
      F_Ho_readRing_L68a t_length c_tape c_n_k hf_keys hf_rings nw0_25 nw0_29 ((2147483647 - (0 : Int32).toInt).toNat + 1) (0 : Int32) c_hf_on hr_keysOnRings nw0_12 nw1_13 nw2_14 nw3_15 nw4_16 nw5_17 nw6_18 nw7_19 nw1_30)) else (
    let w_287 := F_Te_refuse t_kind t_start t_fault t_faultPlace 6
    let r_285 : Int32 := w_287.1
    let nw0_283 : Int32 := w_287.2.1
    let nw1_284 : Int32 := w_287.2.2
    (r_285, t_kind, t_start, t_end, t_number, t_sign, t_letters, nw0_283, nw1_284, c_n_r, hf_rings, c_hf_onMany, hr_keysOnRings, c_hf_on))) := rfl
noncomputable def F_Ho_readDoor_L113a (t_length : Int32) (c_tape : Nat → Int32) (c_n_k : Nat → Int64) (hf_keys : Int32) (hf_doors : Int32) (nw0_68 : Nat → Int64) (nw0_72 : Int32) (nw1_73 : Nat → Int32) : Nat → Int32 → Int32 → Int32 → Int32 → Int32 → Int32 → Int64 → Int32 → Int32 → (Nat → Int32) → (Int32 × Int32 × Int32 × Int32 × Int32 × Int32 × Int64 × Int32 × Int32 × (Nat → Int64) × Int32 × (Nat → Int32) × (Nat → Int32)) := fun k9 => Nat.rec (motive := fun _ => Int32 → Int32 → Int32 → Int32 → Int32 → Int32 → Int64 → Int32 → Int32 → (Nat → Int32) → (Int32 × Int32 × Int32 × Int32 × Int32 × Int32 × Int64 × Int32 × Int32 × (Nat → Int64) × Int32 × (Nat → Int32) × (Nat → Int32))) (fun _ _ _ _ _ _ _ _ _ _ => default) (fun _ (G_L113a : Int32 → Int32 → Int32 → Int32 → Int32 → Int32 → Int64 → Int32 → Int32 → (Nat → Int32) → (Int32 × Int32 × Int32 × Int32 × Int32 × Int32 × Int64 × Int32 × Int32 × (Nat → Int64) × Int32 × (Nat → Int32) × (Nat → Int32))) => fun (v_196 : Int32) (v_197 : Int32) (v_198 : Int32) (v_199 : Int32) (v_200 : Int32) (v_201 : Int32) (v_202 : Int64) (v_203 : Int32) (v_204 : Int32) (g_205 : Nat → Int32) =>
    if 10 < v_196 then (
      let w_319 := F_Te_takeSign t_length v_197 v_198 v_199 v_200 v_201 v_202 v_203 v_204 c_tape 59
      let r_317 : Int32 := w_319.1
      let nw0_309 : Int32 := w_319.2.1
      let nw1_310 : Int32 := w_319.2.2.1
      let nw2_311 : Int32 := w_319.2.2.2.1
      let nw3_312 : Int32 := w_319.2.2.2.2.1
      let nw4_313 : Int32 := w_319.2.2.2.2.2.1
      let nw5_314 : Int64 := w_319.2.2.2.2.2.2.1
      let nw6_315 : Int32 := w_319.2.2.2.2.2.2.2.1
      let nw7_316 : Int32 := w_319.2.2.2.2.2.2.2.2
      (r_317, nw0_309, nw1_310, nw2_311, nw3_312, nw4_313, nw5_314, nw6_315, nw7_316, nw0_68, nw0_72, nw1_73, g_205)) else (
      if v_196 = 0 then (
        let w_328 := F_HR_thing_k t_length v_197 v_198 v_199 v_202 v_203 v_204 c_tape c_n_k hf_keys
        let r_326 : Int32 := w_328.1
        let nw0_324 : Int32 := w_328.2.1
        let nw1_325 : Int32 := w_328.2.2
        if r_326 = (-1) then (
          ((0 : Int32), v_197, v_198, v_199, v_200, v_201, v_202, nw0_324, nw1_325, nw0_68, nw0_72, nw1_73, g_205)) else (
          let w_333 := F_H_unlocks hf_keys nw0_72 g_205 r_326 hf_doors
          let r_331 : Int32 := w_333
          if r_331 = 0 then (
            let w_339 := F_H_addOpener nw0_72 g_205 hf_doors r_326
            let nw0_336 : Nat → Int32 := w_339
            let w_348 := F_Te_advance t_length v_199 v_200 v_201 v_202 c_tape
            let nw0_340 : Int32 := w_348.1
            let nw1_341 : Int32 := w_348.2.1
            let nw2_342 : Int32 := w_348.2.2.1
            let nw3_343 : Int32 := w_348.2.2.2.1
            let nw4_344 : Int32 := w_348.2.2.2.2.1
            let nw5_345 : Int64 := w_348.2.2.2.2.2
            G_L113a (v_196 + 1) nw0_340 nw1_341 nw2_342 nw4_344 nw3_343 nw5_345 nw0_324 nw1_325 nw0_336) else (
            let w_355 := F_Te_refuse v_197 v_198 nw0_324 nw1_325 5
            let r_353 : Int32 := w_355.1
            let nw0_351 : Int32 := w_355.2.1
            let nw1_352 : Int32 := w_355.2.2
            (r_353, v_197, v_198, v_199, v_200, v_201, v_202, nw0_351, nw1_352, nw0_68, nw0_72, nw1_73, g_205)))) else (
        let w_362 := F_Te_isSign v_197 v_201 59
        let r_360 : Int32 := w_362
        if r_360 = 0 then (
          let w_382 := F_HR_thing_k t_length v_197 v_198 v_199 v_202 v_203 v_204 c_tape c_n_k hf_keys
          let r_380 : Int32 := w_382.1
          let nw0_378 : Int32 := w_382.2.1
          let nw1_379 : Int32 := w_382.2.2
          if r_380 = (-1) then (
            ((0 : Int32), v_197, v_198, v_199, v_200, v_201, v_202, nw0_378, nw1_379, nw0_68, nw0_72, nw1_73, g_205)) else (
            let w_387 := F_H_unlocks hf_keys nw0_72 g_205 r_380 hf_doors
            let r_385 : Int32 := w_387
            if r_385 = 0 then (
              let w_393 := F_H_addOpener nw0_72 g_205 hf_doors r_380
              let nw0_390 : Nat → Int32 := w_393
              let w_402 := F_Te_advance t_length v_199 v_200 v_201 v_202 c_tape
              let nw0_394 : Int32 := w_402.1
              let nw1_395 : Int32 := w_402.2.1
              let nw2_396 : Int32 := w_402.2.2.1
              let nw3_397 : Int32 := w_402.2.2.2.1
              let nw4_398 : Int32 := w_402.2.2.2.2.1
              let nw5_399 : Int64 := w_402.2.2.2.2.2
              G_L113a (v_196 + 1) nw0_394 nw1_395 nw2_396 nw4_398 nw3_397 nw5_399 nw0_378 nw1_379 nw0_390) else (
              let w_409 := F_Te_refuse v_197 v_198 nw0_378 nw1_379 5
              let r_407 : Int32 := w_409.1
              let nw0_405 : Int32 := w_409.2.1
              let nw1_406 : Int32 := w_409.2.2
              (r_407, v_197, v_198, v_199, v_200, v_201, v_202, nw0_405, nw1_406, nw0_68, nw0_72, nw1_73, g_205)))) else (
          let w_375 := F_Te_takeSign t_length v_197 v_198 v_199 v_200 v_201 v_202 v_203 v_204 c_tape 59
          let r_373 : Int32 := w_375.1
          let nw0_365 : Int32 := w_375.2.1
          let nw1_366 : Int32 := w_375.2.2.1
          let nw2_367 : Int32 := w_375.2.2.2.1
          let nw3_368 : Int32 := w_375.2.2.2.2.1
          let nw4_369 : Int32 := w_375.2.2.2.2.2.1
          let nw5_370 : Int64 := w_375.2.2.2.2.2.2.1
          let nw6_371 : Int32 := w_375.2.2.2.2.2.2.2.1
          let nw7_372 : Int32 := w_375.2.2.2.2.2.2.2.2
          (r_373, nw0_365, nw1_366, nw2_367, nw3_368, nw4_369, nw5_370, nw6_371, nw7_372, nw0_68, nw0_72, nw1_73, g_205))))) k9
theorem F_Ho_readDoor_L113a_s (t_length : Int32) (c_tape : Nat → Int32) (c_n_k : Nat → Int64) (hf_keys : Int32) (hf_doors : Int32) (nw0_68 : Nat → Int64) (nw0_72 : Int32) (nw1_73 : Nat → Int32) (n9 : Nat) (v_196 : Int32) (v_197 : Int32) (v_198 : Int32) (v_199 : Int32) (v_200 : Int32) (v_201 : Int32) (v_202 : Int64) (v_203 : Int32) (v_204 : Int32) (g_205 : Nat → Int32) : F_Ho_readDoor_L113a t_length c_tape c_n_k hf_keys hf_doors nw0_68 nw0_72 nw1_73 (n9 + 1) v_196 v_197 v_198 v_199 v_200 v_201 v_202 v_203 v_204 g_205 = (
    if 10 < v_196 then (
      let w_319 := F_Te_takeSign t_length v_197 v_198 v_199 v_200 v_201 v_202 v_203 v_204 c_tape 59
      let r_317 : Int32 := w_319.1
      let nw0_309 : Int32 := w_319.2.1
      let nw1_310 : Int32 := w_319.2.2.1
      let nw2_311 : Int32 := w_319.2.2.2.1
      let nw3_312 : Int32 := w_319.2.2.2.2.1
      let nw4_313 : Int32 := w_319.2.2.2.2.2.1
      let nw5_314 : Int64 := w_319.2.2.2.2.2.2.1
      let nw6_315 : Int32 := w_319.2.2.2.2.2.2.2.1
      let nw7_316 : Int32 := w_319.2.2.2.2.2.2.2.2
      (r_317, nw0_309, nw1_310, nw2_311, nw3_312, nw4_313, nw5_314, nw6_315, nw7_316, nw0_68, nw0_72, nw1_73, g_205)) else (
      if v_196 = 0 then (
        let w_328 := F_HR_thing_k t_length v_197 v_198 v_199 v_202 v_203 v_204 c_tape c_n_k hf_keys
        let r_326 : Int32 := w_328.1
        let nw0_324 : Int32 := w_328.2.1
        let nw1_325 : Int32 := w_328.2.2
        if r_326 = (-1) then (
          ((0 : Int32), v_197, v_198, v_199, v_200, v_201, v_202, nw0_324, nw1_325, nw0_68, nw0_72, nw1_73, g_205)) else (
          let w_333 := F_H_unlocks hf_keys nw0_72 g_205 r_326 hf_doors
          let r_331 : Int32 := w_333
          if r_331 = 0 then (
            let w_339 := F_H_addOpener nw0_72 g_205 hf_doors r_326
            let nw0_336 : Nat → Int32 := w_339
            let w_348 := F_Te_advance t_length v_199 v_200 v_201 v_202 c_tape
            let nw0_340 : Int32 := w_348.1
            let nw1_341 : Int32 := w_348.2.1
            let nw2_342 : Int32 := w_348.2.2.1
            let nw3_343 : Int32 := w_348.2.2.2.1
            let nw4_344 : Int32 := w_348.2.2.2.2.1
            let nw5_345 : Int64 := w_348.2.2.2.2.2
            (F_Ho_readDoor_L113a t_length c_tape c_n_k hf_keys hf_doors nw0_68 nw0_72 nw1_73 n9) (v_196 + 1) nw0_340 nw1_341 nw2_342 nw4_344 nw3_343 nw5_345 nw0_324 nw1_325 nw0_336) else (
            let w_355 := F_Te_refuse v_197 v_198 nw0_324 nw1_325 5
            let r_353 : Int32 := w_355.1
            let nw0_351 : Int32 := w_355.2.1
            let nw1_352 : Int32 := w_355.2.2
            (r_353, v_197, v_198, v_199, v_200, v_201, v_202, nw0_351, nw1_352, nw0_68, nw0_72, nw1_73, g_205)))) else (
        let w_362 := F_Te_isSign v_197 v_201 59
        let r_360 : Int32 := w_362
        if r_360 = 0 then (
          let w_382 := F_HR_thing_k t_length v_197 v_198 v_199 v_202 v_203 v_204 c_tape c_n_k hf_keys
          let r_380 : Int32 := w_382.1
          let nw0_378 : Int32 := w_382.2.1
          let nw1_379 : Int32 := w_382.2.2
          if r_380 = (-1) then (
            ((0 : Int32), v_197, v_198, v_199, v_200, v_201, v_202, nw0_378, nw1_379, nw0_68, nw0_72, nw1_73, g_205)) else (
            let w_387 := F_H_unlocks hf_keys nw0_72 g_205 r_380 hf_doors
            let r_385 : Int32 := w_387
            if r_385 = 0 then (
              let w_393 := F_H_addOpener nw0_72 g_205 hf_doors r_380
              let nw0_390 : Nat → Int32 := w_393
              let w_402 := F_Te_advance t_length v_199 v_200 v_201 v_202 c_tape
              let nw0_394 : Int32 := w_402.1
              let nw1_395 : Int32 := w_402.2.1
              let nw2_396 : Int32 := w_402.2.2.1
              let nw3_397 : Int32 := w_402.2.2.2.1
              let nw4_398 : Int32 := w_402.2.2.2.2.1
              let nw5_399 : Int64 := w_402.2.2.2.2.2
              (F_Ho_readDoor_L113a t_length c_tape c_n_k hf_keys hf_doors nw0_68 nw0_72 nw1_73 n9) (v_196 + 1) nw0_394 nw1_395 nw2_396 nw4_398 nw3_397 nw5_399 nw0_378 nw1_379 nw0_390) else (
              let w_409 := F_Te_refuse v_197 v_198 nw0_378 nw1_379 5
              let r_407 : Int32 := w_409.1
              let nw0_405 : Int32 := w_409.2.1
              let nw1_406 : Int32 := w_409.2.2
              (r_407, v_197, v_198, v_199, v_200, v_201, v_202, nw0_405, nw1_406, nw0_68, nw0_72, nw1_73, g_205)))) else (
          let w_375 := F_Te_takeSign t_length v_197 v_198 v_199 v_200 v_201 v_202 v_203 v_204 c_tape 59
          let r_373 : Int32 := w_375.1
          let nw0_365 : Int32 := w_375.2.1
          let nw1_366 : Int32 := w_375.2.2.1
          let nw2_367 : Int32 := w_375.2.2.2.1
          let nw3_368 : Int32 := w_375.2.2.2.2.1
          let nw4_369 : Int32 := w_375.2.2.2.2.2.1
          let nw5_370 : Int64 := w_375.2.2.2.2.2.2.1
          let nw6_371 : Int32 := w_375.2.2.2.2.2.2.2.1
          let nw7_372 : Int32 := w_375.2.2.2.2.2.2.2.2
          (r_373, nw0_365, nw1_366, nw2_367, nw3_368, nw4_369, nw5_370, nw6_371, nw7_372, nw0_68, nw0_72, nw1_73, g_205))))) := rfl
noncomputable def F_Ho_readDoor (t_length : Int32) (t_kind : Int32) (t_start : Int32) (t_end : Int32) (t_number : Int32) (t_sign : Int32) (t_letters : Int64) (t_fault : Int32) (t_faultPlace : Int32) (c_tape : Nat → Int32) (c_n_f : Nat → Int64) (c_n_k : Nat → Int64) (c_n_r : Nat → Int64) (c_n_d : Nat → Int64) (hf_features : Int32) (hf_keys : Int32) (hf_rings : Int32) (hf_doors : Int32) (c_hf_wanted : Nat → Int32) (c_hf_openers : Nat → Int32) : Int32 × Int32 × Int32 × Int32 × Int32 × Int32 × Int64 × Int32 × Int32 × (Nat → Int64) × Int32 × (Nat → Int32) × (Nat → Int32) :=
  if hf_doors < 5 then (
    let w_11 := F_Te_advance t_length t_end t_number t_sign t_letters c_tape
    let nw0_3 : Int32 := w_11.1
    let nw1_4 : Int32 := w_11.2.1
    let nw2_5 : Int32 := w_11.2.2.1
    let nw3_6 : Int32 := w_11.2.2.2.1
    let nw4_7 : Int32 := w_11.2.2.2.2.1
    let nw5_8 : Int64 := w_11.2.2.2.2.2
    let w_22 := F_Ho_takeNewName t_length nw0_3 nw1_4 nw2_5 nw4_7 nw3_6 nw5_8 t_fault t_faultPlace c_tape c_n_f c_n_k c_n_r c_n_d hf_features hf_keys hf_rings hf_doors
    let r_20 : Int64 := w_22.1
    let nw0_12 : Int32 := w_22.2.1
    let nw1_13 : Int32 := w_22.2.2.1
    let nw2_14 : Int32 := w_22.2.2.2.1
    let nw3_15 : Int32 := w_22.2.2.2.2.1
    let nw4_16 : Int32 := w_22.2.2.2.2.2.1
    let nw5_17 : Int64 := w_22.2.2.2.2.2.2.1
    let nw6_18 : Int32 := w_22.2.2.2.2.2.2.2.1
    let nw7_19 : Int32 := w_22.2.2.2.2.2.2.2.2
    if (lg_cmp r_20 0) = 0 then (
      ((0 : Int32), nw0_12, nw1_13, nw2_14, nw3_15, nw4_16, nw5_17, nw6_18, nw7_19, c_n_d, hf_doors, c_hf_wanted, c_hf_openers)) else (
      let w_37 := F_Te_takeWord t_length nw0_12 nw1_13 nw2_14 nw3_15 nw4_16 nw5_17 nw6_18 nw7_19 c_tape 22
      let r_35 : Int32 := w_37.1
      let nw0_27 : Int32 := w_37.2.1
      let nw1_28 : Int32 := w_37.2.2.1
      let nw2_29 : Int32 := w_37.2.2.2.1
      let nw3_30 : Int32 := w_37.2.2.2.2.1
      let nw4_31 : Int32 := w_37.2.2.2.2.2.1
      let nw5_32 : Int64 := w_37.2.2.2.2.2.2.1
      let nw6_33 : Int32 := w_37.2.2.2.2.2.2.2.1
      let nw7_34 : Int32 := w_37.2.2.2.2.2.2.2.2
      if r_35 = 0 then (
        ((0 : Int32), nw0_27, nw1_28, nw2_29, nw3_30, nw4_31, nw5_32, nw6_33, nw7_34, c_n_d, hf_doors, c_hf_wanted, c_hf_openers)) else (
        let w_50 := F_Te_takeNumber t_length nw0_27 nw1_28 nw2_29 nw3_30 nw4_31 nw5_32 nw6_33 nw7_34 c_tape 0 99
        let r_48 : Int32 := w_50.1
        let nw0_40 : Int32 := w_50.2.1
        let nw1_41 : Int32 := w_50.2.2.1
        let nw2_42 : Int32 := w_50.2.2.2.1
        let nw3_43 : Int32 := w_50.2.2.2.2.1
        let nw4_44 : Int32 := w_50.2.2.2.2.2.1
        let nw5_45 : Int32 := w_50.2.2.2.2.2.2.1
        let nw6_46 : Int32 := w_50.2.2.2.2.2.2.2.1
        let nw7_47 : Int64 := w_50.2.2.2.2.2.2.2.2
        if r_48 = (-1) then (
          ((0 : Int32), nw2_42, nw3_43, nw4_44, nw5_45, nw6_46, nw7_47, nw0_40, nw1_41, c_n_d, hf_doors, c_hf_wanted, c_hf_openers)) else (
          let w_65 := F_Te_takeWord t_length nw2_42 nw3_43 nw4_44 nw5_45 nw6_46 nw7_47 nw0_40 nw1_41 c_tape 23
          let r_63 : Int32 := w_65.1
          let nw0_55 : Int32 := w_65.2.1
          let nw1_56 : Int32 := w_65.2.2.1
          let nw2_57 : Int32 := w_65.2.2.2.1
          let nw3_58 : Int32 := w_65.2.2.2.2.1
          let nw4_59 : Int32 := w_65.2.2.2.2.2.1
          let nw5_60 : Int64 := w_65.2.2.2.2.2.2.1
          let nw6_61 : Int32 := w_65.2.2.2.2.2.2.2.1
          let nw7_62 : Int32 := w_65.2.2.2.2.2.2.2.2
          if r_63 = 0 then (
            ((0 : Int32), nw0_55, nw1_56, nw2_57, nw3_58, nw4_59, nw5_60, nw6_61, nw7_62, c_n_d, hf_doors, c_hf_wanted, c_hf_openers)) else (
            let w_71 := F_keepLongAt_5 c_n_d hf_doors r_20
            let nw0_68 : Nat → Int64 := w_71
            let w_77 := F_H_addDoor hf_doors c_hf_wanted c_hf_openers r_48
            let nw0_72 : Int32 := w_77.1
            let nw1_73 : Nat → Int32 := w_77.2.1
            let nw2_74 : Nat → Int32 := w_77.2.2
            F_Ho_readDoor_L113a t_length c_tape c_n_k hf_keys hf_doors nw0_68 nw0_72 nw1_73 ((2147483647 - (0 : Int32).toInt).toNat + 1) (0 : Int32) nw0_55 nw1_56 nw2_57 nw3_58 nw4_59 nw5_60 nw6_61 nw7_62 nw2_74))))) else (
    let w_423 := F_Te_refuse t_kind t_start t_fault t_faultPlace 6
    let r_421 : Int32 := w_423.1
    let nw0_419 : Int32 := w_423.2.1
    let nw1_420 : Int32 := w_423.2.2
    (r_421, t_kind, t_start, t_end, t_number, t_sign, t_letters, nw0_419, nw1_420, c_n_d, hf_doors, c_hf_wanted, c_hf_openers))
theorem F_Ho_readDoor_s (t_length : Int32) (t_kind : Int32) (t_start : Int32) (t_end : Int32) (t_number : Int32) (t_sign : Int32) (t_letters : Int64) (t_fault : Int32) (t_faultPlace : Int32) (c_tape : Nat → Int32) (c_n_f : Nat → Int64) (c_n_k : Nat → Int64) (c_n_r : Nat → Int64) (c_n_d : Nat → Int64) (hf_features : Int32) (hf_keys : Int32) (hf_rings : Int32) (hf_doors : Int32) (c_hf_wanted : Nat → Int32) (c_hf_openers : Nat → Int32) : F_Ho_readDoor t_length t_kind t_start t_end t_number t_sign t_letters t_fault t_faultPlace c_tape c_n_f c_n_k c_n_r c_n_d hf_features hf_keys hf_rings hf_doors c_hf_wanted c_hf_openers = (
  if hf_doors < 5 then (
    let w_11 := F_Te_advance t_length t_end t_number t_sign t_letters c_tape
    let nw0_3 : Int32 := w_11.1
    let nw1_4 : Int32 := w_11.2.1
    let nw2_5 : Int32 := w_11.2.2.1
    let nw3_6 : Int32 := w_11.2.2.2.1
    let nw4_7 : Int32 := w_11.2.2.2.2.1
    let nw5_8 : Int64 := w_11.2.2.2.2.2
    let w_22 := F_Ho_takeNewName t_length nw0_3 nw1_4 nw2_5 nw4_7 nw3_6 nw5_8 t_fault t_faultPlace c_tape c_n_f c_n_k c_n_r c_n_d hf_features hf_keys hf_rings hf_doors
    let r_20 : Int64 := w_22.1
    let nw0_12 : Int32 := w_22.2.1
    let nw1_13 : Int32 := w_22.2.2.1
    let nw2_14 : Int32 := w_22.2.2.2.1
    let nw3_15 : Int32 := w_22.2.2.2.2.1
    let nw4_16 : Int32 := w_22.2.2.2.2.2.1
    let nw5_17 : Int64 := w_22.2.2.2.2.2.2.1
    let nw6_18 : Int32 := w_22.2.2.2.2.2.2.2.1
    let nw7_19 : Int32 := w_22.2.2.2.2.2.2.2.2
    if (lg_cmp r_20 0) = 0 then (
      ((0 : Int32), nw0_12, nw1_13, nw2_14, nw3_15, nw4_16, nw5_17, nw6_18, nw7_19, c_n_d, hf_doors, c_hf_wanted, c_hf_openers)) else (
      let w_37 := F_Te_takeWord t_length nw0_12 nw1_13 nw2_14 nw3_15 nw4_16 nw5_17 nw6_18 nw7_19 c_tape 22
      let r_35 : Int32 := w_37.1
      let nw0_27 : Int32 := w_37.2.1
      let nw1_28 : Int32 := w_37.2.2.1
      let nw2_29 : Int32 := w_37.2.2.2.1
      let nw3_30 : Int32 := w_37.2.2.2.2.1
      let nw4_31 : Int32 := w_37.2.2.2.2.2.1
      let nw5_32 : Int64 := w_37.2.2.2.2.2.2.1
      let nw6_33 : Int32 := w_37.2.2.2.2.2.2.2.1
      let nw7_34 : Int32 := w_37.2.2.2.2.2.2.2.2
      if r_35 = 0 then (
        ((0 : Int32), nw0_27, nw1_28, nw2_29, nw3_30, nw4_31, nw5_32, nw6_33, nw7_34, c_n_d, hf_doors, c_hf_wanted, c_hf_openers)) else (
        let w_50 := F_Te_takeNumber t_length nw0_27 nw1_28 nw2_29 nw3_30 nw4_31 nw5_32 nw6_33 nw7_34 c_tape 0 99
        let r_48 : Int32 := w_50.1
        let nw0_40 : Int32 := w_50.2.1
        let nw1_41 : Int32 := w_50.2.2.1
        let nw2_42 : Int32 := w_50.2.2.2.1
        let nw3_43 : Int32 := w_50.2.2.2.2.1
        let nw4_44 : Int32 := w_50.2.2.2.2.2.1
        let nw5_45 : Int32 := w_50.2.2.2.2.2.2.1
        let nw6_46 : Int32 := w_50.2.2.2.2.2.2.2.1
        let nw7_47 : Int64 := w_50.2.2.2.2.2.2.2.2
        if r_48 = (-1) then (
          ((0 : Int32), nw2_42, nw3_43, nw4_44, nw5_45, nw6_46, nw7_47, nw0_40, nw1_41, c_n_d, hf_doors, c_hf_wanted, c_hf_openers)) else (
          let w_65 := F_Te_takeWord t_length nw2_42 nw3_43 nw4_44 nw5_45 nw6_46 nw7_47 nw0_40 nw1_41 c_tape 23
          let r_63 : Int32 := w_65.1
          let nw0_55 : Int32 := w_65.2.1
          let nw1_56 : Int32 := w_65.2.2.1
          let nw2_57 : Int32 := w_65.2.2.2.1
          let nw3_58 : Int32 := w_65.2.2.2.2.1
          let nw4_59 : Int32 := w_65.2.2.2.2.2.1
          let nw5_60 : Int64 := w_65.2.2.2.2.2.2.1
          let nw6_61 : Int32 := w_65.2.2.2.2.2.2.2.1
          let nw7_62 : Int32 := w_65.2.2.2.2.2.2.2.2
          if r_63 = 0 then (
            ((0 : Int32), nw0_55, nw1_56, nw2_57, nw3_58, nw4_59, nw5_60, nw6_61, nw7_62, c_n_d, hf_doors, c_hf_wanted, c_hf_openers)) else (
            let w_71 := F_keepLongAt_5 c_n_d hf_doors r_20
            let nw0_68 : Nat → Int64 := w_71
            let w_77 := F_H_addDoor hf_doors c_hf_wanted c_hf_openers r_48
            let nw0_72 : Int32 := w_77.1
            let nw1_73 : Nat → Int32 := w_77.2.1
            let nw2_74 : Nat → Int32 := w_77.2.2
            F_Ho_readDoor_L113a t_length c_tape c_n_k hf_keys hf_doors nw0_68 nw0_72 nw1_73 ((2147483647 - (0 : Int32).toInt).toNat + 1) (0 : Int32) nw0_55 nw1_56 nw2_57 nw3_58 nw4_59 nw5_60 nw6_61 nw7_62 nw2_74))))) else (
    let w_423 := F_Te_refuse t_kind t_start t_fault t_faultPlace 6
    let r_421 : Int32 := w_423.1
    let nw0_419 : Int32 := w_423.2.1
    let nw1_420 : Int32 := w_423.2.2
    (r_421, t_kind, t_start, t_end, t_number, t_sign, t_letters, nw0_419, nw1_420, c_n_d, hf_doors, c_hf_wanted, c_hf_openers))) := rfl
noncomputable def F_Ho_readTurned (hr_turnedTold : Int32) (t_length : Int32) (t_kind : Int32) (t_start : Int32) (t_end : Int32) (t_number : Int32) (t_sign : Int32) (t_letters : Int64) (t_fault : Int32) (t_faultPlace : Int32) (c_tape : Nat → Int32) (hf_turned : Int32) : Int32 × Int32 × Int32 × Int32 × Int32 × Int32 × Int32 × Int64 × Int32 × Int32 × Int32 :=
  if hr_turnedTold = 0 then (
    let w_11 := F_Te_advance t_length t_end t_number t_sign t_letters c_tape
    let nw0_3 : Int32 := w_11.1
    let nw1_4 : Int32 := w_11.2.1
    let nw2_5 : Int32 := w_11.2.2.1
    let nw3_6 : Int32 := w_11.2.2.2.1
    let nw4_7 : Int32 := w_11.2.2.2.2.1
    let nw5_8 : Int64 := w_11.2.2.2.2.2
    let w_22 := F_Te_takeNumber t_length nw0_3 nw1_4 nw2_5 nw4_7 nw3_6 nw5_8 t_fault t_faultPlace c_tape 0 16
    let r_20 : Int32 := w_22.1
    let nw0_12 : Int32 := w_22.2.1
    let nw1_13 : Int32 := w_22.2.2.1
    let nw2_14 : Int32 := w_22.2.2.2.1
    let nw3_15 : Int32 := w_22.2.2.2.2.1
    let nw4_16 : Int32 := w_22.2.2.2.2.2.1
    let nw5_17 : Int32 := w_22.2.2.2.2.2.2.1
    let nw6_18 : Int32 := w_22.2.2.2.2.2.2.2.1
    let nw7_19 : Int64 := w_22.2.2.2.2.2.2.2.2
    if r_20 = (-1) then (
      ((0 : Int32), (1 : Int32), nw2_14, nw3_15, nw4_16, nw5_17, nw6_18, nw7_19, nw0_12, nw1_13, hf_turned)) else (
      let w_35 := F_Te_takeSign t_length nw2_14 nw3_15 nw4_16 nw5_17 nw6_18 nw7_19 nw0_12 nw1_13 c_tape 59
      let r_33 : Int32 := w_35.1
      let nw0_25 : Int32 := w_35.2.1
      let nw1_26 : Int32 := w_35.2.2.1
      let nw2_27 : Int32 := w_35.2.2.2.1
      let nw3_28 : Int32 := w_35.2.2.2.2.1
      let nw4_29 : Int32 := w_35.2.2.2.2.2.1
      let nw5_30 : Int64 := w_35.2.2.2.2.2.2.1
      let nw6_31 : Int32 := w_35.2.2.2.2.2.2.2.1
      let nw7_32 : Int32 := w_35.2.2.2.2.2.2.2.2
      (r_33, (1 : Int32), nw0_25, nw1_26, nw2_27, nw3_28, nw4_29, nw5_30, nw6_31, nw7_32, r_20))) else (
    let w_44 := F_Te_refuse t_kind t_start t_fault t_faultPlace 5
    let r_42 : Int32 := w_44.1
    let nw0_40 : Int32 := w_44.2.1
    let nw1_41 : Int32 := w_44.2.2
    (r_42, hr_turnedTold, t_kind, t_start, t_end, t_number, t_sign, t_letters, nw0_40, nw1_41, hf_turned))
theorem F_Ho_readTurned_s (hr_turnedTold : Int32) (t_length : Int32) (t_kind : Int32) (t_start : Int32) (t_end : Int32) (t_number : Int32) (t_sign : Int32) (t_letters : Int64) (t_fault : Int32) (t_faultPlace : Int32) (c_tape : Nat → Int32) (hf_turned : Int32) : F_Ho_readTurned hr_turnedTold t_length t_kind t_start t_end t_number t_sign t_letters t_fault t_faultPlace c_tape hf_turned = (
  if hr_turnedTold = 0 then (
    let w_11 := F_Te_advance t_length t_end t_number t_sign t_letters c_tape
    let nw0_3 : Int32 := w_11.1
    let nw1_4 : Int32 := w_11.2.1
    let nw2_5 : Int32 := w_11.2.2.1
    let nw3_6 : Int32 := w_11.2.2.2.1
    let nw4_7 : Int32 := w_11.2.2.2.2.1
    let nw5_8 : Int64 := w_11.2.2.2.2.2
    let w_22 := F_Te_takeNumber t_length nw0_3 nw1_4 nw2_5 nw4_7 nw3_6 nw5_8 t_fault t_faultPlace c_tape 0 16
    let r_20 : Int32 := w_22.1
    let nw0_12 : Int32 := w_22.2.1
    let nw1_13 : Int32 := w_22.2.2.1
    let nw2_14 : Int32 := w_22.2.2.2.1
    let nw3_15 : Int32 := w_22.2.2.2.2.1
    let nw4_16 : Int32 := w_22.2.2.2.2.2.1
    let nw5_17 : Int32 := w_22.2.2.2.2.2.2.1
    let nw6_18 : Int32 := w_22.2.2.2.2.2.2.2.1
    let nw7_19 : Int64 := w_22.2.2.2.2.2.2.2.2
    if r_20 = (-1) then (
      ((0 : Int32), (1 : Int32), nw2_14, nw3_15, nw4_16, nw5_17, nw6_18, nw7_19, nw0_12, nw1_13, hf_turned)) else (
      let w_35 := F_Te_takeSign t_length nw2_14 nw3_15 nw4_16 nw5_17 nw6_18 nw7_19 nw0_12 nw1_13 c_tape 59
      let r_33 : Int32 := w_35.1
      let nw0_25 : Int32 := w_35.2.1
      let nw1_26 : Int32 := w_35.2.2.1
      let nw2_27 : Int32 := w_35.2.2.2.1
      let nw3_28 : Int32 := w_35.2.2.2.2.1
      let nw4_29 : Int32 := w_35.2.2.2.2.2.1
      let nw5_30 : Int64 := w_35.2.2.2.2.2.2.1
      let nw6_31 : Int32 := w_35.2.2.2.2.2.2.2.1
      let nw7_32 : Int32 := w_35.2.2.2.2.2.2.2.2
      (r_33, (1 : Int32), nw0_25, nw1_26, nw2_27, nw3_28, nw4_29, nw5_30, nw6_31, nw7_32, r_20))) else (
    let w_44 := F_Te_refuse t_kind t_start t_fault t_faultPlace 5
    let r_42 : Int32 := w_44.1
    let nw0_40 : Int32 := w_44.2.1
    let nw1_41 : Int32 := w_44.2.2
    (r_42, hr_turnedTold, t_kind, t_start, t_end, t_number, t_sign, t_letters, nw0_40, nw1_41, hf_turned))) := rfl
