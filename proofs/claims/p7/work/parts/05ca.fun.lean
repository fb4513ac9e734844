noncomputable def F_longAt_3 (c_a : Nat → Int64) (i : Int32) : Int64 :=
  if i < 0 then (
    (0 : Int64)) else (
    if 3 ≤ i then (
      (0 : Int64)) else (
      let x_9 : Int64 := (c_a (i : Int32).toNatClampNeg)
      x_9))
theorem F_longAt_3_s (c_a : Nat → Int64) (i : Int32) : F_longAt_3 c_a i = (
  if i < 0 then (
    (0 : Int64)) else (
    if 3 ≤ i then (
      (0 : Int64)) else (
      let x_9 : Int64 := (c_a (i : Int32).toNatClampNeg)
      x_9))) := rfl
noncomputable def F_keepLongAt_3 (c_a : Nat → Int64) (i : Int32) (v : Int64) : (Nat → Int64) :=
  if i < 0 then (
    c_a) else (
    if 3 ≤ i then (
      c_a) else (
      let g_9 : Nat → Int64 := (vp_updL c_a (i : Int32).toNatClampNeg v)
      g_9))
theorem F_keepLongAt_3_s (c_a : Nat → Int64) (i : Int32) (v : Int64) : F_keepLongAt_3 c_a i v = (
  if i < 0 then (
    c_a) else (
    if 3 ≤ i then (
      c_a) else (
      let g_9 : Nat → Int64 := (vp_updL c_a (i : Int32).toNatClampNeg v)
      g_9))) := rfl
noncomputable def F_longAt_5 (c_a : Nat → Int64) (i : Int32) : Int64 :=
  if i < 0 then (
    (0 : Int64)) else (
    if 5 ≤ i then (
      (0 : Int64)) else (
      let x_9 : Int64 := (c_a (i : Int32).toNatClampNeg)
      x_9))
theorem F_longAt_5_s (c_a : Nat → Int64) (i : Int32) : F_longAt_5 c_a i = (
  if i < 0 then (
    (0 : Int64)) else (
    if 5 ≤ i then (
      (0 : Int64)) else (
      let x_9 : Int64 := (c_a (i : Int32).toNatClampNeg)
      x_9))) := rfl
noncomputable def F_keepLongAt_5 (c_a : Nat → Int64) (i : Int32) (v : Int64) : (Nat → Int64) :=
  if i < 0 then (
    c_a) else (
    if 5 ≤ i then (
      c_a) else (
      let g_9 : Nat → Int64 := (vp_updL c_a (i : Int32).toNatClampNeg v)
      g_9))
theorem F_keepLongAt_5_s (c_a : Nat → Int64) (i : Int32) (v : Int64) : F_keepLongAt_5 c_a i v = (
  if i < 0 then (
    c_a) else (
    if 5 ≤ i then (
      c_a) else (
      let g_9 : Nat → Int64 := (vp_updL c_a (i : Int32).toNatClampNeg v)
      g_9))) := rfl
noncomputable def F_longAt_10 (c_a : Nat → Int64) (i : Int32) : Int64 :=
  if i < 0 then (
    (0 : Int64)) else (
    if 10 ≤ i then (
      (0 : Int64)) else (
      let x_9 : Int64 := (c_a (i : Int32).toNatClampNeg)
      x_9))
theorem F_longAt_10_s (c_a : Nat → Int64) (i : Int32) : F_longAt_10 c_a i = (
  if i < 0 then (
    (0 : Int64)) else (
    if 10 ≤ i then (
      (0 : Int64)) else (
      let x_9 : Int64 := (c_a (i : Int32).toNatClampNeg)
      x_9))) := rfl
noncomputable def F_keepLongAt_10 (c_a : Nat → Int64) (i : Int32) (v : Int64) : (Nat → Int64) :=
  if i < 0 then (
    c_a) else (
    if 10 ≤ i then (
      c_a) else (
      let g_9 : Nat → Int64 := (vp_updL c_a (i : Int32).toNatClampNeg v)
      g_9))
theorem F_keepLongAt_10_s (c_a : Nat → Int64) (i : Int32) (v : Int64) : F_keepLongAt_10 c_a i v = (
  if i < 0 then (
    c_a) else (
    if 10 ≤ i then (
      c_a) else (
      let g_9 : Nat → Int64 := (vp_updL c_a (i : Int32).toNatClampNeg v)
      g_9))) := rfl
noncomputable def F_longAt_20 (c_a : Nat → Int64) (i : Int32) : Int64 :=
  if i < 0 then (
    (0 : Int64)) else (
    if 20 ≤ i then (
      (0 : Int64)) else (
      let x_9 : Int64 := (c_a (i : Int32).toNatClampNeg)
      x_9))
theorem F_longAt_20_s (c_a : Nat → Int64) (i : Int32) : F_longAt_20 c_a i = (
  if i < 0 then (
    (0 : Int64)) else (
    if 20 ≤ i then (
      (0 : Int64)) else (
      let x_9 : Int64 := (c_a (i : Int32).toNatClampNeg)
      x_9))) := rfl
noncomputable def F_keepLongAt_20 (c_a : Nat → Int64) (i : Int32) (v : Int64) : (Nat → Int64) :=
  if i < 0 then (
    c_a) else (
    if 20 ≤ i then (
      c_a) else (
      let g_9 : Nat → Int64 := (vp_updL c_a (i : Int32).toNatClampNeg v)
      g_9))
theorem F_keepLongAt_20_s (c_a : Nat → Int64) (i : Int32) (v : Int64) : F_keepLongAt_20 c_a i v = (
  if i < 0 then (
    c_a) else (
    if 20 ≤ i then (
      c_a) else (
      let g_9 : Nat → Int64 := (vp_updL c_a (i : Int32).toNatClampNeg v)
      g_9))) := rfl
noncomputable def F_longAt_60 (c_a : Nat → Int64) (i : Int32) : Int64 :=
  if i < 0 then (
    (0 : Int64)) else (
    if 60 ≤ i then (
      (0 : Int64)) else (
      let x_9 : Int64 := (c_a (i : Int32).toNatClampNeg)
      x_9))
theorem F_longAt_60_s (c_a : Nat → Int64) (i : Int32) : F_longAt_60 c_a i = (
  if i < 0 then (
    (0 : Int64)) else (
    if 60 ≤ i then (
      (0 : Int64)) else (
      let x_9 : Int64 := (c_a (i : Int32).toNatClampNeg)
      x_9))) := rfl
noncomputable def F_keepLongAt_60 (c_a : Nat → Int64) (i : Int32) (v : Int64) : (Nat → Int64) :=
  if i < 0 then (
    c_a) else (
    if 60 ≤ i then (
      c_a) else (
      let g_9 : Nat → Int64 := (vp_updL c_a (i : Int32).toNatClampNeg v)
      g_9))
theorem F_keepLongAt_60_s (c_a : Nat → Int64) (i : Int32) (v : Int64) : F_keepLongAt_60 c_a i v = (
  if i < 0 then (
    c_a) else (
    if 60 ≤ i then (
      c_a) else (
      let g_9 : Nat → Int64 := (vp_updL c_a (i : Int32).toNatClampNeg v)
      g_9))) := rfl
noncomputable def F_longAt_100 (c_a : Nat → Int64) (i : Int32) : Int64 :=
  if i < 0 then (
    (0 : Int64)) else (
    if 100 ≤ i then (
      (0 : Int64)) else (
      let x_9 : Int64 := (c_a (i : Int32).toNatClampNeg)
      x_9))
theorem F_longAt_100_s (c_a : Nat → Int64) (i : Int32) : F_longAt_100 c_a i = (
  if i < 0 then (
    (0 : Int64)) else (
    if 100 ≤ i then (
      (0 : Int64)) else (
      let x_9 : Int64 := (c_a (i : Int32).toNatClampNeg)
      x_9))) := rfl
noncomputable def F_keepLongAt_100 (c_a : Nat → Int64) (i : Int32) (v : Int64) : (Nat → Int64) :=
  if i < 0 then (
    c_a) else (
    if 100 ≤ i then (
      c_a) else (
      let g_9 : Nat → Int64 := (vp_updL c_a (i : Int32).toNatClampNeg v)
      g_9))
theorem F_keepLongAt_100_s (c_a : Nat → Int64) (i : Int32) (v : Int64) : F_keepLongAt_100 c_a i v = (
  if i < 0 then (
    c_a) else (
    if 100 ≤ i then (
      c_a) else (
      let g_9 : Nat → Int64 := (vp_updL c_a (i : Int32).toNatClampNeg v)
      g_9))) := rfl
noncomputable def F_fill_l_L6a (l1 : Int64) : Nat → Int32 → (Nat → Int64) → (Nat → Int64) := fun k9 => Nat.rec (motive := fun _ => Int32 → (Nat → Int64) → (Nat → Int64)) (fun _ _ => default) (fun _ (G_L6a : Int32 → (Nat → Int64) → (Nat → Int64)) => fun (v_8 : Int32) (g_9 : Nat → Int64) =>
    if 60 ≤ v_8 then (
      g_9) else (
      let g_21 : Nat → Int64 := (vp_updL g_9 (v_8 : Int32).toNatClampNeg l1)
      G_L6a (v_8 + 1) g_21)) k9
theorem F_fill_l_L6a_s (l1 : Int64) (n9 : Nat) (v_8 : Int32) (g_9 : Nat → Int64) : F_fill_l_L6a l1 (n9 + 1) v_8 g_9 = (
    if 60 ≤ v_8 then (
      g_9) else (
      let g_21 : Nat → Int64 := (vp_updL g_9 (v_8 : Int32).toNatClampNeg l1)
      (F_fill_l_L6a l1 n9) (v_8 + 1) g_21)) := rfl
noncomputable def F_fill_l (c_a : Nat → Int64) (l1 : Int64) : (Nat → Int64) :=
  F_fill_l_L6a l1 ((2147483647 - (0 : Int32).toInt).toNat + 1) (0 : Int32) c_a
theorem F_fill_l_s (c_a : Nat → Int64) (l1 : Int64) : F_fill_l c_a l1 = (
  F_fill_l_L6a l1 ((2147483647 - (0 : Int32).toInt).toNat + 1) (0 : Int32) c_a) := rfl
noncomputable def F_Tr_isMissing (T0_many : Int32) : Int32 :=
  if T0_many = (-1) then (
    (1 : Int32)) else (
    (0 : Int32))
theorem F_Tr_isMissing_s (T0_many : Int32) : F_Tr_isMissing T0_many = (
  if T0_many = (-1) then (
    (1 : Int32)) else (
    (0 : Int32))) := rfl
noncomputable def F_Tr_hasPlace (T0_many : Int32) (k : Int32) : Int32 :=
  if k < 0 then (
    (0 : Int32)) else (
    if T0_many ≤ k then (
      (0 : Int32)) else (
      (1 : Int32)))
theorem F_Tr_hasPlace_s (T0_many : Int32) (k : Int32) : F_Tr_hasPlace T0_many k = (
  if k < 0 then (
    (0 : Int32)) else (
    if T0_many ≤ k then (
      (0 : Int32)) else (
      (1 : Int32)))) := rfl
noncomputable def F_Tr_hasPlaces (T0_many : Int32) (k : Int32) (j : Int32) : Int32 :=
  if k < 0 then (
    (0 : Int32)) else (
    if j < 0 then (
      (0 : Int32)) else (
      let x_9 : Int32 := (T0_many - j)
      if x_9 < k then (
        (0 : Int32)) else (
        (1 : Int32))))
theorem F_Tr_hasPlaces_s (T0_many : Int32) (k : Int32) (j : Int32) : F_Tr_hasPlaces T0_many k j = (
  if k < 0 then (
    (0 : Int32)) else (
    if j < 0 then (
      (0 : Int32)) else (
      let x_9 : Int32 := (T0_many - j)
      if x_9 < k then (
        (0 : Int32)) else (
        (1 : Int32))))) := rfl
noncomputable def F_Tr_numberAt (c_R0 : Nat → Int64) (k : Int32) : Int64 :=
  let w_3 := F_longAt_60 c_R0 k
  let r_1 : Int64 := w_3
  r_1
theorem F_Tr_numberAt_s (c_R0 : Nat → Int64) (k : Int32) : F_Tr_numberAt c_R0 k = (
  let w_3 := F_longAt_60 c_R0 k
  let r_1 : Int64 := w_3
  r_1) := rfl
noncomputable def F_Tr_cut (T0_sort : Int32) (l1 : Int64) : Int64 :=
  if T0_sort.toInt = 0 then (
    let x_3 : Int32 := ((l1).toInt32)
    let x_4 : Int32 := ((x_3).toInt8.toInt32)
    let x_5 : Int64 := ((x_4).toInt64)
    x_5) else
  if T0_sort.toInt = 1 then (
    let x_7 : Int32 := ((l1).toInt32)
    let x_8 : Int32 := ((x_7).toInt16.toInt32)
    let x_9 : Int64 := ((x_8).toInt64)
    x_9) else
  if T0_sort.toInt = 2 then (
    let x_11 : Int32 := ((l1).toInt32)
    let x_12 : Int64 := ((x_11).toInt64)
    x_12) else
  (
    l1)
theorem F_Tr_cut_s (T0_sort : Int32) (l1 : Int64) : F_Tr_cut T0_sort l1 = (
  if T0_sort.toInt = 0 then (
    let x_3 : Int32 := ((l1).toInt32)
    let x_4 : Int32 := ((x_3).toInt8.toInt32)
    let x_5 : Int64 := ((x_4).toInt64)
    x_5) else
  if T0_sort.toInt = 1 then (
    let x_7 : Int32 := ((l1).toInt32)
    let x_8 : Int32 := ((x_7).toInt16.toInt32)
    let x_9 : Int64 := ((x_8).toInt64)
    x_9) else
  if T0_sort.toInt = 2 then (
    let x_11 : Int32 := ((l1).toInt32)
    let x_12 : Int64 := ((x_11).toInt64)
    x_12) else
  (
    l1)) := rfl
noncomputable def F_Tr_keep (T0_sort : Int32) (c_R0 : Nat → Int64) (k : Int32) (l1 : Int64) : (Nat → Int64) :=
  let w_3 := F_Tr_cut T0_sort l1
  let r_1 : Int64 := w_3
  let w_7 := F_keepLongAt_60 c_R0 k r_1
  let nw0_4 : Nat → Int64 := w_7
  nw0_4
theorem F_Tr_keep_s (T0_sort : Int32) (c_R0 : Nat → Int64) (k : Int32) (l1 : Int64) : F_Tr_keep T0_sort c_R0 k l1 = (
  let w_3 := F_Tr_cut T0_sort l1
  let r_1 : Int64 := w_3
  let w_7 := F_keepLongAt_60 c_R0 k r_1
  let nw0_4 : Nat → Int64 := w_7
  nw0_4) := rfl
noncomputable def F_Tr_fresh (c_R0 : Nat → Int64) (k : Int32) (j : Int32) : Int32 × Int32 × (Nat → Int64) :=
  let w_4 := F_fill_l c_R0 0
  let nw0_1 : Nat → Int64 := w_4
  (k, j, nw0_1)
theorem F_Tr_fresh_s (c_R0 : Nat → Int64) (k : Int32) (j : Int32) : F_Tr_fresh c_R0 k j = (
  let w_4 := F_fill_l c_R0 0
  let nw0_1 : Nat → Int64 := w_4
  (k, j, nw0_1)) := rfl
noncomputable def F_Tr_copyFrom (T0_many : Int32) (c_R0 : Nat → Int64) (T1_many : Int32) (c_R1 : Nat → Int64) (i1 : Int32) (i2 : Int32) (i3 : Int32) : (Nat → Int64) :=
  let w_3 := F_Tr_hasPlaces T1_many i1 i3
  let r_1 : Int32 := w_3
  if r_1 = 0 then (
    c_R0) else (
    let w_10 := F_Tr_hasPlaces T0_many i2 i3
    let r_8 : Int32 := w_10
    if r_8 = 0 then (
      c_R0) else (
      let g_15 : Nat → Int64 := (va_cpy c_R1 c_R0 (i1 : Int32).toNatClampNeg (i2 : Int32).toNatClampNeg (i3 : Int32).toNatClampNeg)
      g_15))
theorem F_Tr_copyFrom_s (T0_many : Int32) (c_R0 : Nat → Int64) (T1_many : Int32) (c_R1 : Nat → Int64) (i1 : Int32) (i2 : Int32) (i3 : Int32) : F_Tr_copyFrom T0_many c_R0 T1_many c_R1 i1 i2 i3 = (
  let w_3 := F_Tr_hasPlaces T1_many i1 i3
  let r_1 : Int32 := w_3
  if r_1 = 0 then (
    c_R0) else (
    let w_10 := F_Tr_hasPlaces T0_many i2 i3
    let r_8 : Int32 := w_10
    if r_8 = 0 then (
      c_R0) else (
      let g_15 : Nat → Int64 := (va_cpy c_R1 c_R0 (i1 : Int32).toNatClampNeg (i2 : Int32).toNatClampNeg (i3 : Int32).toNatClampNeg)
      g_15))) := rfl
noncomputable def F_Tr_copyFrom_same (T0_many : Int32) (c_R0 : Nat → Int64) (i1 : Int32) (i2 : Int32) (i3 : Int32) : (Nat → Int64) :=
  let w_3 := F_Tr_hasPlaces T0_many i1 i3
  let r_1 : Int32 := w_3
  if r_1 = 0 then (
    c_R0) else (
    let w_10 := F_Tr_hasPlaces T0_many i2 i3
    let r_8 : Int32 := w_10
    if r_8 = 0 then (
      c_R0) else (
      let g_15 : Nat → Int64 := (va_cpy c_R0 c_R0 (i1 : Int32).toNatClampNeg (i2 : Int32).toNatClampNeg (i3 : Int32).toNatClampNeg)
      g_15))
theorem F_Tr_copyFrom_same_s (T0_many : Int32) (c_R0 : Nat → Int64) (i1 : Int32) (i2 : Int32) (i3 : Int32) : F_Tr_copyFrom_same T0_many c_R0 i1 i2 i3 = (
  let w_3 := F_Tr_hasPlaces T0_many i1 i3
  let r_1 : Int32 := w_3
  if r_1 = 0 then (
    c_R0) else (
    let w_10 := F_Tr_hasPlaces T0_many i2 i3
    let r_8 : Int32 := w_10
    if r_8 = 0 then (
      c_R0) else (
      let g_15 : Nat → Int64 := (va_cpy c_R0 c_R0 (i1 : Int32).toNatClampNeg (i2 : Int32).toNatClampNeg (i3 : Int32).toNatClampNeg)
      g_15))) := rfl
noncomputable def F_X_tray (T0_sort : Int32) (T0_many : Int32) (c_R0 : Nat → Int64) (T1_sort : Int32) (T1_many : Int32) (c_R1 : Nat → Int64) (T2_sort : Int32) (T2_many : Int32) (c_R2 : Nat → Int64) (T3_sort : Int32) (T3_many : Int32) (c_R3 : Nat → Int64) (k1 : Int32) (k2 : Int32) (k3 : Int32) : Int32 × Int32 × Int32 × (Nat → Int64) × Int32 × Int32 × (Nat → Int64) × Int32 × Int32 × (Nat → Int64) × Int32 × Int32 × (Nat → Int64) :=
  if (k1.toInt < 0 ∨ 4 ≤ k1.toInt) then (
    ((0 : Int32), T0_sort, T0_many, c_R0, T1_sort, T1_many, c_R1, T2_sort, T2_many, c_R2, T3_sort, T3_many, c_R3)) else
  if k1.toInt = 0 then (
    if k2 < 0 then (
      ((0 : Int32), T0_sort, T0_many, c_R0, T1_sort, T1_many, c_R1, T2_sort, T2_many, c_R2, T3_sort, T3_many, c_R3)) else (
      if k2 ≤ 3 then (
        if k3 ≤ 60 then (
          if 0 ≤ k3 then (
            let w_25 := F_Tr_fresh c_R0 k2 k3
            let nw0_20 : Int32 := w_25.1
            let nw1_21 : Int32 := w_25.2.1
            let nw2_22 : Nat → Int64 := w_25.2.2
            ((1 : Int32), nw0_20, nw1_21, nw2_22, T1_sort, T1_many, c_R1, T2_sort, T2_many, c_R2, T3_sort, T3_many, c_R3)) else (
            ((0 : Int32), T0_sort, T0_many, c_R0, T1_sort, T1_many, c_R1, T2_sort, T2_many, c_R2, T3_sort, T3_many, c_R3))) else (
          ((0 : Int32), T0_sort, T0_many, c_R0, T1_sort, T1_many, c_R1, T2_sort, T2_many, c_R2, T3_sort, T3_many, c_R3))) else (
        ((0 : Int32), T0_sort, T0_many, c_R0, T1_sort, T1_many, c_R1, T2_sort, T2_many, c_R2, T3_sort, T3_many, c_R3)))) else
  if k1.toInt = 1 then (
    if k2 < 0 then (
      ((0 : Int32), T0_sort, T0_many, c_R0, T1_sort, T1_many, c_R1, T2_sort, T2_many, c_R2, T3_sort, T3_many, c_R3)) else (
      if k2 ≤ 3 then (
        if k3 ≤ 60 then (
          if 0 ≤ k3 then (
            let w_63 := F_Tr_fresh c_R1 k2 k3
            let nw0_58 : Int32 := w_63.1
            let nw1_59 : Int32 := w_63.2.1
            let nw2_60 : Nat → Int64 := w_63.2.2
            ((1 : Int32), T0_sort, T0_many, c_R0, nw0_58, nw1_59, nw2_60, T2_sort, T2_many, c_R2, T3_sort, T3_many, c_R3)) else (
            ((0 : Int32), T0_sort, T0_many, c_R0, T1_sort, T1_many, c_R1, T2_sort, T2_many, c_R2, T3_sort, T3_many, c_R3))) else (
          ((0 : Int32), T0_sort, T0_many, c_R0, T1_sort, T1_many, c_R1, T2_sort, T2_many, c_R2, T3_sort, T3_many, c_R3))) else (
        ((0 : Int32), T0_sort, T0_many, c_R0, T1_sort, T1_many, c_R1, T2_sort, T2_many, c_R2, T3_sort, T3_many, c_R3)))) else
  if k1.toInt = 2 then (
    if k2 < 0 then (
      ((0 : Int32), T0_sort, T0_many, c_R0, T1_sort, T1_many, c_R1, T2_sort, T2_many, c_R2, T3_sort, T3_many, c_R3)) else (
      if k2 ≤ 3 then (
        if k3 ≤ 60 then (
          if 0 ≤ k3 then (
            let w_101 := F_Tr_fresh c_R2 k2 k3
            let nw0_96 : Int32 := w_101.1
            let nw1_97 : Int32 := w_101.2.1
            let nw2_98 : Nat → Int64 := w_101.2.2
            ((1 : Int32), T0_sort, T0_many, c_R0, T1_sort, T1_many, c_R1, nw0_96, nw1_97, nw2_98, T3_sort, T3_many, c_R3)) else (
            ((0 : Int32), T0_sort, T0_many, c_R0, T1_sort, T1_many, c_R1, T2_sort, T2_many, c_R2, T3_sort, T3_many, c_R3))) else (
          ((0 : Int32), T0_sort, T0_many, c_R0, T1_sort, T1_many, c_R1, T2_sort, T2_many, c_R2, T3_sort, T3_many, c_R3))) else (
        ((0 : Int32), T0_sort, T0_many, c_R0, T1_sort, T1_many, c_R1, T2_sort, T2_many, c_R2, T3_sort, T3_many, c_R3)))) else
  (
    if k2 < 0 then (
      ((0 : Int32), T0_sort, T0_many, c_R0, T1_sort, T1_many, c_R1, T2_sort, T2_many, c_R2, T3_sort, T3_many, c_R3)) else (
      if k2 ≤ 3 then (
        if k3 ≤ 60 then (
          if 0 ≤ k3 then (
            let w_139 := F_Tr_fresh c_R3 k2 k3
            let nw0_134 : Int32 := w_139.1
            let nw1_135 : Int32 := w_139.2.1
            let nw2_136 : Nat → Int64 := w_139.2.2
            ((1 : Int32), T0_sort, T0_many, c_R0, T1_sort, T1_many, c_R1, T2_sort, T2_many, c_R2, nw0_134, nw1_135, nw2_136)) else (
            ((0 : Int32), T0_sort, T0_many, c_R0, T1_sort, T1_many, c_R1, T2_sort, T2_many, c_R2, T3_sort, T3_many, c_R3))) else (
          ((0 : Int32), T0_sort, T0_many, c_R0, T1_sort, T1_many, c_R1, T2_sort, T2_many, c_R2, T3_sort, T3_many, c_R3))) else (
        ((0 : Int32), T0_sort, T0_many, c_R0, T1_sort, T1_many, c_R1, T2_sort, T2_many, c_R2, T3_sort, T3_many, c_R3))))
theorem F_X_tray_s (T0_sort : Int32) (T0_many : Int32) (c_R0 : Nat → Int64) (T1_sort : Int32) (T1_many : Int32) (c_R1 : Nat → Int64) (T2_sort : Int32) (T2_many : Int32) (c_R2 : Nat → Int64) (T3_sort : Int32) (T3_many : Int32) (c_R3 : Nat → Int64) (k1 : Int32) (k2 : Int32) (k3 : Int32) : F_X_tray T0_sort T0_many c_R0 T1_sort T1_many c_R1 T2_sort T2_many c_R2 T3_sort T3_many c_R3 k1 k2 k3 = (
  if (k1.toInt < 0 ∨ 4 ≤ k1.toInt) then (
    ((0 : Int32), T0_sort, T0_many, c_R0, T1_sort, T1_many, c_R1, T2_sort, T2_many, c_R2, T3_sort, T3_many, c_R3)) else
  if k1.toInt = 0 then (
    if k2 < 0 then (
      ((0 : Int32), T0_sort, T0_many, c_R0, T1_sort, T1_many, c_R1, T2_sort, T2_many, c_R2, T3_sort, T3_many, c_R3)) else (
      if k2 ≤ 3 then (
        if k3 ≤ 60 then (
          if 0 ≤ k3 then (
            let w_25 := F_Tr_fresh c_R0 k2 k3
            let nw0_20 : Int32 := w_25.1
            let nw1_21 : Int32 := w_25.2.1
            let nw2_22 : Nat → Int64 := w_25.2.2
            ((1 : Int32), nw0_20, nw1_21, nw2_22, T1_sort, T1_many, c_R1, T2_sort, T2_many, c_R2, T3_sort, T3_many, c_R3)) else (
            ((0 : Int32), T0_sort, T0_many, c_R0, T1_sort, T1_many, c_R1, T2_sort, T2_many, c_R2, T3_sort, T3_many, c_R3))) else (
          ((0 : Int32), T0_sort, T0_many, c_R0, T1_sort, T1_many, c_R1, T2_sort, T2_many, c_R2, T3_sort, T3_many, c_R3))) else (
        ((0 : Int32), T0_sort, T0_many, c_R0, T1_sort, T1_many, c_R1, T2_sort, T2_many, c_R2, T3_sort, T3_many, c_R3)))) else
  if k1.toInt = 1 then (
    if k2 < 0 then (
      ((0 : Int32), T0_sort, T0_many, c_R0, T1_sort, T1_many, c_R1, T2_sort, T2_many, c_R2, T3_sort, T3_many, c_R3)) else (
      if k2 ≤ 3 then (
        if k3 ≤ 60 then (
          if 0 ≤ k3 then (
            let w_63 := F_Tr_fresh c_R1 k2 k3
            let nw0_58 : Int32 := w_63.1
            let nw1_59 : Int32 := w_63.2.1
            let nw2_60 : Nat → Int64 := w_63.2.2
            ((1 : Int32), T0_sort, T0_many, c_R0, nw0_58, nw1_59, nw2_60, T2_sort, T2_many, c_R2, T3_sort, T3_many, c_R3)) else (
            ((0 : Int32), T0_sort, T0_many, c_R0, T1_sort, T1_many, c_R1, T2_sort, T2_many, c_R2, T3_sort, T3_many, c_R3))) else (
          ((0 : Int32), T0_sort, T0_many, c_R0, T1_sort, T1_many, c_R1, T2_sort, T2_many, c_R2, T3_sort, T3_many, c_R3))) else (
        ((0 : Int32), T0_sort, T0_many, c_R0, T1_sort, T1_many, c_R1, T2_sort, T2_many, c_R2, T3_sort, T3_many, c_R3)))) else
  if k1.toInt = 2 then (
    if k2 < 0 then (
      ((0 : Int32), T0_sort, T0_many, c_R0, T1_sort, T1_many, c_R1, T2_sort, T2_many, c_R2, T3_sort, T3_many, c_R3)) else (
      if k2 ≤ 3 then (
        if k3 ≤ 60 then (
          if 0 ≤ k3 then (
            let w_101 := F_Tr_fresh c_R2 k2 k3
            let nw0_96 : Int32 := w_101.1
            let nw1_97 : Int32 := w_101.2.1
            let nw2_98 : Nat → Int64 := w_101.2.2
            ((1 : Int32), T0_sort, T0_many, c_R0, T1_sort, T1_many, c_R1, nw0_96, nw1_97, nw2_98, T3_sort, T3_many, c_R3)) else (
            ((0 : Int32), T0_sort, T0_many, c_R0, T1_sort, T1_many, c_R1, T2_sort, T2_many, c_R2, T3_sort, T3_many, c_R3))) else (
          ((0 : Int32), T0_sort, T0_many, c_R0, T1_sort, T1_many, c_R1, T2_sort, T2_many, c_R2, T3_sort, T3_many, c_R3))) else (
        ((0 : Int32), T0_sort, T0_many, c_R0, T1_sort, T1_many, c_R1, T2_sort, T2_many, c_R2, T3_sort, T3_many, c_R3)))) else
  (
    if k2 < 0 then (
      ((0 : Int32), T0_sort, T0_many, c_R0, T1_sort, T1_many, c_R1, T2_sort, T2_many, c_R2, T3_sort, T3_many, c_R3)) else (
      if k2 ≤ 3 then (
        if k3 ≤ 60 then (
          if 0 ≤ k3 then (
            let w_139 := F_Tr_fresh c_R3 k2 k3
            let nw0_134 : Int32 := w_139.1
            let nw1_135 : Int32 := w_139.2.1
            let nw2_136 : Nat → Int64 := w_139.2.2
            ((1 : Int32), T0_sort, T0_many, c_R0, T1_sort, T1_many, c_R1, T2_sort, T2_many, c_R2, nw0_134, nw1_135, nw2_136)) else (
            ((0 : Int32), T0_sort, T0_many, c_R0, T1_sort, T1_many, c_R1, T2_sort, T2_many, c_R2, T3_sort, T3_many, c_R3))) else (
          ((0 : Int32), T0_sort, T0_many, c_R0, T1_sort, T1_many, c_R1, T2_sort, T2_many, c_R2, T3_sort, T3_many, c_R3))) else (
        ((0 : Int32), T0_sort, T0_many, c_R0, T1_sort, T1_many, c_R1, T2_sort, T2_many, c_R2, T3_sort, T3_many, c_R3))))) := rfl
noncomputable def F_X_write (T0_sort : Int32) (T0_many : Int32) (c_R0 : Nat → Int64) (T1_sort : Int32) (T1_many : Int32) (c_R1 : Nat → Int64) (T2_sort : Int32) (T2_many : Int32) (c_R2 : Nat → Int64) (T3_sort : Int32) (T3_many : Int32) (c_R3 : Nat → Int64) (k1 : Int32) (k2 : Int32) (l1 : Int64) : Int32 × (Nat → Int64) × (Nat → Int64) × (Nat → Int64) × (Nat → Int64) :=
  if (k1.toInt < 0 ∨ 4 ≤ k1.toInt) then (
    ((0 : Int32), c_R0, c_R1, c_R2, c_R3)) else
  if k1.toInt = 0 then (
    let w_9 := F_Tr_isMissing T0_many
    let r_7 : Int32 := w_9
    if r_7 = 0 then (
      let w_14 := F_Tr_hasPlace T0_many k2
      let r_12 : Int32 := w_14
      if r_12 = 0 then (
        ((0 : Int32), c_R0, c_R1, c_R2, c_R3)) else (
        let w_20 := F_Tr_keep T0_sort c_R0 k2 l1
        let nw0_17 : Nat → Int64 := w_20
        ((1 : Int32), nw0_17, c_R1, c_R2, c_R3))) else (
      ((0 : Int32), c_R0, c_R1, c_R2, c_R3))) else
  if k1.toInt = 1 then (
    let w_37 := F_Tr_isMissing T1_many
    let r_35 : Int32 := w_37
    if r_35 = 0 then (
      let w_42 := F_Tr_hasPlace T1_many k2
      let r_40 : Int32 := w_42
      if r_40 = 0 then (
        ((0 : Int32), c_R0, c_R1, c_R2, c_R3)) else (
        let w_48 := F_Tr_keep T1_sort c_R1 k2 l1
        let nw0_45 : Nat → Int64 := w_48
        ((1 : Int32), c_R0, nw0_45, c_R2, c_R3))) else (
      ((0 : Int32), c_R0, c_R1, c_R2, c_R3))) else
  if k1.toInt = 2 then (
    let w_65 := F_Tr_isMissing T2_many
    let r_63 : Int32 := w_65
    if r_63 = 0 then (
      let w_70 := F_Tr_hasPlace T2_many k2
      let r_68 : Int32 := w_70
      if r_68 = 0 then (
        ((0 : Int32), c_R0, c_R1, c_R2, c_R3)) else (
        let w_76 := F_Tr_keep T2_sort c_R2 k2 l1
        let nw0_73 : Nat → Int64 := w_76
        ((1 : Int32), c_R0, c_R1, nw0_73, c_R3))) else (
      ((0 : Int32), c_R0, c_R1, c_R2, c_R3))) else
  (
    let w_93 := F_Tr_isMissing T3_many
    let r_91 : Int32 := w_93
    if r_91 = 0 then (
      let w_98 := F_Tr_hasPlace T3_many k2
      let r_96 : Int32 := w_98
      if r_96 = 0 then (
        ((0 : Int32), c_R0, c_R1, c_R2, c_R3)) else (
        let w_104 := F_Tr_keep T3_sort c_R3 k2 l1
        let nw0_101 : Nat → Int64 := w_104
        ((1 : Int32), c_R0, c_R1, c_R2, nw0_101))) else (
      ((0 : Int32), c_R0, c_R1, c_R2, c_R3)))
theorem F_X_write_s (T0_sort : Int32) (T0_many : Int32) (c_R0 : Nat → Int64) (T1_sort : Int32) (T1_many : Int32) (c_R1 : Nat → Int64) (T2_sort : Int32) (T2_many : Int32) (c_R2 : Nat → Int64) (T3_sort : Int32) (T3_many : Int32) (c_R3 : Nat → Int64) (k1 : Int32) (k2 : Int32) (l1 : Int64) : F_X_write T0_sort T0_many c_R0 T1_sort T1_many c_R1 T2_sort T2_many c_R2 T3_sort T3_many c_R3 k1 k2 l1 = (
  if (k1.toInt < 0 ∨ 4 ≤ k1.toInt) then (
    ((0 : Int32), c_R0, c_R1, c_R2, c_R3)) else
  if k1.toInt = 0 then (
    let w_9 := F_Tr_isMissing T0_many
    let r_7 : Int32 := w_9
    if r_7 = 0 then (
      let w_14 := F_Tr_hasPlace T0_many k2
      let r_12 : Int32 := w_14
      if r_12 = 0 then (
        ((0 : Int32), c_R0, c_R1, c_R2, c_R3)) else (
        let w_20 := F_Tr_keep T0_sort c_R0 k2 l1
        let nw0_17 : Nat → Int64 := w_20
        ((1 : Int32), nw0_17, c_R1, c_R2, c_R3))) else (
      ((0 : Int32), c_R0, c_R1, c_R2, c_R3))) else
  if k1.toInt = 1 then (
    let w_37 := F_Tr_isMissing T1_many
    let r_35 : Int32 := w_37
    if r_35 = 0 then (
      let w_42 := F_Tr_hasPlace T1_many k2
      let r_40 : Int32 := w_42
      if r_40 = 0 then (
        ((0 : Int32), c_R0, c_R1, c_R2, c_R3)) else (
        let w_48 := F_Tr_keep T1_sort c_R1 k2 l1
        let nw0_45 : Nat → Int64 := w_48
        ((1 : Int32), c_R0, nw0_45, c_R2, c_R3))) else (
      ((0 : Int32), c_R0, c_R1, c_R2, c_R3))) else
  if k1.toInt = 2 then (
    let w_65 := F_Tr_isMissing T2_many
    let r_63 : Int32 := w_65
    if r_63 = 0 then (
      let w_70 := F_Tr_hasPlace T2_many k2
      let r_68 : Int32 := w_70
      if r_68 = 0 then (
        ((0 : Int32), c_R0, c_R1, c_R2, c_R3)) else (
        let w_76 := F_Tr_keep T2_sort c_R2 k2 l1
        let nw0_73 : Nat → Int64 := w_76
        ((1 : Int32), c_R0, c_R1, nw0_73, c_R3))) else (
      ((0 : Int32), c_R0, c_R1, c_R2, c_R3))) else
  (
    let w_93 := F_Tr_isMissing T3_many
    let r_91 : Int32 := w_93
    if r_91 = 0 then (
      let w_98 := F_Tr_hasPlace T3_many k2
      let r_96 : Int32 := w_98
      if r_96 = 0 then (
        ((0 : Int32), c_R0, c_R1, c_R2, c_R3)) else (
        let w_104 := F_Tr_keep T3_sort c_R3 k2 l1
        let nw0_101 : Nat → Int64 := w_104
        ((1 : Int32), c_R0, c_R1, c_R2, nw0_101))) else (
      ((0 : Int32), c_R0, c_R1, c_R2, c_R3)))) := rfl
noncomputable def F_X_read (T0_many : Int32) (c_R0 : Nat → Int64) (T1_many : Int32) (c_R1 : Nat → Int64) (T2_many : Int32) (c_R2 : Nat → Int64) (T3_many : Int32) (c_R3 : Nat → Int64) (k1 : Int32) (k2 : Int32) : Int64 :=
  if (k1.toInt < 0 ∨ 4 ≤ k1.toInt) then (
    (-1 : Int64)) else
  if k1.toInt = 0 then (
    let w_9 := F_Tr_isMissing T0_many
    let r_7 : Int32 := w_9
    if r_7 = 0 then (
      let w_14 := F_Tr_hasPlace T0_many k2
      let r_12 : Int32 := w_14
      if r_12 = 0 then (
        (-1 : Int64)) else (
        let w_19 := F_Tr_numberAt c_R0 k2
        let r_17 : Int64 := w_19
        r_17)) else (
      (-1 : Int64))) else
  if k1.toInt = 1 then (
    let w_33 := F_Tr_isMissing T1_many
    let r_31 : Int32 := w_33
    if r_31 = 0 then (
      let w_38 := F_Tr_hasPlace T1_many k2
      let r_36 : Int32 := w_38
      if r_36 = 0 then (
        (-1 : Int64)) else (
        let w_43 := F_Tr_numberAt c_R1 k2
        let r_41 : Int64 := w_43
        r_41)) else (
      (-1 : Int64))) else
  if k1.toInt = 2 then (
    let w_57 := F_Tr_isMissing T2_many
    let r_55 : Int32 := w_57
    if r_55 = 0 then (
      let w_62 := F_Tr_hasPlace T2_many k2
      let r_60 : Int32 := w_62
      if r_60 = 0 then (
        (-1 : Int64)) else (
        let w_67 := F_Tr_numberAt c_R2 k2
        let r_65 : Int64 := w_67
        r_65)) else (
      (-1 : Int64))) else
  (
    let w_81 := F_Tr_isMissing T3_many
    let r_79 : Int32 := w_81
    if r_79 = 0 then (
      let w_86 := F_Tr_hasPlace T3_many k2
      let r_84 : Int32 := w_86
      if r_84 = 0 then (
        (-1 : Int64)) else (
        let w_91 := F_Tr_numberAt c_R3 k2
        let r_89 : Int64 := w_91
        r_89)) else (
      (-1 : Int64)))
theorem F_X_read_s (T0_many : Int32) (c_R0 : Nat → Int64) (T1_many : Int32) (c_R1 : Nat → Int64) (T2_many : Int32) (c_R2 : Nat → Int64) (T3_many : Int32) (c_R3 : Nat → Int64) (k1 : Int32) (k2 : Int32) : F_X_read T0_many c_R0 T1_many c_R1 T2_many c_R2 T3_many c_R3 k1 k2 = (
  if (k1.toInt < 0 ∨ 4 ≤ k1.toInt) then (
    (-1 : Int64)) else
  if k1.toInt = 0 then (
    let w_9 := F_Tr_isMissing T0_many
    let r_7 : Int32 := w_9
    if r_7 = 0 then (
      let w_14 := F_Tr_hasPlace T0_many k2
      let r_12 : Int32 := w_14
      if r_12 = 0 then (
        (-1 : Int64)) else (
        let w_19 := F_Tr_numberAt c_R0 k2
        let r_17 : Int64 := w_19
        r_17)) else (
      (-1 : Int64))) else
  if k1.toInt = 1 then (
    let w_33 := F_Tr_isMissing T1_many
    let r_31 : Int32 := w_33
    if r_31 = 0 then (
      let w_38 := F_Tr_hasPlace T1_many k2
      let r_36 : Int32 := w_38
      if r_36 = 0 then (
        (-1 : Int64)) else (
        let w_43 := F_Tr_numberAt c_R1 k2
        let r_41 : Int64 := w_43
        r_41)) else (
      (-1 : Int64))) else
  if k1.toInt = 2 then (
    let w_57 := F_Tr_isMissing T2_many
    let r_55 : Int32 := w_57
    if r_55 = 0 then (
      let w_62 := F_Tr_hasPlace T2_many k2
      let r_60 : Int32 := w_62
      if r_60 = 0 then (
        (-1 : Int64)) else (
        let w_67 := F_Tr_numberAt c_R2 k2
        let r_65 : Int64 := w_67
        r_65)) else (
      (-1 : Int64))) else
  (
    let w_81 := F_Tr_isMissing T3_many
    let r_79 : Int32 := w_81
    if r_79 = 0 then (
      let w_86 := F_Tr_hasPlace T3_many k2
      let r_84 : Int32 := w_86
      if r_84 = 0 then (
        (-1 : Int64)) else (
        let w_91 := F_Tr_numberAt c_R3 k2
        let r_89 : Int64 := w_91
        r_89)) else (
      (-1 : Int64)))) := rfl
noncomputable def F_X_pour (T0_sort : Int32) (T0_many : Int32) (c_R0 : Nat → Int64) (T1_sort : Int32) (T1_many : Int32) (c_R1 : Nat → Int64) (T2_sort : Int32) (T2_many : Int32) (c_R2 : Nat → Int64) (T3_sort : Int32) (T3_many : Int32) (c_R3 : Nat → Int64) (k1 : Int32) (k2 : Int32) (k3 : Int32) (k4 : Int32) (k5 : Int32) : Int32 × (Nat → Int64) × (Nat → Int64) × (Nat → Int64) × (Nat → Int64) :=
  if (k1.toInt < 0 ∨ 4 ≤ k1.toInt) then (
    if (k3.toInt < 0 ∨ 4 ≤ k3.toInt) then (
      ((0 : Int32), c_R0, c_R1, c_R2, c_R3)) else
    if k3.toInt = 0 then (
      ((0 : Int32), c_R0, c_R1, c_R2, c_R3)) else
    if k3.toInt = 1 then (
      ((0 : Int32), c_R0, c_R1, c_R2, c_R3)) else
    if k3.toInt = 2 then (
      ((0 : Int32), c_R0, c_R1, c_R2, c_R3)) else
    (
      ((0 : Int32), c_R0, c_R1, c_R2, c_R3))) else
  if k1.toInt = 0 then (
    if (k3.toInt < 0 ∨ 4 ≤ k3.toInt) then (
      ((0 : Int32), c_R0, c_R1, c_R2, c_R3)) else
    if k3.toInt = 0 then (
      let w_33 := F_Tr_isMissing T0_many
      let r_31 : Int32 := w_33
      if r_31 = 0 then (
        let w_43 := F_Tr_isMissing T0_many
        let r_41 : Int32 := w_43
        if r_41 = 0 then (
          if 0 ≤ k5 then (
            let w_50 := F_Tr_hasPlaces T0_many k2 k5
            let r_48 : Int32 := w_50
            if r_48 = 0 then (
              ((0 : Int32), c_R0, c_R1, c_R2, c_R3)) else (
              let w_60 := F_Tr_hasPlaces T0_many k4 k5
              let r_58 : Int32 := w_60
              if r_58 = 0 then (
                ((0 : Int32), c_R0, c_R1, c_R2, c_R3)) else (
                let w_66 := F_Tr_copyFrom_same T0_many c_R0 k2 k4 k5
                let nw0_63 : Nat → Int64 := w_66
                ((1 : Int32), nw0_63, c_R1, c_R2, c_R3)))) else (
            ((0 : Int32), c_R0, c_R1, c_R2, c_R3))) else (
          ((0 : Int32), c_R0, c_R1, c_R2, c_R3))) else (
        ((0 : Int32), c_R0, c_R1, c_R2, c_R3))) else
    if k3.toInt = 1 then (
      let w_88 := F_Tr_isMissing T0_many
      let r_86 : Int32 := w_88
      if r_86 = 0 then (
        let w_98 := F_Tr_isMissing T1_many
        let r_96 : Int32 := w_98
        if r_96 = 0 then (
          if T0_sort = T1_sort then (
            if 0 ≤ k5 then (
              let w_107 := F_Tr_hasPlaces T0_many k2 k5
              let r_105 : Int32 := w_107
              if r_105 = 0 then (
                ((0 : Int32), c_R0, c_R1, c_R2, c_R3)) else (
                let w_117 := F_Tr_hasPlaces T1_many k4 k5
                let r_115 : Int32 := w_117
                if r_115 = 0 then (
                  ((0 : Int32), c_R0, c_R1, c_R2, c_R3)) else (
                  let w_123 := F_Tr_copyFrom T1_many c_R1 T0_many c_R0 k2 k4 k5
                  let nw0_120 : Nat → Int64 := w_123
                  ((1 : Int32), c_R0, nw0_120, c_R2, c_R3)))) else (
              ((0 : Int32), c_R0, c_R1, c_R2, c_R3))) else (
            ((0 : Int32), c_R0, c_R1, c_R2, c_R3))) else (
          ((0 : Int32), c_R0, c_R1, c_R2, c_R3))) else (
        ((0 : Int32), c_R0, c_R1, c_R2, c_R3))) else
    if k3.toInt = 2 then (
      let w_150 := F_Tr_isMissing T0_many
      let r_148 : Int32 := w_150
      if r_148 = 0 then (
        let w_160 := F_Tr_isMissing T2_many
        let r_158 : Int32 := w_160
        if r_158 = 0 then (
          if T0_sort = T2_sort then (
            if 0 ≤ k5 then (
              let w_169 := F_Tr_hasPlaces T0_many k2 k5
              let r_167 : Int32 := w_169
              if r_167 = 0 then (
                ((0 : Int32), c_R0, c_R1, c_R2, c_R3)) else (
                let w_179 := F_Tr_hasPlaces T2_many k4 k5
                let r_177 : Int32 := w_179
                if r_177 = 0 then (
                  ((0 : Int32), c_R0, c_R1, c_R2, c_R3)) else (
                  let w_185 := F_Tr_copyFrom T2_many c_R2 T0_many c_R0 k2 k4 k5
                  let nw0_182 : Nat → Int64 := w_185
                  ((1 : Int32), c_R0, c_R1, nw0_182, c_R3)))) else (
              ((0 : Int32), c_R0, c_R1, c_R2, c_R3))) else (
            ((0 : Int32), c_R0, c_R1, c_R2, c_R3))) else (
          ((0 : Int32), c_R0, c_R1, c_R2, c_R3))) else (
        ((0 : Int32), c_R0, c_R1, c_R2, c_R3))) else
    (
      let w_212 := F_Tr_isMissing T0_many
      let r_210 : Int32 := w_212
      if r_210 = 0 then (
        let w_222 := F_Tr_isMissing T3_many
        let r_220 : Int32 := w_222
        if r_220 = 0 then (
          if T0_sort = T3_sort then (
            if 0 ≤ k5 then (
              let w_231 := F_Tr_hasPlaces T0_many k2 k5
              let r_229 : Int32 := w_231
              if r_229 = 0 then (
                ((0 : Int32), c_R0, c_R1, c_R2, c_R3)) else (
                let w_241 := F_Tr_hasPlaces T3_many k4 k5
                let r_239 : Int32 := w_241
                if r_239 = 0 then (
                  ((0 : Int32), c_R0, c_R1, c_R2, c_R3)) else (
                  let w_247 := F_Tr_copyFrom T3_many c_R3 T0_many c_R0 k2 k4 k5
                  let nw0_244 : Nat → Int64 := w_247
                  ((1 : Int32), c_R0, c_R1, c_R2, nw0_244)))) else (
              ((0 : Int32), c_R0, c_R1, c_R2, c_R3))) else (
            ((0 : Int32), c_R0, c_R1, c_R2, c_R3))) else (
          ((0 : Int32), c_R0, c_R1, c_R2, c_R3))) else (
        ((0 : Int32), c_R0, c_R1, c_R2, c_R3)))) else
  if k1.toInt = 1 then (
    if (k3.toInt < 0 ∨ 4 ≤ k3.toInt) then (
      ((0 : Int32), c_R0, c_R1, c_R2, c_R3)) else
    if k3.toInt = 0 then (
      let w_280 := F_Tr_isMissing T1_many
      let r_278 : Int32 := w_280
      if r_278 = 0 then (
        let w_290 := F_Tr_isMissing T0_many
        let r_288 : Int32 := w_290
        if r_288 = 0 then (
          if T1_sort = T0_sort then (
            if 0 ≤ k5 then (
              let w_299 := F_Tr_hasPlaces T1_many k2 k5
              let r_297 : Int32 := w_299
              if r_297 = 0 then (
                ((0 : Int32), c_R0, c_R1, c_R2, c_R3)) else (
                let w_309 := F_Tr_hasPlaces T0_many k4 k5
                let r_307 : Int32 := w_309
                if r_307 = 0 then (
                  ((0 : Int32), c_R0, c_R1, c_R2, c_R3)) else (
                  let w_315 := F_Tr_copyFrom T0_many c_R0 T1_many c_R1 k2 k4 k5
                  let nw0_312 : Nat → Int64 := w_315
                  ((1 : Int32), nw0_312, c_R1, c_R2, c_R3)))) else (
              ((0 : Int32), c_R0, c_R1, c_R2, c_R3))) else (
            ((0 : Int32), c_R0, c_R1, c_R2, c_R3))) else (
          ((0 : Int32), c_R0, c_R1, c_R2, c_R3))) else (
        ((0 : Int32), c_R0, c_R1, c_R2, c_R3))) else
    if k3.toInt = 1 then (
      let w_342 := F_Tr_isMissing T1_many
      let r_340 : Int32 := w_342
      if r_340 = 0 then (
        let w_352 := F_Tr_isMissing T1_many
        let r_350 : Int32 := w_352
        if r_350 = 0 then (
          if 0 ≤ k5 then (
            let w_359 := F_Tr_hasPlaces T1_many k2 k5
            let r_357 : Int32 := w_359
            if r_357 = 0 then (
              ((0 : Int32), c_R0, c_R1, c_R2, c_R3)) else (
              let w_369 := F_Tr_hasPlaces T1_many k4 k5
              let r_367 : Int32 := w_369
              if r_367 = 0 then (
                ((0 : Int32), c_R0, c_R1, c_R2, c_R3)) else (
                let w_375 := F_Tr_copyFrom_same T1_many c_R1 k2 k4 k5
                let nw0_372 : Nat → Int64 := w_375
                ((1 : Int32), c_R0, nw0_372, c_R2, c_R3)))) else (
            ((0 : Int32), c_R0, c_R1, c_R2, c_R3))) else (
          ((0 : Int32), c_R0, c_R1, c_R2, c_R3))) else (
        ((0 : Int32), c_R0, c_R1, c_R2, c_R3))) else
    if k3.toInt = 2 then (
      let w_397 := F_Tr_isMissing T1_many
      let r_395 : Int32 := w_397
      if r_395 = 0 then (
        let w_407 := F_Tr_isMissing T2_many
        let r_405 : Int32 := w_407
        if r_405 = 0 then (
          if T1_sort = T2_sort then (
            if 0 ≤ k5 then (
              let w_416 := F_Tr_hasPlaces T1_many k2 k5
              let r_414 : Int32 := w_416
              if r_414 = 0 then (
                ((0 : Int32), c_R0, c_R1, c_R2, c_R3)) else (
                let w_426 := F_Tr_hasPlaces T2_many k4 k5
                let r_424 : Int32 := w_426
                if r_424 = 0 then (
                  ((0 : Int32), c_R0, c_R1, c_R2, c_R3)) else (
                  let w_432 := F_Tr_copyFrom T2_many c_R2 T1_many c_R1 k2 k4 k5
                  let nw0_429 : Nat → Int64 := w_432
                  ((1 : Int32), c_R0, c_R1, nw0_429, c_R3)))) else (
              ((0 : Int32), c_R0, c_R1, c_R2, c_R3))) else (
            ((0 : Int32), c_R0, c_R1, c_R2, c_R3))) else (
          ((0 : Int32), c_R0, c_R1, c_R2, c_R3))) else (
        ((0 : Int32), c_R0, c_R1, c_R2, c_R3))) else
    (
      let w_459 := F_Tr_isMissing T1_many
      let r_457 : Int32 := w_459
      if r_457 = 0 then (
        let w_469 := F_Tr_isMissing T3_many
        let r_467 : Int32 := w_469
        if r_467 = 0 then (
          if T1_sort = T3_sort then (
            if 0 ≤ k5 then (
              let w_478 := F_Tr_hasPlaces T1_many k2 k5
              let r_476 : Int32 := w_478
              if r_476 = 0 then (
                ((0 : Int32), c_R0, c_R1, c_R2, c_R3)) else (
                let w_488 := F_Tr_hasPlaces T3_many k4 k5
                let r_486 : Int32 := w_488
                if r_486 = 0 then (
                  ((0 : Int32), c_R0, c_R1, c_R2, c_R3)) else (
                  let w_494 := F_Tr_copyFrom T3_many c_R3 T1_many c_R1 k2 k4 k5
                  let nw0_491 : Nat → Int64 := w_494
                  ((1 : Int32), c_R0, c_R1, c_R2, nw0_491)))) else (
              ((0 : Int32), c_R0, c_R1, c_R2, c_R3))) else (
            ((0 : Int32), c_R0, c_R1, c_R2, c_R3))) else (
          ((0 : Int32), c_R0, c_R1, c_R2, c_R3))) else (
        ((0 : Int32), c_R0, c_R1, c_R2, c_R3)))) else
  if k1.toInt = 2 then (
    if (k3.toInt < 0 ∨ 4 ≤ k3.toInt) then (
      ((0 : Int32), c_R0, c_R1, c_R2, c_R3)) else
    if k3.toInt = 0 then (
      let w_527 := F_Tr_isMissing T2_many
      let r_525 : Int32 := w_527
      if r_525 = 0 then (
        let w_537 := F_Tr_isMissing T0_many
        let r_535 : Int32 := w_537
        if r_535 = 0 then (
          if T2_sort = T0_sort then (
            if 0 ≤ k5 then (
              let w_546 := F_Tr_hasPlaces T2_many k2 k5
              let r_544 : Int32 := w_546
              if r_544 = 0 then (
                ((0 : Int32), c_R0, c_R1, c_R2, c_R3)) else (
                let w_556 := F_Tr_hasPlaces T0_many k4 k5
                let r_554 : Int32 := w_556
                if r_554 = 0 then (
                  ((0 : Int32), c_R0, c_R1, c_R2, c_R3)) else (
                  let w_562 := F_Tr_copyFrom T0_many c_R0 T2_many c_R2 k2 k4 k5
                  let nw0_559 : Nat → Int64 := w_562
                  ((1 : Int32), nw0_559, c_R1, c_R2, c_R3)))) else (
              ((0 : Int32), c_R0, c_R1, c_R2, c_R3))) else (
            ((0 : Int32), c_R0, c_R1, c_R2, c_R3))) else (
          ((0 : Int32), c_R0, c_R1, c_R2, c_R3))) else (
        ((0 : Int32), c_R0, c_R1, c_R2, c_R3))) else
    if k3.toInt = 1 then (
      let w_589 := F_Tr_isMissing T2_many
      let r_587 : Int32 := w_589
      if r_587 = 0 then (
        let w_599 := F_Tr_isMissing T1_many
        let r_597 : Int32 := w_599
        if r_597 = 0 then (
          if T2_sort = T1_sort then (
            if 0 ≤ k5 then (
              let w_608 := F_Tr_hasPlaces T2_many k2 k5
              let r_606 : Int32 := w_608
              if r_606 = 0 then (
                ((0 : Int32), c_R0, c_R1, c_R2, c_R3)) else (
                let w_618 := F_Tr_hasPlaces T1_many k4 k5
                let r_616 : Int32 := w_618
                if r_616 = 0 then (
                  ((0 : Int32), c_R0, c_R1, c_R2, c_R3)) else (
                  let w_624 := F_Tr_copyFrom T1_many c_R1 T2_many c_R2 k2 k4 k5
                  let nw0_621 : Nat → Int64 := w_624
                  ((1 : Int32), c_R0, nw0_621, c_R2, c_R3)))) else (
              ((0 : Int32), c_R0, c_R1, c_R2, c_R3))) else (
            ((0 : Int32), c_R0, c_R1, c_R2, c_R3))) else (
          ((0 : Int32), c_R0, c_R1, c_R2, c_R3))) else (
        ((0 : Int32), c_R0, c_R1, c_R2, c_R3))) else
    if k3.toInt = 2 then (
      let w_651 := F_Tr_isMissing T2_many
      let r_649 : Int32 := w_651
      if r_649 = 0 then (
        let w_661 := F_Tr_isMissing T2_many
        let r_659 : Int32 := w_661
        if r_659 = 0 then (
          if 0 ≤ k5 then (
            let w_668 := F_Tr_hasPlaces T2_many k2 k5
            let r_666 : Int32 := w_668
            if r_666 = 0 then (
              ((0 : Int32), c_R0, c_R1, c_R2, c_R3)) else (
              let w_678 := F_Tr_hasPlaces T2_many k4 k5
              let r_676 : Int32 := w_678
              if r_676 = 0 then (
                ((0 : Int32), c_R0, c_R1, c_R2, c_R3)) else (
                let w_684 := F_Tr_copyFrom_same T2_many c_R2 k2 k4 k5
                let nw0_681 : Nat → Int64 := w_684
                ((1 : Int32), c_R0, c_R1, nw0_681, c_R3)))) else (
            ((0 : Int32), c_R0, c_R1, c_R2, c_R3))) else (
          ((0 : Int32), c_R0, c_R1, c_R2, c_R3))) else (
        ((0 : Int32), c_R0, c_R1, c_R2, c_R3))) else
    (
      let w_706 := F_Tr_isMissing T2_many
      let r_704 : Int32 := w_706
      if r_704 = 0 then (
        let w_716 := F_Tr_isMissing T3_many
        let r_714 : Int32 := w_716
        if r_714 = 0 then (
          if T2_sort = T3_sort then (
            if 0 ≤ k5 then (
              let w_725 := F_Tr_hasPlaces T2_many k2 k5
              let r_723 : Int32 := w_725
              if r_723 = 0 then (
                ((0 : Int32), c_R0, c_R1, c_R2, c_R3)) else (
                let w_735 := F_Tr_hasPlaces T3_many k4 k5
                let r_733 : Int32 := w_735
                if r_733 = 0 then (
                  ((0 : Int32), c_R0, c_R1, c_R2, c_R3)) else (
                  let w_741 := F_Tr_copyFrom T3_many c_R3 T2_many c_R2 k2 k4 k5
                  let nw0_738 : Nat → Int64 := w_741
                  ((1 : Int32), c_R0, c_R1, c_R2, nw0_738)))) else (
              ((0 : Int32), c_R0, c_R1, c_R2, c_R3))) else (
            ((0 : Int32), c_R0, c_R1, c_R2, c_R3))) else (
          ((0 : Int32), c_R0, c_R1, c_R2, c_R3))) else (
        ((0 : Int32), c_R0, c_R1, c_R2, c_R3)))) else
  (
    if (k3.toInt < 0 ∨ 4 ≤ k3.toInt) then (
      ((0 : Int32), c_R0, c_R1, c_R2, c_R3)) else
    if k3.toInt = 0 then (
      let w_774 := F_Tr_isMissing T3_many
      let r_772 : Int32 := w_774
      if r_772 = 0 then (
        let w_784 := F_Tr_isMissing T0_many
        let r_782 : Int32 := w_784
        if r_782 = 0 then (
          if T3_sort = T0_sort then (
            if 0 ≤ k5 then (
              let w_793 := F_Tr_hasPlaces T3_many k2 k5
              let r_791 : Int32 := w_793
              if r_791 = 0 then (
                ((0 : Int32), c_R0, c_R1, c_R2, c_R3)) else (
                let w_803 := F_Tr_hasPlaces T0_many k4 k5
                let r_801 : Int32 := w_803
                if r_801 = 0 then (
                  ((0 : Int32), c_R0, c_R1, c_R2, c_R3)) else (
                  let w_809 := F_Tr_copyFrom T0_many c_R0 T3_many c_R3 k2 k4 k5
                  let nw0_806 : Nat → Int64 := w_809
                  ((1 : Int32), nw0_806, c_R1, c_R2, c_R3)))) else (
              ((0 : Int32), c_R0, c_R1, c_R2, c_R3))) else (
            ((0 : Int32), c_R0, c_R1, c_R2, c_R3))) else (
          ((0 : Int32), c_R0, c_R1, c_R2, c_R3))) else (
        ((0 : Int32), c_R0, c_R1, c_R2, c_R3))) else
    if k3.toInt = 1 then (
      let w_836 := F_Tr_isMissing T3_many
      let r_834 : Int32 := w_836
      if r_834 = 0 then (
        let w_846 := F_Tr_isMissing T1_many
        let r_844 : Int32 := w_846
        if r_844 = 0 then (
          if T3_sort = T1_sort then (
            if 0 ≤ k5 then (
              let w_855 := F_Tr_hasPlaces T3_many k2 k5
              let r_853 : Int32 := w_855
              if r_853 = 0 then (
                ((0 : Int32), c_R0, c_R1, c_R2, c_R3)) else (
                let w_865 := F_Tr_hasPlaces T1_many k4 k5
                let r_863 : Int32 := w_865
                if r_863 = 0 then (
                  ((0 : Int32), c_R0, c_R1, c_R2, c_R3)) else (
                  let w_871 := F_Tr_copyFrom T1_many c_R1 T3_many c_R3 k2 k4 k5
                  let nw0_868 : Nat → Int64 := w_871
                  ((1 : Int32), c_R0, nw0_868, c_R2, c_R3)))) else (
              ((0 : Int32), c_R0, c_R1, c_R2, c_R3))) else (
            ((0 : Int32), c_R0, c_R1, c_R2, c_R3))) else (
          ((0 : Int32), c_R0, c_R1, c_R2, c_R3))) else (
        ((0 : Int32), c_R0, c_R1, c_R2, c_R3))) else
    if k3.toInt = 2 then (
      let w_898 := F_Tr_isMissing T3_many
      let r_896 : Int32 := w_898
      if r_896 = 0 then (
        let w_908 := F_Tr_isMissing T2_many
        let r_906 : Int32 := w_908
        if r_906 = 0 then (
          if T3_sort = T2_sort then (
            if 0 ≤ k5 then (
              let w_917 := F_Tr_hasPlaces T3_many k2 k5
              let r_915 : Int32 := w_917
              if r_915 = 0 then (
                ((0 : Int32), c_R0, c_R1, c_R2, c_R3)) else (
                let w_927 := F_Tr_hasPlaces T2_many k4 k5
                let r_925 : Int32 := w_927
                if r_925 = 0 then (
                  ((0 : Int32), c_R0, c_R1, c_R2, c_R3)) else (
                  let w_933 := F_Tr_copyFrom T2_many c_R2 T3_many c_R3 k2 k4 k5
                  let nw0_930 : Nat → Int64 := w_933
                  ((1 : Int32), c_R0, c_R1, nw0_930, c_R3)))) else (
              ((0 : Int32), c_R0, c_R1, c_R2, c_R3))) else (
            ((0 : Int32), c_R0, c_R1, c_R2, c_R3))) else (
          ((0 : Int32), c_R0, c_R1, c_R2, c_R3))) else (
        ((0 : Int32), c_R0, c_R1, c_R2, c_R3))) else
    (
      let w_960 := F_Tr_isMissing T3_many
      let r_958 : Int32 := w_960
      if r_958 = 0 then (
        let w_970 := F_Tr_isMissing T3_many
        let r_968 : Int32 := w_970
        if r_968 = 0 then (
          if 0 ≤ k5 then (
            let w_977 := F_Tr_hasPlaces T3_many k2 k5
            let r_975 : Int32 := w_977
            if r_975 = 0 then (
              ((0 : Int32), c_R0, c_R1, c_R2, c_R3)) else (
              let w_987 := F_Tr_hasPlaces T3_many k4 k5
              let r_985 : Int32 := w_987
              if r_985 = 0 then (
                ((0 : Int32), c_R0, c_R1, c_R2, c_R3)) else (
                let w_993 := F_Tr_copyFrom_same T3_many c_R3 k2 k4 k5
                let nw0_990 : Nat → Int64 := w_993
                ((1 : Int32), c_R0, c_R1, c_R2, nw0_990)))) else (
            ((0 : Int32), c_R0, c_R1, c_R2, c_R3))) else (
          ((0 : Int32), c_R0, c_R1, c_R2, c_R3))) else (
        ((0 : Int32), c_R0, c_R1, c_R2, c_R3))))
theorem F_X_pour_s (T0_sort : Int32) (T0_many : Int32) (c_R0 : Nat → Int64) (T1_sort : Int32) (T1_many : Int32) (c_R1 : Nat → Int64) (T2_sort : Int32) (T2_many : Int32) (c_R2 : Nat → Int64) (T3_sort : Int32) (T3_many : Int32) (c_R3 : Nat → Int64) (k1 : Int32) (k2 : Int32) (k3 : Int32) (k4 : Int32) (k5 : Int32) : F_X_pour T0_sort T0_many c_R0 T1_sort T1_many c_R1 T2_sort T2_many c_R2 T3_sort T3_many c_R3 k1 k2 k3 k4 k5 = (
  if (k1.toInt < 0 ∨ 4 ≤ k1.toInt) then (
    if (k3.toInt < 0 ∨ 4 ≤ k3.toInt) then (
      ((0 : Int32), c_R0, c_R1, c_R2, c_R3)) else
    if k3.toInt = 0 then (
      ((0 : Int32), c_R0, c_R1, c_R2, c_R3)) else
    if k3.toInt = 1 then (
      ((0 : Int32), c_R0, c_R1, c_R2, c_R3)) else
    if k3.toInt = 2 then (
      ((0 : Int32), c_R0, c_R1, c_R2, c_R3)) else
    (
      ((0 : Int32), c_R0, c_R1, c_R2, c_R3))) else
  if k1.toInt = 0 then (
    if (k3.toInt < 0 ∨ 4 ≤ k3.toInt) then (
      ((0 : Int32), c_R0, c_R1, c_R2, c_R3)) else
    if k3.toInt = 0 then (
      let w_33 := F_Tr_isMissing T0_many
      let r_31 : Int32 := w_33
      if r_31 = 0 then (
        let w_43 := F_Tr_isMissing T0_many
        let r_41 : Int32 := w_43
        if r_41 = 0 then (
          if 0 ≤ k5 then (
            let w_50 := F_Tr_hasPlaces T0_many k2 k5
            let r_48 : Int32 := w_50
            if r_48 = 0 then (
              ((0 : Int32), c_R0, c_R1, c_R2, c_R3)) else (
              let w_60 := F_Tr_hasPlaces T0_many k4 k5
              let r_58 : Int32 := w_60
              if r_58 = 0 then (
                ((0 : Int32), c_R0, c_R1, c_R2, c_R3)) else (
                let w_66 := F_Tr_copyFrom_same T0_many c_R0 k2 k4 k5
                let nw0_63 : Nat → Int64 := w_66
                ((1 : Int32), nw0_63, c_R1, c_R2, c_R3)))) else (
            ((0 : Int32), c_R0, c_R1, c_R2, c_R3))) else (
          ((0 : Int32), c_R0, c_R1, c_R2, c_R3))) else (
        ((0 : Int32), c_R0, c_R1, c_R2, c_R3))) else
    if k3.toInt = 1 then (
      let w_88 := F_Tr_isMissing T0_many
      let r_86 : Int32 := w_88
      if r_86 = 0 then (
        let w_98 := F_Tr_isMissing T1_many
        let r_96 : Int32 := w_98
        if r_96 = 0 then (
          if T0_sort = T1_sort then (
            if 0 ≤ k5 then (
              let w_107 := F_Tr_hasPlaces T0_many k2 k5
              let r_105 : Int32 := w_107
              if r_105 = 0 then (
                ((0 : Int32), c_R0, c_R1, c_R2, c_R3)) else (
                let w_117 := F_Tr_hasPlaces T1_many k4 k5
                let r_115 : Int32 := w_117
                if r_115 = 0 then (
                  ((0 : Int32), c_R0, c_R1, c_R2, c_R3)) else (
                  let w_123 := F_Tr_copyFrom T1_many c_R1 T0_many c_R0 k2 k4 k5
                  let nw0_120 : Nat → Int64 := w_123
                  ((1 : Int32), c_R0, nw0_120, c_R2, c_R3)))) else (
              ((0 : Int32), c_R0, c_R1, c_R2, c_R3))) else (
            ((0 : Int32), c_R0, c_R1, c_R2, c_R3))) else (
          ((0 : Int32), c_R0, c_R1, c_R2, c_R3))) else (
        ((0 : Int32), c_R0, c_R1, c_R2, c_R3))) else
    if k3.toInt = 2 then (
      let w_150 := F_Tr_isMissing T0_many
      let r_148 : Int32 := w_150
      if r_148 = 0 then (
        let w_160 := F_Tr_isMissing T2_many
        let r_158 : Int32 := w_160
        if r_158 = 0 then (
          if T0_sort = T2_sort then (
            if 0 ≤ k5 then (
              let w_169 := F_Tr_hasPlaces T0_many k2 k5
              let r_167 : Int32 := w_169
              if r_167 = 0 then (
                ((0 : Int32), c_R0, c_R1, c_R2, c_R3)) else (
                let w_179 := F_Tr_hasPlaces T2_many k4 k5
                let r_177 : Int32 := w_179
                if r_177 = 0 then (
                  ((0 : Int32), c_R0, c_R1, c_R2, c_R3)) else (
                  let w_185 := F_Tr_copyFrom T2_many c_R2 T0_many c_R0 k2 k4 k5
                  let nw0_182 : Nat → Int64 := w_185
                  ((1 : Int32), c_R0, c_R1, nw0_182, c_R3)))) else (
              ((0 : Int32), c_R0, c_R1, c_R2, c_R3))) else (
            ((0 : Int32), c_R0, c_R1, c_R2, c_R3))) else (
          ((0 : Int32), c_R0, c_R1, c_R2, c_R3))) else (
        ((0 : Int32), c_R0, c_R1, c_R2, c_R3))) else
    (
      let w_212 := F_Tr_isMissing T0_many
      let r_210 : Int32 := w_212
      if r_210 = 0 then (
        let w_222 := F_Tr_isMissing T3_many
        let r_220 : Int32 := w_222
        if r_220 = 0 then (
          if T0_sort = T3_sort then (
            if 0 ≤ k5 then (
              let w_231 := F_Tr_hasPlaces T0_many k2 k5
              let r_229 : Int32 := w_231
              if r_229 = 0 then (
                ((0 : Int32), c_R0, c_R1, c_R2, c_R3)) else (
                let w_241 := F_Tr_hasPlaces T3_many k4 k5
                let r_239 : Int32 := w_241
                if r_239 = 0 then (
                  ((0 : Int32), c_R0, c_R1, c_R2, c_R3)) else (
                  let w_247 := F_Tr_copyFrom T3_many c_R3 T0_many c_R0 k2 k4 k5
                  let nw0_244 : Nat → Int64 := w_247
                  ((1 : Int32), c_R0, c_R1, c_R2, nw0_244)))) else (
              ((0 : Int32), c_R0, c_R1, c_R2, c_R3))) else (
            ((0 : Int32), c_R0, c_R1, c_R2, c_R3))) else (
          ((0 : Int32), c_R0, c_R1, c_R2, c_R3))) else (
        ((0 : Int32), c_R0, c_R1, c_R2, c_R3)))) else
  if k1.toInt = 1 then (
    if (k3.toInt < 0 ∨ 4 ≤ k3.toInt) then (
      ((0 : Int32), c_R0, c_R1, c_R2, c_R3)) else
    if k3.toInt = 0 then (
      let w_280 := F_Tr_isMissing T1_many
      let r_278 : Int32 := w_280
      if r_278 = 0 then (
        let w_290 := F_Tr_isMissing T0_many
        let r_288 : Int32 := w_290
        if r_288 = 0 then (
          if T1_sort = T0_sort then (
            if 0 ≤ k5 then (
              let w_299 := F_Tr_hasPlaces T1_many k2 k5
              let r_297 : Int32 := w_299
              if r_297 = 0 then (
                ((0 : Int32), c_R0, c_R1, c_R2, c_R3)) else (
                let w_309 := F_Tr_hasPlaces T0_many k4 k5
                let r_307 : Int32 := w_309
                if r_307 = 0 then (
                  ((0 : Int32), c_R0, c_R1, c_R2, c_R3)) else (
                  let w_315 := F_Tr_copyFrom T0_many c_R0 T1_many c_R1 k2 k4 k5
                  let nw0_312 : Nat → Int64 := w_315
                  ((1 : Int32), nw0_312, c_R1, c_R2, c_R3)))) else (
              ((0 : Int32), c_R0, c_R1, c_R2, c_R3))) else (
            ((0 : Int32), c_R0, c_R1, c_R2, c_R3))) else (
          ((0 : Int32), c_R0, c_R1, c_R2, c_R3))) else (
        ((0 : Int32), c_R0, c_R1, c_R2, c_R3))) else
    if k3.toInt = 1 then (
      let w_342 := F_Tr_isMissing T1_many
      let r_340 : Int32 := w_342
      if r_340 = 0 then (
        let w_352 := F_Tr_isMissing T1_many
        let r_350 : Int32 := w_352
        if r_350 = 0 then (
          if 0 ≤ k5 then (
            let w_359 := F_Tr_hasPlaces T1_many k2 k5
            let r_357 : Int32 := w_359
            if r_357 = 0 then (
              ((0 : Int32), c_R0, c_R1, c_R2, c_R3)) else (
              let w_369 := F_Tr_hasPlaces T1_many k4 k5
              let r_367 : Int32 := w_369
              if r_367 = 0 then (
                ((0 : Int32), c_R0, c_R1, c_R2, c_R3)) else (
                let w_375 := F_Tr_copyFrom_same T1_many c_R1 k2 k4 k5
                let nw0_372 : Nat → Int64 := w_375
                ((1 : Int32), c_R0, nw0_372, c_R2, c_R3)))) else (
            ((0 : Int32), c_R0, c_R1, c_R2, c_R3))) else (
          ((0 : Int32), c_R0, c_R1, c_R2, c_R3))) else (
        ((0 : Int32), c_R0, c_R1, c_R2, c_R3))) else
    if k3.toInt = 2 then (
      let w_397 := F_Tr_isMissing T1_many
      let r_395 : Int32 := w_397
      if r_395 = 0 then (
        let w_407 := F_Tr_isMissing T2_many
        let r_405 : Int32 := w_407
        if r_405 = 0 then (
          if T1_sort = T2_sort then (
            if 0 ≤ k5 then (
              let w_416 := F_Tr_hasPlaces T1_many k2 k5
              let r_414 : Int32 := w_416
              if r_414 = 0 then (
                ((0 : Int32), c_R0, c_R1, c_R2, c_R3)) else (
                let w_426 := F_Tr_hasPlaces T2_many k4 k5
                let r_424 : Int32 := w_426
                if r_424 = 0 then (
                  ((0 : Int32), c_R0, c_R1, c_R2, c_R3)) else (
                  let w_432 := F_Tr_copyFrom T2_many c_R2 T1_many c_R1 k2 k4 k5
                  let nw0_429 : Nat → Int64 := w_432
                  ((1 : Int32), c_R0, c_R1, nw0_429, c_R3)))) else (
              ((0 : Int32), c_R0, c_R1, c_R2, c_R3))) else (
            ((0 : Int32), c_R0, c_R1, c_R2, c_R3))) else (
          ((0 : Int32), c_R0, c_R1, c_R2, c_R3))) else (
        ((0 : Int32), c_R0, c_R1, c_R2, c_R3))) else
    (
      let w_459 := F_Tr_isMissing T1_many
      let r_457 : Int32 := w_459
      if r_457 = 0 then (
        let w_469 := F_Tr_isMissing T3_many
        let r_467 : Int32 := w_469
        if r_467 = 0 then (
          if T1_sort = T3_sort then (
            if 0 ≤ k5 then (
              let w_478 := F_Tr_hasPlaces T1_many k2 k5
              let r_476 : Int32 := w_478
              if r_476 = 0 then (
                ((0 : Int32), c_R0, c_R1, c_R2, c_R3)) else (
                let w_488 := F_Tr_hasPlaces T3_many k4 k5
                let r_486 : Int32 := w_488
                if r_486 = 0 then (
                  ((0 : Int32), c_R0, c_R1, c_R2, c_R3)) else (
                  let w_494 := F_Tr_copyFrom T3_many c_R3 T1_many c_R1 k2 k4 k5
                  let nw0_491 : Nat → Int64 := w_494
                  ((1 : Int32), c_R0, c_R1, c_R2, nw0_491)))) else (
              ((0 : Int32), c_R0, c_R1, c_R2, c_R3))) else (
            ((0 : Int32), c_R0, c_R1, c_R2, c_R3))) else (
          ((0 : Int32), c_R0, c_R1, c_R2, c_R3))) else (
        ((0 : Int32), c_R0, c_R1, c_R2, c_R3)))) else
  if k1.toInt = 2 then (
    if (k3.toInt < 0 ∨ 4 ≤ k3.toInt) then (
      ((0 : Int32), c_R0, c_R1, c_R2, c_R3)) else
    if k3.toInt = 0 then (
      let w_527 := F_Tr_isMissing T2_many
      let r_525 : Int32 := w_527
      if r_525 = 0 then (
        let w_537 := F_Tr_isMissing T0_many
        let r_535 : Int32 := w_537
        if r_535 = 0 then (
          if T2_sort = T0_sort then (
            if 0 ≤ k5 then (
              let w_546 := F_Tr_hasPlaces T2_many k2 k5
              let r_544 : Int32 := w_546
              if r_544 = 0 then (
                ((0 : Int32), c_R0, c_R1, c_R2, c_R3)) else (
                let w_556 := F_Tr_hasPlaces T0_many k4 k5
                let r_554 : Int32 := w_556
                if r_554 = 0 then (
                  ((0 : Int32), c_R0, c_R1, c_R2, c_R3)) else (
                  let w_562 := F_Tr_copyFrom T0_many c_R0 T2_many c_R2 k2 k4 k5
                  let nw0_559 : Nat → Int64 := w_562
                  ((1 : Int32), nw0_559, c_R1, c_R2, c_R3)))) else (
              ((0 : Int32), c_R0, c_R1, c_R2, c_R3))) else (
            ((0 : Int32), c_R0, c_R1, c_R2, c_R3))) else (
          ((0 : Int32), c_R0, c_R1, c_R2, c_R3))) else (
        ((0 : Int32), c_R0, c_R1, c_R2, c_R3))) else
    if k3.toInt = 1 then (
      let w_589 := F_Tr_isMissing T2_many
      let r_587 : Int32 := w_589
      if r_587 = 0 then (
        let w_599 := F_Tr_isMissing T1_many
        let r_597 : Int32 := w_599
        if r_597 = 0 then (
          if T2_sort = T1_sort then (
            if 0 ≤ k5 then (
              let w_608 := F_Tr_hasPlaces T2_many k2 k5
              let r_606 : Int32 := w_608
              if r_606 = 0 then (
                ((0 : Int32), c_R0, c_R1, c_R2, c_R3)) else (
                let w_618 := F_Tr_hasPlaces T1_many k4 k5
                let r_616 : Int32 := w_618
                if r_616 = 0 then (
                  ((0 : Int32), c_R0, c_R1, c_R2, c_R3)) else (
                  let w_624 := F_Tr_copyFrom T1_many c_R1 T2_many c_R2 k2 k4 k5
                  let nw0_621 : Nat → Int64 := w_624
                  ((1 : Int32), c_R0, nw0_621, c_R2, c_R3)))) else (
              ((0 : Int32), c_R0, c_R1, c_R2, c_R3))) else (
            ((0 : Int32), c_R0, c_R1, c_R2, c_R3))) else (
          ((0 : Int32), c_R0, c_R1, c_R2, c_R3))) else (
        ((0 : Int32), c_R0, c_R1, c_R2, c_R3))) else
    if k3.toInt = 2 then (
      let w_651 := F_Tr_isMissing T2_many
      let r_649 : Int32 := w_651
      if r_649 = 0 then (
        let w_661 := F_Tr_isMissing T2_many
        let r_659 : Int32 := w_661
        if r_659 = 0 then (
          if 0 ≤ k5 then (
            let w_668 := F_Tr_hasPlaces T2_many k2 k5
            let r_666 : Int32 := w_668
            if r_666 = 0 then (
              ((0 : Int32), c_R0, c_R1, c_R2, c_R3)) else (
              let w_678 := F_Tr_hasPlaces T2_many k4 k5
              let r_676 : Int32 := w_678
              if r_676 = 0 then (
                ((0 : Int32), c_R0, c_R1, c_R2, c_R3)) else (
                let w_684 := F_Tr_copyFrom_same T2_many c_R2 k2 k4 k5
                let nw0_681 : Nat → Int64 := w_684
                ((1 : Int32), c_R0, c_R1, nw0_681, c_R3)))) else (
            ((0 : Int32), c_R0, c_R1, c_R2, c_R3))) else (
          ((0 : Int32), c_R0, c_R1, c_R2, c_R3))) else (
        ((0 : Int32), c_R0, c_R1, c_R2, c_R3))) else
    (
      let w_706 := F_Tr_isMissing T2_many
      let r_704 : Int32 := w_706
      if r_704 = 0 then (
        let w_716 := F_Tr_isMissing T3_many
        let r_714 : Int32 := w_716
        if r_714 = 0 then (
          if T2_sort = T3_sort then (
            if 0 ≤ k5 then (
              let w_725 := F_Tr_hasPlaces T2_many k2 k5
              let r_723 : Int32 := w_725
              if r_723 = 0 then (
                ((0 : Int32), c_R0, c_R1, c_R2, c_R3)) else (
                let w_735 := F_Tr_hasPlaces T3_many k4 k5
                let r_733 : Int32 := w_735
                if r_733 = 0 then (
                  ((0 : Int32), c_R0, c_R1, c_R2, c_R3)) else (
                  let w_741 := F_Tr_copyFrom T3_many c_R3 T2_many c_R2 k2 k4 k5
                  let nw0_738 : Nat → Int64 := w_741
                  ((1 : Int32), c_R0, c_R1, c_R2, nw0_738)))) else (
              ((0 : Int32), c_R0, c_R1, c_R2, c_R3))) else (
            ((0 : Int32), c_R0, c_R1, c_R2, c_R3))) else (
          ((0 : Int32), c_R0, c_R1, c_R2, c_R3))) else (
        ((0 : Int32), c_R0, c_R1, c_R2, c_R3)))) else
  (
    if (k3.toInt < 0 ∨ 4 ≤ k3.toInt) then (
      ((0 : Int32), c_R0, c_R1, c_R2, c_R3)) else
    if k3.toInt = 0 then (
      let w_774 := F_Tr_isMissing T3_many
      let r_772 : Int32 := w_774
      if r_772 = 0 then (
        let w_784 := F_Tr_isMissing T0_many
        let r_782 : Int32 := w_784
        if r_782 = 0 then (
          if T3_sort = T0_sort then (
            if 0 ≤ k5 then (
              let w_793 := F_Tr_hasPlaces T3_many k2 k5
              let r_791 : Int32 := w_793
              if r_791 = 0 then (
                ((0 : Int32), c_R0, c_R1, c_R2, c_R3)) else (
                let w_803 := F_Tr_hasPlaces T0_many k4 k5
                let r_801 : Int32 := w_803
                if r_801 = 0 then (
                  ((0 : Int32), c_R0, c_R1, c_R2, c_R3)) else (
                  let w_809 := F_Tr_copyFrom T0_many c_R0 T3_many c_R3 k2 k4 k5
                  let nw0_806 : Nat → Int64 := w_809
                  ((1 : Int32), nw0_806, c_R1, c_R2, c_R3)))) else (
              ((0 : Int32), c_R0, c_R1, c_R2, c_R3))) else (
            ((0 : Int32), c_R0, c_R1, c_R2, c_R3))) else (
          ((0 : Int32), c_R0, c_R1, c_R2, c_R3))) else (
        ((0 : Int32), c_R0, c_R1, c_R2, c_R3))) else
    if k3.toInt = 1 then (
      let w_836 := F_Tr_isMissing T3_many
      let r_834 : Int32 := w_836
      if r_834 = 0 then (
        let w_846 := F_Tr_isMissing T1_many
        let r_844 : Int32 := w_846
        if r_844 = 0 then (
          if T3_sort = T1_sort then (
            if 0 ≤ k5 then (
              let w_855 := F_Tr_hasPlaces T3_many k2 k5
              let r_853 : Int32 := w_855
              if r_853 = 0 then (
                ((0 : Int32), c_R0, c_R1, c_R2, c_R3)) else (
                let w_865 := F_Tr_hasPlaces T1_many k4 k5
                let r_863 : Int32 := w_865
                if r_863 = 0 then (
                  ((0 : Int32), c_R0, c_R1, c_R2, c_R3)) else (
                  let w_871 := F_Tr_copyFrom T1_many c_R1 T3_many c_R3 k2 k4 k5
                  let nw0_868 : Nat → Int64 := w_871
                  ((1 : Int32), c_R0, nw0_868, c_R2, c_R3)))) else (
              ((0 : Int32), c_R0, c_R1, c_R2, c_R3))) else (
            ((0 : Int32), c_R0, c_R1, c_R2, c_R3))) else (
          ((0 : Int32), c_R0, c_R1, c_R2, c_R3))) else (
        ((0 : Int32), c_R0, c_R1, c_R2, c_R3))) else
    if k3.toInt = 2 then (
      let w_898 := F_Tr_isMissing T3_many
      let r_896 : Int32 := w_898
      if r_896 = 0 then (
        let w_908 := F_Tr_isMissing T2_many
        let r_906 : Int32 := w_908
        if r_906 = 0 then (
          if T3_sort = T2_sort then (
            if 0 ≤ k5 then (
              let w_917 := F_Tr_hasPlaces T3_many k2 k5
              let r_915 : Int32 := w_917
              if r_915 = 0 then (
                ((0 : Int32), c_R0, c_R1, c_R2, c_R3)) else (
                let w_927 := F_Tr_hasPlaces T2_many k4 k5
                let r_925 : Int32 := w_927
                if r_925 = 0 then (
                  ((0 : Int32), c_R0, c_R1, c_R2, c_R3)) else (
                  let w_933 := F_Tr_copyFrom T2_many c_R2 T3_many c_R3 k2 k4 k5
                  let nw0_930 : Nat → Int64 := w_933
                  ((1 : Int32), c_R0, c_R1, nw0_930, c_R3)))) else (
              ((0 : Int32), c_R0, c_R1, c_R2, c_R3))) else (
            ((0 : Int32), c_R0, c_R1, c_R2, c_R3))) else (
          ((0 : Int32), c_R0, c_R1, c_R2, c_R3))) else (
        ((0 : Int32), c_R0, c_R1, c_R2, c_R3))) else
    (
      let w_960 := F_Tr_isMissing T3_many
      let r_958 : Int32 := w_960
      if r_958 = 0 then (
        let w_970 := F_Tr_isMissing T3_many
        let r_968 : Int32 := w_970
        if r_968 = 0 then (
          if 0 ≤ k5 then (
            let w_977 := F_Tr_hasPlaces T3_many k2 k5
            let r_975 : Int32 := w_977
            if r_975 = 0 then (
              ((0 : Int32), c_R0, c_R1, c_R2, c_R3)) else (
              let w_987 := F_Tr_hasPlaces T3_many k4 k5
              let r_985 : Int32 := w_987
              if r_985 = 0 then (
                ((0 : Int32), c_R0, c_R1, c_R2, c_R3)) else (
                let w_993 := F_Tr_copyFrom_same T3_many c_R3 k2 k4 k5
                let nw0_990 : Nat → Int64 := w_993
                ((1 : Int32), c_R0, c_R1, c_R2, nw0_990)))) else (
            ((0 : Int32), c_R0, c_R1, c_R2, c_R3))) else (
          ((0 : Int32), c_R0, c_R1, c_R2, c_R3))) else (
        ((0 : Int32), c_R0, c_R1, c_R2, c_R3))))) := rfl
