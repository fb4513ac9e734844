noncomputable def F_r_no (k : Int32) : Int32 × Int32 :=
  ((0 : Int32), k)
theorem F_r_no_s (k : Int32) : F_r_no k = (
  ((0 : Int32), k)) := rfl
noncomputable def F_r_cut (ss : Int32) (v : Int64) : Int64 :=
  if ss = 0 then (
    let x_18 : Int32 := ((v).toInt32)
    let x_19 : Int32 := ((x_18).toInt8.toInt32)
    let x_20 : Int64 := ((x_19).toInt64)
    x_20) else (
    if ss = 1 then (
      let x_13 : Int32 := ((v).toInt32)
      let x_14 : Int32 := ((x_13).toInt16.toInt32)
      let x_15 : Int64 := ((x_14).toInt64)
      x_15) else (
      if ss = 2 then (
        let x_9 : Int32 := ((v).toInt32)
        let x_10 : Int64 := ((x_9).toInt64)
        x_10) else (
        v)))
theorem F_r_cut_s (ss : Int32) (v : Int64) : F_r_cut ss v = (
  if ss = 0 then (
    let x_18 : Int32 := ((v).toInt32)
    let x_19 : Int32 := ((x_18).toInt8.toInt32)
    let x_20 : Int64 := ((x_19).toInt64)
    x_20) else (
    if ss = 1 then (
      let x_13 : Int32 := ((v).toInt32)
      let x_14 : Int32 := ((x_13).toInt16.toInt32)
      let x_15 : Int64 := ((x_14).toInt64)
      x_15) else (
      if ss = 2 then (
        let x_9 : Int32 := ((v).toInt32)
        let x_10 : Int64 := ((x_9).toInt64)
        x_10) else (
        v)))) := rfl
noncomputable def F_r_trayed (g_trayMany : Nat → Int32) (t : Int32) : Int32 :=
  if t < 0 then (
    (1 : Int32)) else (
    if t < 4 then (
      let x_7 : Int32 := (g_trayMany (t : Int32).toNatClampNeg)
      if 0 ≤ x_7 then (
        (0 : Int32)) else (
        (3 : Int32))) else (
      (1 : Int32)))
theorem F_r_trayed_s (g_trayMany : Nat → Int32) (t : Int32) : F_r_trayed g_trayMany t = (
  if t < 0 then (
    (1 : Int32)) else (
    if t < 4 then (
      let x_7 : Int32 := (g_trayMany (t : Int32).toNatClampNeg)
      if 0 ≤ x_7 then (
        (0 : Int32)) else (
        (3 : Int32))) else (
      (1 : Int32)))) := rfl
noncomputable def F_r_placed (g_trayMany : Nat → Int32) (t : Int32) (k : Int32) : Int32 :=
  let w_3 := F_r_trayed g_trayMany t
  let r_1 : Int32 := w_3
  if r_1 ≤ 0 then (
    if k < 0 then (
      (4 : Int32)) else (
      let x_11 : Int32 := (g_trayMany (t : Int32).toNatClampNeg)
      if k < x_11 then (
        (0 : Int32)) else (
        (4 : Int32)))) else (
    r_1)
theorem F_r_placed_s (g_trayMany : Nat → Int32) (t : Int32) (k : Int32) : F_r_placed g_trayMany t k = (
  let w_3 := F_r_trayed g_trayMany t
  let r_1 : Int32 := w_3
  if r_1 ≤ 0 then (
    if k < 0 then (
      (4 : Int32)) else (
      let x_11 : Int32 := (g_trayMany (t : Int32).toNatClampNeg)
      if k < x_11 then (
        (0 : Int32)) else (
        (4 : Int32)))) else (
    r_1)) := rfl
noncomputable def F_r_tray_L74a (t : Int32) (nn : Int32) (g_31 : Nat → Int32) (g_32 : Nat → Int32) : Nat → Int32 → (Nat → Int64) → (Int32 × (Nat → Int32) × (Nat → Int32) × (Nat → Int64)) := fun k9 => Nat.rec (motive := fun _ => Int32 → (Nat → Int64) → (Int32 × (Nat → Int32) × (Nat → Int32) × (Nat → Int64))) (fun _ _ => default) (fun _ (G_L74a : Int32 → (Nat → Int64) → (Int32 × (Nat → Int32) × (Nat → Int32) × (Nat → Int64))) => fun (v_255 : Int32) (g_256 : Nat → Int64) =>
    if nn ≤ v_255 then (
      ((1 : Int32), g_31, g_32, g_256)) else (
      let x_277 : Int32 := ((60 : Int32) * t)
      let x_278 : Int32 := (x_277 + v_255)
      let g_279 : Nat → Int64 := (vp_updL g_256 (x_278 : Int32).toNatClampNeg 0)
      let x_280 : Int32 := (v_255 + 1)
      G_L74a x_280 g_279)) k9
theorem F_r_tray_L74a_s (t : Int32) (nn : Int32) (g_31 : Nat → Int32) (g_32 : Nat → Int32) (n9 : Nat) (v_255 : Int32) (g_256 : Nat → Int64) : F_r_tray_L74a t nn g_31 g_32 (n9 + 1) v_255 g_256 = (
    if nn ≤ v_255 then (
      ((1 : Int32), g_31, g_32, g_256)) else (
      let x_277 : Int32 := ((60 : Int32) * t)
      let x_278 : Int32 := (x_277 + v_255)
      let g_279 : Nat → Int64 := (vp_updL g_256 (x_278 : Int32).toNatClampNeg 0)
      let x_280 : Int32 := (v_255 + 1)
      (F_r_tray_L74a t nn g_31 g_32 n9) x_280 g_279)) := rfl
noncomputable def F_r_tray (g_traySort : Nat → Int32) (g_trayMany : Nat → Int32) (g_numbers : Nat → Int64) (t : Int32) (ss : Int32) (nn : Int32) : Int32 × (Nat → Int32) × (Nat → Int32) × (Nat → Int64) :=
  if t < 0 then (
    let w_6 := F_r_no 1
    let r_4 : Int32 := w_6.1
    let n_3 : Int32 := w_6.2
    ((0 : Int32), g_traySort, g_trayMany, g_numbers)) else (
    if 4 ≤ t then (
      let w_14 := F_r_no 1
      let r_12 : Int32 := w_14.1
      let n_11 : Int32 := w_14.2
      ((0 : Int32), g_traySort, g_trayMany, g_numbers)) else (
      if ss < 0 then (
        let w_22 := F_r_no 1
        let r_20 : Int32 := w_22.1
        let n_19 : Int32 := w_22.2
        ((0 : Int32), g_traySort, g_trayMany, g_numbers)) else (
        if ss ≤ 3 then (
          if nn ≤ 60 then (
            if 0 ≤ nn then (
              let g_31 : Nat → Int32 := (upd g_traySort (t : Int32).toNatClampNeg ss)
              let g_32 : Nat → Int32 := (upd g_trayMany (t : Int32).toNatClampNeg nn)
              F_r_tray_L74a t nn g_31 g_32 ((2147483647 - (0 : Int32).toInt).toNat + 1) (0 : Int32) g_numbers) else (
              let w_287 := F_r_no 6
              let r_285 : Int32 := w_287.1
              let n_284 : Int32 := w_287.2
              ((0 : Int32), g_traySort, g_trayMany, g_numbers))) else (
            let w_293 := F_r_no 5
            let r_291 : Int32 := w_293.1
            let n_290 : Int32 := w_293.2
            ((0 : Int32), g_traySort, g_trayMany, g_numbers))) else (
          let w_299 := F_r_no 1
          let r_297 : Int32 := w_299.1
          let n_296 : Int32 := w_299.2
          ((0 : Int32), g_traySort, g_trayMany, g_numbers)))))
theorem F_r_tray_s (g_traySort : Nat → Int32) (g_trayMany : Nat → Int32) (g_numbers : Nat → Int64) (t : Int32) (ss : Int32) (nn : Int32) : F_r_tray g_traySort g_trayMany g_numbers t ss nn = (
  if t < 0 then (
    let w_6 := F_r_no 1
    let r_4 : Int32 := w_6.1
    let n_3 : Int32 := w_6.2
    ((0 : Int32), g_traySort, g_trayMany, g_numbers)) else (
    if 4 ≤ t then (
      let w_14 := F_r_no 1
      let r_12 : Int32 := w_14.1
      let n_11 : Int32 := w_14.2
      ((0 : Int32), g_traySort, g_trayMany, g_numbers)) else (
      if ss < 0 then (
        let w_22 := F_r_no 1
        let r_20 : Int32 := w_22.1
        let n_19 : Int32 := w_22.2
        ((0 : Int32), g_traySort, g_trayMany, g_numbers)) else (
        if ss ≤ 3 then (
          if nn ≤ 60 then (
            if 0 ≤ nn then (
              let g_31 : Nat → Int32 := (upd g_traySort (t : Int32).toNatClampNeg ss)
              let g_32 : Nat → Int32 := (upd g_trayMany (t : Int32).toNatClampNeg nn)
              F_r_tray_L74a t nn g_31 g_32 ((2147483647 - (0 : Int32).toInt).toNat + 1) (0 : Int32) g_numbers) else (
              let w_287 := F_r_no 6
              let r_285 : Int32 := w_287.1
              let n_284 : Int32 := w_287.2
              ((0 : Int32), g_traySort, g_trayMany, g_numbers))) else (
            let w_293 := F_r_no 5
            let r_291 : Int32 := w_293.1
            let n_290 : Int32 := w_293.2
            ((0 : Int32), g_traySort, g_trayMany, g_numbers))) else (
          let w_299 := F_r_no 1
          let r_297 : Int32 := w_299.1
          let n_296 : Int32 := w_299.2
          ((0 : Int32), g_traySort, g_trayMany, g_numbers)))))) := rfl
noncomputable def F_r_write (g_traySort : Nat → Int32) (g_trayMany : Nat → Int32) (g_numbers : Nat → Int64) (t : Int32) (k : Int32) (v : Int64) : Int32 × (Nat → Int64) :=
  let w_3 := F_r_placed g_trayMany t k
  let r_1 : Int32 := w_3
  if r_1 ≤ 0 then (
    let x_9 : Int32 := ((60 : Int32) * t)
    let x_10 : Int32 := (x_9 + k)
    let x_11 : Int32 := (g_traySort (t : Int32).toNatClampNeg)
    let w_14 := F_r_cut x_11 v
    let r_12 : Int64 := w_14
    let g_15 : Nat → Int64 := (vp_updL g_numbers (x_10 : Int32).toNatClampNeg r_12)
    ((1 : Int32), g_15)) else (
    ((0 : Int32), g_numbers))
theorem F_r_write_s (g_traySort : Nat → Int32) (g_trayMany : Nat → Int32) (g_numbers : Nat → Int64) (t : Int32) (k : Int32) (v : Int64) : F_r_write g_traySort g_trayMany g_numbers t k v = (
  let w_3 := F_r_placed g_trayMany t k
  let r_1 : Int32 := w_3
  if r_1 ≤ 0 then (
    let x_9 : Int32 := ((60 : Int32) * t)
    let x_10 : Int32 := (x_9 + k)
    let x_11 : Int32 := (g_traySort (t : Int32).toNatClampNeg)
    let w_14 := F_r_cut x_11 v
    let r_12 : Int64 := w_14
    let g_15 : Nat → Int64 := (vp_updL g_numbers (x_10 : Int32).toNatClampNeg r_12)
    ((1 : Int32), g_15)) else (
    ((0 : Int32), g_numbers))) := rfl
noncomputable def F_r_read (g_trayMany : Nat → Int32) (g_numbers : Nat → Int64) (t : Int32) (k : Int32) : Int64 :=
  let w_3 := F_r_placed g_trayMany t k
  let r_1 : Int32 := w_3
  if r_1 ≤ 0 then (
    let x_9 : Int32 := ((60 : Int32) * t)
    let x_10 : Int32 := (x_9 + k)
    let x_11 : Int64 := (g_numbers (x_10 : Int32).toNatClampNeg)
    x_11) else (
    (-1 : Int64))
theorem F_r_read_s (g_trayMany : Nat → Int32) (g_numbers : Nat → Int64) (t : Int32) (k : Int32) : F_r_read g_trayMany g_numbers t k = (
  let w_3 := F_r_placed g_trayMany t k
  let r_1 : Int32 := w_3
  if r_1 ≤ 0 then (
    let x_9 : Int32 := ((60 : Int32) * t)
    let x_10 : Int32 := (x_9 + k)
    let x_11 : Int64 := (g_numbers (x_10 : Int32).toNatClampNeg)
    x_11) else (
    (-1 : Int64))) := rfl
noncomputable def F_r_pour_L158a (t : Int32) (i : Int32) (to : Int32) (j : Int32) (nn : Int32) : Nat → Int32 → (Nat → Int64) → (Int32 × (Nat → Int64)) := fun k9 => Nat.rec (motive := fun _ => Int32 → (Nat → Int64) → (Int32 × (Nat → Int64))) (fun _ _ => default) (fun _ (G_L158a : Int32 → (Nat → Int64) → (Int32 × (Nat → Int64))) => fun (v_433 : Int32) (g_434 : Nat → Int64) =>
    if nn ≤ v_433 then (
      ((1 : Int32), g_434)) else (
      let x_465 : Int32 := ((60 : Int32) * to)
      let x_466 : Int32 := (x_465 + j)
      let x_467 : Int32 := (x_466 + v_433)
      let x_468 : Int32 := ((60 : Int32) * t)
      let x_469 : Int32 := (x_468 + i)
      let x_470 : Int32 := (x_469 + v_433)
      let x_471 : Int64 := (g_434 (x_470 : Int32).toNatClampNeg)
      let g_472 : Nat → Int64 := (vp_updL g_434 (x_467 : Int32).toNatClampNeg x_471)
      let x_473 : Int32 := (v_433 + 1)
      G_L158a x_473 g_472)) k9
theorem F_r_pour_L158a_s (t : Int32) (i : Int32) (to : Int32) (j : Int32) (nn : Int32) (n9 : Nat) (v_433 : Int32) (g_434 : Nat → Int64) : F_r_pour_L158a t i to j nn (n9 + 1) v_433 g_434 = (
    if nn ≤ v_433 then (
      ((1 : Int32), g_434)) else (
      let x_465 : Int32 := ((60 : Int32) * to)
      let x_466 : Int32 := (x_465 + j)
      let x_467 : Int32 := (x_466 + v_433)
      let x_468 : Int32 := ((60 : Int32) * t)
      let x_469 : Int32 := (x_468 + i)
      let x_470 : Int32 := (x_469 + v_433)
      let x_471 : Int64 := (g_434 (x_470 : Int32).toNatClampNeg)
      let g_472 : Nat → Int64 := (vp_updL g_434 (x_467 : Int32).toNatClampNeg x_471)
      let x_473 : Int32 := (v_433 + 1)
      (F_r_pour_L158a t i to j nn n9) x_473 g_472)) := rfl
noncomputable def F_r_pour_L158b (t : Int32) (i : Int32) (to : Int32) (j : Int32) (nn : Int32) : Nat → Int32 → (Nat → Int64) → (Int32 × (Nat → Int64)) := fun k9 => Nat.rec (motive := fun _ => Int32 → (Nat → Int64) → (Int32 × (Nat → Int64))) (fun _ _ => default) (fun _ (G_L158b : Int32 → (Nat → Int64) → (Int32 × (Nat → Int64))) => fun (v_874 : Int32) (g_875 : Nat → Int64) =>
    if nn ≤ v_874 then (
      ((1 : Int32), g_875)) else (
      let x_910 : Int32 := (nn - 1)
      let x_911 : Int32 := (x_910 - v_874)
      let x_912 : Int32 := ((60 : Int32) * to)
      let x_913 : Int32 := (x_912 + j)
      let x_914 : Int32 := (x_913 + x_911)
      let x_915 : Int32 := ((60 : Int32) * t)
      let x_916 : Int32 := (x_915 + i)
      let x_917 : Int32 := (x_916 + x_911)
      let x_918 : Int64 := (g_875 (x_917 : Int32).toNatClampNeg)
      let g_919 : Nat → Int64 := (vp_updL g_875 (x_914 : Int32).toNatClampNeg x_918)
      let x_920 : Int32 := (v_874 + 1)
      G_L158b x_920 g_919)) k9
theorem F_r_pour_L158b_s (t : Int32) (i : Int32) (to : Int32) (j : Int32) (nn : Int32) (n9 : Nat) (v_874 : Int32) (g_875 : Nat → Int64) : F_r_pour_L158b t i to j nn (n9 + 1) v_874 g_875 = (
    if nn ≤ v_874 then (
      ((1 : Int32), g_875)) else (
      let x_910 : Int32 := (nn - 1)
      let x_911 : Int32 := (x_910 - v_874)
      let x_912 : Int32 := ((60 : Int32) * to)
      let x_913 : Int32 := (x_912 + j)
      let x_914 : Int32 := (x_913 + x_911)
      let x_915 : Int32 := ((60 : Int32) * t)
      let x_916 : Int32 := (x_915 + i)
      let x_917 : Int32 := (x_916 + x_911)
      let x_918 : Int64 := (g_875 (x_917 : Int32).toNatClampNeg)
      let g_919 : Nat → Int64 := (vp_updL g_875 (x_914 : Int32).toNatClampNeg x_918)
      let x_920 : Int32 := (v_874 + 1)
      (F_r_pour_L158b t i to j nn n9) x_920 g_919)) := rfl
noncomputable def F_r_pour (g_traySort : Nat → Int32) (g_trayMany : Nat → Int32) (g_numbers : Nat → Int64) (t : Int32) (i : Int32) (to : Int32) (j : Int32) (nn : Int32) : Int32 × (Nat → Int64) :=
  if t < 0 then (
    let w_6 := F_r_no 1
    let r_4 : Int32 := w_6.1
    let n_3 : Int32 := w_6.2
    ((0 : Int32), g_numbers)) else (
    if 4 ≤ t then (
      let w_14 := F_r_no 1
      let r_12 : Int32 := w_14.1
      let n_11 : Int32 := w_14.2
      ((0 : Int32), g_numbers)) else (
      if to < 0 then (
        let w_22 := F_r_no 1
        let r_20 : Int32 := w_22.1
        let n_19 : Int32 := w_22.2
        ((0 : Int32), g_numbers)) else (
        if to < 4 then (
          let x_27 : Int32 := (g_trayMany (t : Int32).toNatClampNeg)
          if x_27 < 0 then (
            let w_33 := F_r_no 3
            let r_31 : Int32 := w_33.1
            let n_30 : Int32 := w_33.2
            ((0 : Int32), g_numbers)) else (
            let x_36 : Int32 := (g_trayMany (to : Int32).toNatClampNeg)
            if 0 ≤ x_36 then (
              let x_39 : Int32 := (g_traySort (t : Int32).toNatClampNeg)
              let x_40 : Int32 := (g_traySort (to : Int32).toNatClampNeg)
              if x_39 = x_40 then (
                if 0 ≤ nn then (
                  if i < 0 then (
                    let w_50 := F_r_no 4
                    let r_48 : Int32 := w_50.1
                    let n_47 : Int32 := w_50.2
                    ((0 : Int32), g_numbers)) else (
                    if j < 0 then (
                      let w_58 := F_r_no 4
                      let r_56 : Int32 := w_58.1
                      let n_55 : Int32 := w_58.2
                      ((0 : Int32), g_numbers)) else (
                      let x_61 : Int64 := ((i).toInt64)
                      let x_62 : Int64 := ((nn).toInt64)
                      let x_63 : Int64 := (x_61 + x_62)
                      let x_64 : Int32 := (g_trayMany (t : Int32).toNatClampNeg)
                      let x_65 : Int64 := ((x_64).toInt64)
                      if 0 < (lg_cmp x_63 x_65) then (
                        let w_71 := F_r_no 4
                        let r_69 : Int32 := w_71.1
                        let n_68 : Int32 := w_71.2
                        ((0 : Int32), g_numbers)) else (
                        let x_74 : Int64 := ((j).toInt64)
                        let x_75 : Int64 := ((nn).toInt64)
                        let x_76 : Int64 := (x_74 + x_75)
                        let x_77 : Int32 := (g_trayMany (to : Int32).toNatClampNeg)
                        let x_78 : Int64 := ((x_77).toInt64)
                        if (lg_cmp x_76 x_78) ≤ 0 then (
                          if j ≤ i then (
                            F_r_pour_L158a t i to j nn ((2147483647 - (0 : Int32).toInt).toNat + 1) (0 : Int32) g_numbers) else (
                            F_r_pour_L158b t i to j nn ((2147483647 - (0 : Int32).toInt).toNat + 1) (0 : Int32) g_numbers)) else (
                          let w_927 := F_r_no 4
                          let r_925 : Int32 := w_927.1
                          let n_924 : Int32 := w_927.2
                          ((0 : Int32), g_numbers)))))) else (
                  let w_933 := F_r_no 6
                  let r_931 : Int32 := w_933.1
                  let n_930 : Int32 := w_933.2
                  ((0 : Int32), g_numbers))) else (
                let w_939 := F_r_no 11
                let r_937 : Int32 := w_939.1
                let n_936 : Int32 := w_939.2
                ((0 : Int32), g_numbers))) else (
              let w_945 := F_r_no 3
              let r_943 : Int32 := w_945.1
              let n_942 : Int32 := w_945.2
              ((0 : Int32), g_numbers)))) else (
          let w_951 := F_r_no 1
          let r_949 : Int32 := w_951.1
          let n_948 : Int32 := w_951.2
          ((0 : Int32), g_numbers)))))
theorem F_r_pour_s (g_traySort : Nat → Int32) (g_trayMany : Nat → Int32) (g_numbers : Nat → Int64) (t : Int32) (i : Int32) (to : Int32) (j : Int32) (nn : Int32) : F_r_pour g_traySort g_trayMany g_numbers t i to j nn = (
  if t < 0 then (
    let w_6 := F_r_no 1
    let r_4 : Int32 := w_6.1
    let n_3 : Int32 := w_6.2
    ((0 : Int32), g_numbers)) else (
    if 4 ≤ t then (
      let w_14 := F_r_no 1
      let r_12 : Int32 := w_14.1
      let n_11 : Int32 := w_14.2
      ((0 : Int32), g_numbers)) else (
      if to < 0 then (
        let w_22 := F_r_no 1
        let r_20 : Int32 := w_22.1
        let n_19 : Int32 := w_22.2
        ((0 : Int32), g_numbers)) else (
        if to < 4 then (
          let x_27 : Int32 := (g_trayMany (t : Int32).toNatClampNeg)
          if x_27 < 0 then (
            let w_33 := F_r_no 3
            let r_31 : Int32 := w_33.1
            let n_30 : Int32 := w_33.2
            ((0 : Int32), g_numbers)) else (
            let x_36 : Int32 := (g_trayMany (to : Int32).toNatClampNeg)
            if 0 ≤ x_36 then (
              let x_39 : Int32 := (g_traySort (t : Int32).toNatClampNeg)
              let x_40 : Int32 := (g_traySort (to : Int32).toNatClampNeg)
              if x_39 = x_40 then (
                if 0 ≤ nn then (
                  if i < 0 then (
                    let w_50 := F_r_no 4
                    let r_48 : Int32 := w_50.1
                    let n_47 : Int32 := w_50.2
                    ((0 : Int32), g_numbers)) else (
                    if j < 0 then (
                      let w_58 := F_r_no 4
                      let r_56 : Int32 := w_58.1
                      let n_55 : Int32 := w_58.2
                      ((0 : Int32), g_numbers)) else (
                      let x_61 : Int64 := ((i).toInt64)
                      let x_62 : Int64 := ((nn).toInt64)
                      let x_63 : Int64 := (x_61 + x_62)
                      let x_64 : Int32 := (g_trayMany (t : Int32).toNatClampNeg)
                      let x_65 : Int64 := ((x_64).toInt64)
                      if 0 < (lg_cmp x_63 x_65) then (
                        let w_71 := F_r_no 4
                        let r_69 : Int32 := w_71.1
                        let n_68 : Int32 := w_71.2
                        ((0 : Int32), g_numbers)) else (
                        let x_74 : Int64 := ((j).toInt64)
                        let x_75 : Int64 := ((nn).toInt64)
                        let x_76 : Int64 := (x_74 + x_75)
                        let x_77 : Int32 := (g_trayMany (to : Int32).toNatClampNeg)
                        let x_78 : Int64 := ((x_77).toInt64)
                        if (lg_cmp x_76 x_78) ≤ 0 then (
                          if j ≤ i then (
                            F_r_pour_L158a t i to j nn ((2147483647 - (0 : Int32).toInt).toNat + 1) (0 : Int32) g_numbers) else (
                            F_r_pour_L158b t i to j nn ((2147483647 - (0 : Int32).toInt).toNat + 1) (0 : Int32) g_numbers)) else (
                          let w_927 := F_r_no 4
                          let r_925 : Int32 := w_927.1
                          let n_924 : Int32 := w_927.2
                          ((0 : Int32), g_numbers)))))) else (
                  let w_933 := F_r_no 6
                  let r_931 : Int32 := w_933.1
                  let n_930 : Int32 := w_933.2
                  ((0 : Int32), g_numbers))) else (
                let w_939 := F_r_no 11
                let r_937 : Int32 := w_939.1
                let n_936 : Int32 := w_939.2
                ((0 : Int32), g_numbers))) else (
              let w_945 := F_r_no 3
              let r_943 : Int32 := w_945.1
              let n_942 : Int32 := w_945.2
              ((0 : Int32), g_numbers)))) else (
          let w_951 := F_r_no 1
          let r_949 : Int32 := w_951.1
          let n_948 : Int32 := w_951.2
          ((0 : Int32), g_numbers)))))) := rfl
noncomputable def F_r_tray_ok_L74a (t : Int32) (nn : Int32) (g_31 : Nat → Int32) (g_32 : Nat → Int32) : Nat → Int32 → (Nat → Int64) → (Int32 × (Nat → Int32) × (Nat → Int32) × (Nat → Int64)) := fun k9 => Nat.rec (motive := fun _ => Int32 → (Nat → Int64) → (Int32 × (Nat → Int32) × (Nat → Int32) × (Nat → Int64))) (fun _ _ => default) (fun _ (G_L74a : Int32 → (Nat → Int64) → (Int32 × (Nat → Int32) × (Nat → Int32) × (Nat → Int64))) => fun (v_255 : Int32) (g_256 : Nat → Int64) =>
    if nn ≤ v_255 then (
      ((1 : Int32), g_31, g_32, g_256)) else (
      let x_277 : Int32 := ((60 : Int32) * t)
      let x_278 : Int32 := (x_277 + v_255)
      let g_279 : Nat → Int64 := (vp_updL g_256 (x_278 : Int32).toNatClampNeg 0)
      let x_280 : Int32 := (v_255 + 1)
      G_L74a x_280 g_279)) k9
theorem F_r_tray_ok_L74a_s (t : Int32) (nn : Int32) (g_31 : Nat → Int32) (g_32 : Nat → Int32) (n9 : Nat) (v_255 : Int32) (g_256 : Nat → Int64) : F_r_tray_ok_L74a t nn g_31 g_32 (n9 + 1) v_255 g_256 = (
    if nn ≤ v_255 then (
      ((1 : Int32), g_31, g_32, g_256)) else (
      let x_277 : Int32 := ((60 : Int32) * t)
      let x_278 : Int32 := (x_277 + v_255)
      let g_279 : Nat → Int64 := (vp_updL g_256 (x_278 : Int32).toNatClampNeg 0)
      let x_280 : Int32 := (v_255 + 1)
      (F_r_tray_ok_L74a t nn g_31 g_32 n9) x_280 g_279)) := rfl
noncomputable def F_r_tray_ok (g_traySort : Nat → Int32) (g_trayMany : Nat → Int32) (g_numbers : Nat → Int64) (t : Int32) (ss : Int32) (nn : Int32) : Int32 × (Nat → Int32) × (Nat → Int32) × (Nat → Int64) :=
  if t < 0 then (
    let w_6 := F_r_no 1
    let r_4 : Int32 := w_6.1
    let n_3 : Int32 := w_6.2
    ((0 : Int32), g_traySort, g_trayMany, g_numbers)) else (
    if 4 ≤ t then (
      let w_14 := F_r_no 1
      let r_12 : Int32 := w_14.1
      let n_11 : Int32 := w_14.2
      ((0 : Int32), g_traySort, g_trayMany, g_numbers)) else (
      if ss < 0 then (
        let w_22 := F_r_no 1
        let r_20 : Int32 := w_22.1
        let n_19 : Int32 := w_22.2
        ((0 : Int32), g_traySort, g_trayMany, g_numbers)) else (
        if ss ≤ 3 then (
          if nn ≤ 60 then (
            if 0 ≤ nn then (
              let g_31 : Nat → Int32 := (upd g_traySort (t : Int32).toNatClampNeg ss)
              let g_32 : Nat → Int32 := (upd g_trayMany (t : Int32).toNatClampNeg nn)
              F_r_tray_ok_L74a t nn g_31 g_32 ((2147483647 - (0 : Int32).toInt).toNat + 1) (0 : Int32) g_numbers) else (
              let w_287 := F_r_no 6
              let r_285 : Int32 := w_287.1
              let n_284 : Int32 := w_287.2
              ((0 : Int32), g_traySort, g_trayMany, g_numbers))) else (
            let w_293 := F_r_no 5
            let r_291 : Int32 := w_293.1
            let n_290 : Int32 := w_293.2
            ((0 : Int32), g_traySort, g_trayMany, g_numbers))) else (
          let w_299 := F_r_no 1
          let r_297 : Int32 := w_299.1
          let n_296 : Int32 := w_299.2
          ((0 : Int32), g_traySort, g_trayMany, g_numbers)))))
theorem F_r_tray_ok_s (g_traySort : Nat → Int32) (g_trayMany : Nat → Int32) (g_numbers : Nat → Int64) (t : Int32) (ss : Int32) (nn : Int32) : F_r_tray_ok g_traySort g_trayMany g_numbers t ss nn = (
  if t < 0 then (
    let w_6 := F_r_no 1
    let r_4 : Int32 := w_6.1
    let n_3 : Int32 := w_6.2
    ((0 : Int32), g_traySort, g_trayMany, g_numbers)) else (
    if 4 ≤ t then (
      let w_14 := F_r_no 1
      let r_12 : Int32 := w_14.1
      let n_11 : Int32 := w_14.2
      ((0 : Int32), g_traySort, g_trayMany, g_numbers)) else (
      if ss < 0 then (
        let w_22 := F_r_no 1
        let r_20 : Int32 := w_22.1
        let n_19 : Int32 := w_22.2
        ((0 : Int32), g_traySort, g_trayMany, g_numbers)) else (
        if ss ≤ 3 then (
          if nn ≤ 60 then (
            if 0 ≤ nn then (
              let g_31 : Nat → Int32 := (upd g_traySort (t : Int32).toNatClampNeg ss)
              let g_32 : Nat → Int32 := (upd g_trayMany (t : Int32).toNatClampNeg nn)
              F_r_tray_ok_L74a t nn g_31 g_32 ((2147483647 - (0 : Int32).toInt).toNat + 1) (0 : Int32) g_numbers) else (
              let w_287 := F_r_no 6
              let r_285 : Int32 := w_287.1
              let n_284 : Int32 := w_287.2
              ((0 : Int32), g_traySort, g_trayMany, g_numbers))) else (
            let w_293 := F_r_no 5
            let r_291 : Int32 := w_293.1
            let n_290 : Int32 := w_293.2
            ((0 : Int32), g_traySort, g_trayMany, g_numbers))) else (
          let w_299 := F_r_no 1
          let r_297 : Int32 := w_299.1
          let n_296 : Int32 := w_299.2
          ((0 : Int32), g_traySort, g_trayMany, g_numbers)))))) := rfl
