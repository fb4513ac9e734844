noncomputable def F_Tr_isMissing (T0_many : Int32) : Int32 :=
  if T0_many = (-1) then (
    (1 : Int32)) else (
    (0 : Int32))
theorem F_Tr_isMissing_s (T0_many : Int32) : F_Tr_isMissing T0_many = (
  if T0_many = (-1) then (
    (1 : Int32)) else (
    (0 : Int32))) := rfl
noncomputable def F_Tr_numberAt (c_R0 : Nat → Int64) (k : Int32) : Int64 :=
  let w_3 := F_longAt_60 c_R0 k
  let r_1 : Int64 := w_3
  r_1
theorem F_Tr_numberAt_s (c_R0 : Nat → Int64) (k : Int32) : F_Tr_numberAt c_R0 k = (
  let w_3 := F_longAt_60 c_R0 k
  let r_1 : Int64 := w_3
  r_1) := rfl
noncomputable def F_Da_refused (k : Int32) : Int32 :=
  k
theorem F_Da_refused_s (k : Int32) : F_Da_refused k = (
  k) := rfl
noncomputable def F_Da_done : Int32 :=
  (0 : Int32)
theorem F_Da_done_s : F_Da_done = (
  (0 : Int32)) := rfl
noncomputable def F_Da_none (k : Int32) : Int32 :=
  k
theorem F_Da_none_s (k : Int32) : F_Da_none k = (
  k) := rfl
noncomputable def F_Da_told : Int32 :=
  (0 : Int32)
theorem F_Da_told_s : F_Da_told = (
  (0 : Int32)) := rfl
noncomputable def F_Da_isWay (k : Int32) : Int32 :=
  if k = 0 then (
    (1 : Int32)) else (
    if k = 1 then (
      (1 : Int32)) else (
      (0 : Int32)))
theorem F_Da_isWay_s (k : Int32) : F_Da_isWay k = (
  if k = 0 then (
    (1 : Int32)) else (
    if k = 1 then (
      (1 : Int32)) else (
      (0 : Int32)))) := rfl
noncomputable def F_X_feed (t_fed : Int32) (c_tape : Nat → Int32) (k1 : Int32) (k2 : Int32) (k3 : Int32) (k4 : Int32) (k5 : Int32) : Int32 × Int32 × (Nat → Int32) :=
  let w_3 := F_Te_hasRoom t_fed 20
  let r_1 : Int32 := w_3
  if r_1 = 0 then (
    ((-1 : Int32), t_fed, c_tape)) else (
    let w_10 := F_Te_append t_fed c_tape k1
    let nw0_6 : Int32 := w_10.1
    let nw1_7 : Nat → Int32 := w_10.2
    let w_15 := F_Te_append nw0_6 nw1_7 k2
    let nw0_11 : Int32 := w_15.1
    let nw1_12 : Nat → Int32 := w_15.2
    let w_20 := F_Te_append nw0_11 nw1_12 k3
    let nw0_16 : Int32 := w_20.1
    let nw1_17 : Nat → Int32 := w_20.2
    let w_25 := F_Te_append nw0_16 nw1_17 k4
    let nw0_21 : Int32 := w_25.1
    let nw1_22 : Nat → Int32 := w_25.2
    let w_30 := F_Te_append nw0_21 nw1_22 k5
    let nw0_26 : Int32 := w_30.1
    let nw1_27 : Nat → Int32 := w_30.2
    (nw0_26, nw0_26, nw1_27))
theorem F_X_feed_s (t_fed : Int32) (c_tape : Nat → Int32) (k1 : Int32) (k2 : Int32) (k3 : Int32) (k4 : Int32) (k5 : Int32) : F_X_feed t_fed c_tape k1 k2 k3 k4 k5 = (
  let w_3 := F_Te_hasRoom t_fed 20
  let r_1 : Int32 := w_3
  if r_1 = 0 then (
    ((-1 : Int32), t_fed, c_tape)) else (
    let w_10 := F_Te_append t_fed c_tape k1
    let nw0_6 : Int32 := w_10.1
    let nw1_7 : Nat → Int32 := w_10.2
    let w_15 := F_Te_append nw0_6 nw1_7 k2
    let nw0_11 : Int32 := w_15.1
    let nw1_12 : Nat → Int32 := w_15.2
    let w_20 := F_Te_append nw0_11 nw1_12 k3
    let nw0_16 : Int32 := w_20.1
    let nw1_17 : Nat → Int32 := w_20.2
    let w_25 := F_Te_append nw0_16 nw1_17 k4
    let nw0_21 : Int32 := w_25.1
    let nw1_22 : Nat → Int32 := w_25.2
    let w_30 := F_Te_append nw0_21 nw1_22 k5
    let nw0_26 : Int32 := w_30.1
    let nw1_27 : Nat → Int32 := w_30.2
    (nw0_26, nw0_26, nw1_27))) := rfl
noncomputable def F_X_fault (t_fault : Int32) (t_faultPlace : Int32) (k1 : Int32) : Int32 :=
  if k1 = 0 then (
    t_fault) else (
    if k1 = 1 then (
      t_faultPlace) else (
      (-1 : Int32)))
theorem F_X_fault_s (t_fault : Int32) (t_faultPlace : Int32) (k1 : Int32) : F_X_fault t_fault t_faultPlace k1 = (
  if k1 = 0 then (
    t_fault) else (
    if k1 = 1 then (
      t_faultPlace) else (
      (-1 : Int32)))) := rfl
noncomputable def F_X_feature (h_features : Int32) (c_h_steps : Nat → Int32) (c_h_turnedFeatures : Nat → Int32) (k1 : Int32) (k2 : Int32) : Int32 × Int32 :=
  let w_3 := F_H_hasFeature h_features k1
  let r_1 : Int32 := w_3
  if r_1 = 0 then (
    let w_45 := F_Da_none 2
    let nw0_42 : Int32 := w_45
    ((-1 : Int32), nw0_42)) else (
    if k2 = 0 then (
      let w_35 := F_H_stepsOf h_features c_h_steps k1
      let r_33 : Int32 := w_35
      let w_39 := F_Da_told
      let nw0_36 : Int32 := w_39
      (r_33, nw0_36)) else (
      if k2 = 1 then (
        let w_18 := F_H_isTurned h_features c_h_turnedFeatures k1
        let r_16 : Int32 := w_18
        if r_16 = 0 then (
          let w_24 := F_Da_told
          let nw0_21 : Int32 := w_24
          ((0 : Int32), nw0_21)) else (
          let w_30 := F_Da_told
          let nw0_27 : Int32 := w_30
          ((1 : Int32), nw0_27))) else (
        let w_13 := F_Da_none 5
        let nw0_10 : Int32 := w_13
        ((-1 : Int32), nw0_10))))
theorem F_X_feature_s (h_features : Int32) (c_h_steps : Nat → Int32) (c_h_turnedFeatures : Nat → Int32) (k1 : Int32) (k2 : Int32) : F_X_feature h_features c_h_steps c_h_turnedFeatures k1 k2 = (
  let w_3 := F_H_hasFeature h_features k1
  let r_1 : Int32 := w_3
  if r_1 = 0 then (
    let w_45 := F_Da_none 2
    let nw0_42 : Int32 := w_45
    ((-1 : Int32), nw0_42)) else (
    if k2 = 0 then (
      let w_35 := F_H_stepsOf h_features c_h_steps k1
      let r_33 : Int32 := w_35
      let w_39 := F_Da_told
      let nw0_36 : Int32 := w_39
      (r_33, nw0_36)) else (
      if k2 = 1 then (
        let w_18 := F_H_isTurned h_features c_h_turnedFeatures k1
        let r_16 : Int32 := w_18
        if r_16 = 0 then (
          let w_24 := F_Da_told
          let nw0_21 : Int32 := w_24
          ((0 : Int32), nw0_21)) else (
          let w_30 := F_Da_told
          let nw0_27 : Int32 := w_30
          ((1 : Int32), nw0_27))) else (
        let w_13 := F_Da_none 5
        let nw0_10 : Int32 := w_13
        ((-1 : Int32), nw0_10))))) := rfl
noncomputable def F_X_feels (h_features : Int32) (c_h_steps : Nat → Int32) (c_h_sixteenths : Nat → Int32) (k1 : Int32) (k2 : Int32) (k3 : Int32) : Int32 × Int32 :=
  let w_3 := F_H_hasStep h_features c_h_steps k1 k2
  let r_1 : Int32 := w_3
  if r_1 = 0 then (
    let w_9 := F_Da_none 2
    let nw0_6 : Int32 := w_9
    ((-1 : Int32), nw0_6)) else (
    let w_14 := F_H_hasStep h_features c_h_steps k1 k3
    let r_12 : Int32 := w_14
    if r_12 = 0 then (
      let w_29 := F_Da_none 2
      let nw0_26 : Int32 := w_29
      ((-1 : Int32), nw0_26)) else (
      let w_19 := F_H_feltAs c_h_sixteenths k1 k2 k3
      let r_17 : Int32 := w_19
      let w_23 := F_Da_told
      let nw0_20 : Int32 := w_23
      (r_17, nw0_20)))
theorem F_X_feels_s (h_features : Int32) (c_h_steps : Nat → Int32) (c_h_sixteenths : Nat → Int32) (k1 : Int32) (k2 : Int32) (k3 : Int32) : F_X_feels h_features c_h_steps c_h_sixteenths k1 k2 k3 = (
  let w_3 := F_H_hasStep h_features c_h_steps k1 k2
  let r_1 : Int32 := w_3
  if r_1 = 0 then (
    let w_9 := F_Da_none 2
    let nw0_6 : Int32 := w_9
    ((-1 : Int32), nw0_6)) else (
    let w_14 := F_H_hasStep h_features c_h_steps k1 k3
    let r_12 : Int32 := w_14
    if r_12 = 0 then (
      let w_29 := F_Da_none 2
      let nw0_26 : Int32 := w_29
      ((-1 : Int32), nw0_26)) else (
      let w_19 := F_H_feltAs c_h_sixteenths k1 k2 k3
      let r_17 : Int32 := w_19
      let w_23 := F_Da_told
      let nw0_20 : Int32 := w_23
      (r_17, nw0_20)))) := rfl
noncomputable def F_X_stepOf (h_features : Int32) (h_keys : Int32) (c_h_steps : Nat → Int32) (c_h_turnedFeatures : Nat → Int32) (c_h_keySteps : Nat → Int32) (k1 : Int32) (k2 : Int32) : Int32 × Int32 :=
  let w_3 := F_H_hasKey h_keys k1
  let r_1 : Int32 := w_3
  if r_1 = 0 then (
    let w_9 := F_Da_none 2
    let nw0_6 : Int32 := w_9
    ((-1 : Int32), nw0_6)) else (
    let w_14 := F_H_hasFeature h_features k2
    let r_12 : Int32 := w_14
    if r_12 = 0 then (
      let w_29 := F_Da_none 2
      let nw0_26 : Int32 := w_29
      ((-1 : Int32), nw0_26)) else (
      let w_19 := F_H_stepAt h_features h_keys c_h_steps c_h_turnedFeatures c_h_keySteps k1 k2 0
      let r_17 : Int32 := w_19
      let w_23 := F_Da_told
      let nw0_20 : Int32 := w_23
      (r_17, nw0_20)))
theorem F_X_stepOf_s (h_features : Int32) (h_keys : Int32) (c_h_steps : Nat → Int32) (c_h_turnedFeatures : Nat → Int32) (c_h_keySteps : Nat → Int32) (k1 : Int32) (k2 : Int32) : F_X_stepOf h_features h_keys c_h_steps c_h_turnedFeatures c_h_keySteps k1 k2 = (
  let w_3 := F_H_hasKey h_keys k1
  let r_1 : Int32 := w_3
  if r_1 = 0 then (
    let w_9 := F_Da_none 2
    let nw0_6 : Int32 := w_9
    ((-1 : Int32), nw0_6)) else (
    let w_14 := F_H_hasFeature h_features k2
    let r_12 : Int32 := w_14
    if r_12 = 0 then (
      let w_29 := F_Da_none 2
      let nw0_26 : Int32 := w_29
      ((-1 : Int32), nw0_26)) else (
      let w_19 := F_H_stepAt h_features h_keys c_h_steps c_h_turnedFeatures c_h_keySteps k1 k2 0
      let r_17 : Int32 := w_19
      let w_23 := F_Da_told
      let nw0_20 : Int32 := w_23
      (r_17, nw0_20)))) := rfl
noncomputable def F_X_door (h_doors : Int32) (c_h_wanted : Nat → Int32) (c_h_openers : Nat → Int32) (k1 : Int32) (k2 : Int32) : Int32 × Int32 :=
  let w_3 := F_H_hasDoor h_doors k1
  let r_1 : Int32 := w_3
  if r_1 = 0 then (
    let w_37 := F_Da_none 2
    let nw0_34 : Int32 := w_37
    ((-1 : Int32), nw0_34)) else (
    if k2 = 0 then (
      let w_27 := F_H_wantedOf h_doors c_h_wanted k1
      let r_25 : Int32 := w_27
      let w_31 := F_Da_told
      let nw0_28 : Int32 := w_31
      (r_25, nw0_28)) else (
      if k2 = 1 then (
        let w_18 := F_H_openersOf h_doors c_h_openers k1
        let r_16 : Int32 := w_18
        let w_22 := F_Da_told
        let nw0_19 : Int32 := w_22
        (r_16, nw0_19)) else (
        let w_13 := F_Da_none 5
        let nw0_10 : Int32 := w_13
        ((-1 : Int32), nw0_10))))
theorem F_X_door_s (h_doors : Int32) (c_h_wanted : Nat → Int32) (c_h_openers : Nat → Int32) (k1 : Int32) (k2 : Int32) : F_X_door h_doors c_h_wanted c_h_openers k1 k2 = (
  let w_3 := F_H_hasDoor h_doors k1
  let r_1 : Int32 := w_3
  if r_1 = 0 then (
    let w_37 := F_Da_none 2
    let nw0_34 : Int32 := w_37
    ((-1 : Int32), nw0_34)) else (
    if k2 = 0 then (
      let w_27 := F_H_wantedOf h_doors c_h_wanted k1
      let r_25 : Int32 := w_27
      let w_31 := F_Da_told
      let nw0_28 : Int32 := w_31
      (r_25, nw0_28)) else (
      if k2 = 1 then (
        let w_18 := F_H_openersOf h_doors c_h_openers k1
        let r_16 : Int32 := w_18
        let w_22 := F_Da_told
        let nw0_19 : Int32 := w_22
        (r_16, nw0_19)) else (
        let w_13 := F_Da_none 5
        let nw0_10 : Int32 := w_13
        ((-1 : Int32), nw0_10))))) := rfl
noncomputable def F_X_round (h_roundMany : Int32) (c_h_roundDoors : Nat → Int32) (k1 : Int32) : Int32 × Int32 :=
  if k1 < 0 then (
    let w_6 := F_Da_none 8
    let nw0_3 : Int32 := w_6
    ((-1 : Int32), nw0_3)) else (
    if k1 < h_roundMany then (
      let w_13 := F_at_12 c_h_roundDoors k1
      let r_11 : Int32 := w_13
      let w_17 := F_Da_told
      let nw0_14 : Int32 := w_17
      (r_11, nw0_14)) else (
      let w_23 := F_Da_none 8
      let nw0_20 : Int32 := w_23
      ((-1 : Int32), nw0_20)))
theorem F_X_round_s (h_roundMany : Int32) (c_h_roundDoors : Nat → Int32) (k1 : Int32) : F_X_round h_roundMany c_h_roundDoors k1 = (
  if k1 < 0 then (
    let w_6 := F_Da_none 8
    let nw0_3 : Int32 := w_6
    ((-1 : Int32), nw0_3)) else (
    if k1 < h_roundMany then (
      let w_13 := F_at_12 c_h_roundDoors k1
      let r_11 : Int32 := w_13
      let w_17 := F_Da_told
      let nw0_14 : Int32 := w_17
      (r_11, nw0_14)) else (
      let w_23 := F_Da_none 8
      let nw0_20 : Int32 := w_23
      ((-1 : Int32), nw0_20)))) := rfl
noncomputable def F_X_lend (h_keys : Int32) (h_lent : Int32) (h_rings : Int32) (c_h_on : Nat → Int32) (c_h_onMany : Nat → Int32) (o_held : Int32) (k1 : Int32) (k2 : Int32) : Int32 × Int32 × Int32 × Int32 :=
  let w_3 := F_H_hasKey h_keys k1
  let r_1 : Int32 := w_3
  if r_1 = 0 then (
    let w_26 := F_Da_refused 2
    let nw0_23 : Int32 := w_26
    ((0 : Int32), nw0_23, h_lent, o_held)) else (
    let w_9 := F_H_setLent h_keys h_lent k1 k2
    let nw0_6 : Int32 := w_9
    let w_12 := F_H_ringOf h_rings c_h_on c_h_onMany k1
    let r_10 : Int32 := w_12
    let w_16 := F_Th_letGoOf o_held r_10
    let nw0_13 : Int32 := w_16
    let w_20 := F_Da_done
    let nw0_17 : Int32 := w_20
    ((1 : Int32), nw0_17, nw0_6, nw0_13))
theorem F_X_lend_s (h_keys : Int32) (h_lent : Int32) (h_rings : Int32) (c_h_on : Nat → Int32) (c_h_onMany : Nat → Int32) (o_held : Int32) (k1 : Int32) (k2 : Int32) : F_X_lend h_keys h_lent h_rings c_h_on c_h_onMany o_held k1 k2 = (
  let w_3 := F_H_hasKey h_keys k1
  let r_1 : Int32 := w_3
  if r_1 = 0 then (
    let w_26 := F_Da_refused 2
    let nw0_23 : Int32 := w_26
    ((0 : Int32), nw0_23, h_lent, o_held)) else (
    let w_9 := F_H_setLent h_keys h_lent k1 k2
    let nw0_6 : Int32 := w_9
    let w_12 := F_H_ringOf h_rings c_h_on c_h_onMany k1
    let r_10 : Int32 := w_12
    let w_16 := F_Th_letGoOf o_held r_10
    let nw0_13 : Int32 := w_16
    let w_20 := F_Da_done
    let nw0_17 : Int32 := w_20
    ((1 : Int32), nw0_17, nw0_6, nw0_13))) := rfl
noncomputable def F_X_put (h_keys : Int32) (h_rings : Int32) (c_h_on : Nat → Int32) (c_h_onMany : Nat → Int32) (o_held : Int32) (k1 : Int32) (k2 : Int32) (k3 : Int32) : Int32 × Int32 × (Nat → Int32) × (Nat → Int32) × Int32 :=
  let w_3 := F_H_hasKey h_keys k1
  let r_1 : Int32 := w_3
  if r_1 = 0 then (
    let w_9 := F_Da_refused 2
    let nw0_6 : Int32 := w_9
    ((0 : Int32), nw0_6, c_h_on, c_h_onMany, o_held)) else (
    let w_14 := F_H_hasRing h_rings k2
    let r_12 : Int32 := w_14
    if r_12 = 0 then (
      let w_65 := F_Da_refused 2
      let nw0_62 : Int32 := w_65
      ((0 : Int32), nw0_62, c_h_on, c_h_onMany, o_held)) else (
      if k3 < 0 then (
        let w_22 := F_Da_refused 5
        let nw0_19 : Int32 := w_22
        ((0 : Int32), nw0_19, c_h_on, c_h_onMany, o_held)) else (
        let w_27 := F_H_manyOn h_rings c_h_onMany k2
        let r_25 : Int32 := w_27
        if k3 ≤ r_25 then (
          let w_32 := F_H_ringOf h_rings c_h_on c_h_onMany k1
          let r_30 : Int32 := w_32
          if r_30 = (-1) then (
            let w_39 := F_H_putOn h_rings c_h_on c_h_onMany k1 k2 k3
            let nw0_35 : Nat → Int32 := w_39.1
            let nw1_36 : Nat → Int32 := w_39.2
            let w_43 := F_Th_letGoOf o_held k2
            let nw0_40 : Int32 := w_43
            let w_47 := F_Da_done
            let nw0_44 : Int32 := w_47
            ((1 : Int32), nw0_44, nw0_35, nw1_36, nw0_40)) else (
            let w_53 := F_Da_refused 9
            let nw0_50 : Int32 := w_53
            ((0 : Int32), nw0_50, c_h_on, c_h_onMany, o_held))) else (
          let w_59 := F_Da_refused 5
          let nw0_56 : Int32 := w_59
          ((0 : Int32), nw0_56, c_h_on, c_h_onMany, o_held)))))
theorem F_X_put_s (h_keys : Int32) (h_rings : Int32) (c_h_on : Nat → Int32) (c_h_onMany : Nat → Int32) (o_held : Int32) (k1 : Int32) (k2 : Int32) (k3 : Int32) : F_X_put h_keys h_rings c_h_on c_h_onMany o_held k1 k2 k3 = (
  let w_3 := F_H_hasKey h_keys k1
  let r_1 : Int32 := w_3
  if r_1 = 0 then (
    let w_9 := F_Da_refused 2
    let nw0_6 : Int32 := w_9
    ((0 : Int32), nw0_6, c_h_on, c_h_onMany, o_held)) else (
    let w_14 := F_H_hasRing h_rings k2
    let r_12 : Int32 := w_14
    if r_12 = 0 then (
      let w_65 := F_Da_refused 2
      let nw0_62 : Int32 := w_65
      ((0 : Int32), nw0_62, c_h_on, c_h_onMany, o_held)) else (
      if k3 < 0 then (
        let w_22 := F_Da_refused 5
        let nw0_19 : Int32 := w_22
        ((0 : Int32), nw0_19, c_h_on, c_h_onMany, o_held)) else (
        let w_27 := F_H_manyOn h_rings c_h_onMany k2
        let r_25 : Int32 := w_27
        if k3 ≤ r_25 then (
          let w_32 := F_H_ringOf h_rings c_h_on c_h_onMany k1
          let r_30 : Int32 := w_32
          if r_30 = (-1) then (
            let w_39 := F_H_putOn h_rings c_h_on c_h_onMany k1 k2 k3
            let nw0_35 : Nat → Int32 := w_39.1
            let nw1_36 : Nat → Int32 := w_39.2
            let w_43 := F_Th_letGoOf o_held k2
            let nw0_40 : Int32 := w_43
            let w_47 := F_Da_done
            let nw0_44 : Int32 := w_47
            ((1 : Int32), nw0_44, nw0_35, nw1_36, nw0_40)) else (
            let w_53 := F_Da_refused 9
            let nw0_50 : Int32 := w_53
            ((0 : Int32), nw0_50, c_h_on, c_h_onMany, o_held))) else (
          let w_59 := F_Da_refused 5
          let nw0_56 : Int32 := w_59
          ((0 : Int32), nw0_56, c_h_on, c_h_onMany, o_held)))))) := rfl
noncomputable def F_X_off (h_keys : Int32) (h_rings : Int32) (c_h_on : Nat → Int32) (c_h_onMany : Nat → Int32) (o_held : Int32) (k1 : Int32) : Int32 × Int32 × (Nat → Int32) × (Nat → Int32) × Int32 :=
  let w_3 := F_H_hasKey h_keys k1
  let r_1 : Int32 := w_3
  if r_1 = 0 then (
    let w_35 := F_Da_refused 2
    let nw0_32 : Int32 := w_35
    ((0 : Int32), nw0_32, c_h_on, c_h_onMany, o_held)) else (
    let w_8 := F_H_ringOf h_rings c_h_on c_h_onMany k1
    let r_6 : Int32 := w_8
    if r_6 = (-1) then (
      let w_29 := F_Da_refused 8
      let nw0_26 : Int32 := w_29
      ((0 : Int32), nw0_26, c_h_on, c_h_onMany, o_held)) else (
      let w_15 := F_H_takeOff h_rings c_h_on c_h_onMany k1 r_6
      let nw0_11 : Nat → Int32 := w_15.1
      let nw1_12 : Nat → Int32 := w_15.2
      let w_19 := F_Th_letGoOf o_held r_6
      let nw0_16 : Int32 := w_19
      let w_23 := F_Da_done
      let nw0_20 : Int32 := w_23
      ((1 : Int32), nw0_20, nw0_11, nw1_12, nw0_16)))
theorem F_X_off_s (h_keys : Int32) (h_rings : Int32) (c_h_on : Nat → Int32) (c_h_onMany : Nat → Int32) (o_held : Int32) (k1 : Int32) : F_X_off h_keys h_rings c_h_on c_h_onMany o_held k1 = (
  let w_3 := F_H_hasKey h_keys k1
  let r_1 : Int32 := w_3
  if r_1 = 0 then (
    let w_35 := F_Da_refused 2
    let nw0_32 : Int32 := w_35
    ((0 : Int32), nw0_32, c_h_on, c_h_onMany, o_held)) else (
    let w_8 := F_H_ringOf h_rings c_h_on c_h_onMany k1
    let r_6 : Int32 := w_8
    if r_6 = (-1) then (
      let w_29 := F_Da_refused 8
      let nw0_26 : Int32 := w_29
      ((0 : Int32), nw0_26, c_h_on, c_h_onMany, o_held)) else (
      let w_15 := F_H_takeOff h_rings c_h_on c_h_onMany k1 r_6
      let nw0_11 : Nat → Int32 := w_15.1
      let nw1_12 : Nat → Int32 := w_15.2
      let w_19 := F_Th_letGoOf o_held r_6
      let nw0_16 : Int32 := w_19
      let w_23 := F_Da_done
      let nw0_20 : Int32 := w_23
      ((1 : Int32), nw0_20, nw0_11, nw1_12, nw0_16)))) := rfl
noncomputable def F_X_take (h_keys : Int32) (h_lent : Int32) (h_rings : Int32) (c_h_on : Nat → Int32) (c_h_onMany : Nat → Int32) (k1 : Int32) : Int32 :=
  let w_3 := F_H_hasRing h_rings k1
  let r_1 : Int32 := w_3
  if r_1 = 0 then (
    let w_33 := F_Da_refused 2
    let nw0_30 : Int32 := w_33
    (0 : Int32)) else (
    let w_8 := F_H_manyThere h_keys h_lent h_rings c_h_on c_h_onMany k1
    let r_6 : Int32 := w_8
    if r_6 = 0 then (
      let w_27 := F_Da_refused 8
      let nw0_24 : Int32 := w_27
      (0 : Int32)) else (
      let w_21 := F_Da_done
      let nw0_18 : Int32 := w_21
      (1 : Int32)))
theorem F_X_take_s (h_keys : Int32) (h_lent : Int32) (h_rings : Int32) (c_h_on : Nat → Int32) (c_h_onMany : Nat → Int32) (k1 : Int32) : F_X_take h_keys h_lent h_rings c_h_on c_h_onMany k1 = (
  let w_3 := F_H_hasRing h_rings k1
  let r_1 : Int32 := w_3
  if r_1 = 0 then (
    let w_33 := F_Da_refused 2
    let nw0_30 : Int32 := w_33
    (0 : Int32)) else (
    let w_8 := F_H_manyThere h_keys h_lent h_rings c_h_on c_h_onMany k1
    let r_6 : Int32 := w_8
    if r_6 = 0 then (
      let w_27 := F_Da_refused 8
      let nw0_24 : Int32 := w_27
      (0 : Int32)) else (
      let w_21 := F_Da_done
      let nw0_18 : Int32 := w_21
      (1 : Int32)))) := rfl
noncomputable def F_X_from (h_keys : Int32) (h_lent : Int32) (h_rings : Int32) (h_doors : Int32) (c_h_on : Nat → Int32) (c_h_onMany : Nat → Int32) (c_h_wanted : Nat → Int32) (c_h_openers : Nat → Int32) (c_h_seconds : Nat → Int32) (c_se_row : Nat → Int32) (k1 : Int32) (k2 : Int32) (k3 : Int32) : Int32 :=
  let w_3 := F_H_hasRing h_rings k1
  let r_1 : Int32 := w_3
  if r_1 = 0 then (
    let w_59 := F_Da_refused 2
    let nw0_56 : Int32 := w_59
    (0 : Int32)) else (
    let w_10 := F_Se_load h_keys h_lent h_rings c_h_on c_h_onMany c_se_row k1
    let nw0_6 : Int32 := w_10.1
    let nw1_7 : Nat → Int32 := w_10.2
    let w_13 := F_Se_hasPlace nw0_6 k2
    let r_11 : Int32 := w_13
    if r_11 = 0 then (
      let w_19 := F_Da_refused 5
      let nw0_16 : Int32 := w_19
      (0 : Int32)) else (
      let w_24 := F_Da_isWay k3
      let r_22 : Int32 := w_24
      if r_22 = 0 then (
        let w_53 := F_Da_refused 5
        let nw0_50 : Int32 := w_53
        (0 : Int32)) else (
        let w_29 := F_Se_wantedTogether nw0_6 h_doors c_h_wanted c_h_openers nw1_7
        let r_27 : Int32 := w_29
        if r_27 = 0 then (
          let w_47 := F_Da_refused 8
          let nw0_44 : Int32 := w_47
          (0 : Int32)) else (
          let w_34 := F_Se_wantedSecondsFrom nw0_6 h_doors c_h_wanted c_h_openers c_h_seconds nw1_7 k2 k3
          let r_32 : Int32 := w_34
          let x_35 : Int64 := ((r_32).toInt64)
          let x_36 : Int64 := ((r_27).toInt64)
          (1 : Int32)))))
theorem F_X_from_s (h_keys : Int32) (h_lent : Int32) (h_rings : Int32) (h_doors : Int32) (c_h_on : Nat → Int32) (c_h_onMany : Nat → Int32) (c_h_wanted : Nat → Int32) (c_h_openers : Nat → Int32) (c_h_seconds : Nat → Int32) (c_se_row : Nat → Int32) (k1 : Int32) (k2 : Int32) (k3 : Int32) : F_X_from h_keys h_lent h_rings h_doors c_h_on c_h_onMany c_h_wanted c_h_openers c_h_seconds c_se_row k1 k2 k3 = (
  let w_3 := F_H_hasRing h_rings k1
  let r_1 : Int32 := w_3
  if r_1 = 0 then (
    let w_59 := F_Da_refused 2
    let nw0_56 : Int32 := w_59
    (0 : Int32)) else (
    let w_10 := F_Se_load h_keys h_lent h_rings c_h_on c_h_onMany c_se_row k1
    let nw0_6 : Int32 := w_10.1
    let nw1_7 : Nat → Int32 := w_10.2
    let w_13 := F_Se_hasPlace nw0_6 k2
    let r_11 : Int32 := w_13
    if r_11 = 0 then (
      let w_19 := F_Da_refused 5
      let nw0_16 : Int32 := w_19
      (0 : Int32)) else (
      let w_24 := F_Da_isWay k3
      let r_22 : Int32 := w_24
      if r_22 = 0 then (
        let w_53 := F_Da_refused 5
        let nw0_50 : Int32 := w_53
        (0 : Int32)) else (
        let w_29 := F_Se_wantedTogether nw0_6 h_doors c_h_wanted c_h_openers nw1_7
        let r_27 : Int32 := w_29
        if r_27 = 0 then (
          let w_47 := F_Da_refused 8
          let nw0_44 : Int32 := w_47
          (0 : Int32)) else (
          let w_34 := F_Se_wantedSecondsFrom nw0_6 h_doors c_h_wanted c_h_openers c_h_seconds nw1_7 k2 k3
          let r_32 : Int32 := w_34
          let x_35 : Int64 := ((r_32).toInt64)
          let x_36 : Int64 := ((r_27).toInt64)
          (1 : Int32)))))) := rfl
noncomputable def F_X_anywhere (h_keys : Int32) (h_lent : Int32) (h_rings : Int32) (h_doors : Int32) (c_h_on : Nat → Int32) (c_h_onMany : Nat → Int32) (c_h_wanted : Nat → Int32) (c_h_openers : Nat → Int32) (c_h_seconds : Nat → Int32) (c_se_row : Nat → Int32) (k1 : Int32) : Int32 :=
  let w_3 := F_H_hasRing h_rings k1
  let r_1 : Int32 := w_3
  if r_1 = 0 then (
    let w_39 := F_Da_refused 2
    let nw0_36 : Int32 := w_39
    (0 : Int32)) else (
    let w_10 := F_Se_load h_keys h_lent h_rings c_h_on c_h_onMany c_se_row k1
    let nw0_6 : Int32 := w_10.1
    let nw1_7 : Nat → Int32 := w_10.2
    let w_13 := F_Se_wantedTogether nw0_6 h_doors c_h_wanted c_h_openers nw1_7
    let r_11 : Int32 := w_13
    if r_11 = 0 then (
      let w_33 := F_Da_refused 8
      let nw0_30 : Int32 := w_33
      (0 : Int32)) else (
      let w_18 := F_Se_wantedSecondsAnywhere nw0_6 h_doors c_h_wanted c_h_openers c_h_seconds nw1_7
      let r_16 : Int32 := w_18
      let x_19 : Int64 := ((r_16).toInt64)
      let x_20 : Int64 := ((r_11).toInt64)
      let x_21 : Int64 := ((nw0_6).toInt64)
      let x_22 : Int64 := (x_20 * x_21)
      (1 : Int32)))
theorem F_X_anywhere_s (h_keys : Int32) (h_lent : Int32) (h_rings : Int32) (h_doors : Int32) (c_h_on : Nat → Int32) (c_h_onMany : Nat → Int32) (c_h_wanted : Nat → Int32) (c_h_openers : Nat → Int32) (c_h_seconds : Nat → Int32) (c_se_row : Nat → Int32) (k1 : Int32) : F_X_anywhere h_keys h_lent h_rings h_doors c_h_on c_h_onMany c_h_wanted c_h_openers c_h_seconds c_se_row k1 = (
  let w_3 := F_H_hasRing h_rings k1
  let r_1 : Int32 := w_3
  if r_1 = 0 then (
    let w_39 := F_Da_refused 2
    let nw0_36 : Int32 := w_39
    (0 : Int32)) else (
    let w_10 := F_Se_load h_keys h_lent h_rings c_h_on c_h_onMany c_se_row k1
    let nw0_6 : Int32 := w_10.1
    let nw1_7 : Nat → Int32 := w_10.2
    let w_13 := F_Se_wantedTogether nw0_6 h_doors c_h_wanted c_h_openers nw1_7
    let r_11 : Int32 := w_13
    if r_11 = 0 then (
      let w_33 := F_Da_refused 8
      let nw0_30 : Int32 := w_33
      (0 : Int32)) else (
      let w_18 := F_Se_wantedSecondsAnywhere nw0_6 h_doors c_h_wanted c_h_openers c_h_seconds nw1_7
      let r_16 : Int32 := w_18
      let x_19 : Int64 := ((r_16).toInt64)
      let x_20 : Int64 := ((r_11).toInt64)
      let x_21 : Int64 := ((nw0_6).toInt64)
      let x_22 : Int64 := (x_20 * x_21)
      (1 : Int32)))) := rfl
noncomputable def F_X_laid (h_keys : Int32) (h_lent : Int32) (h_rings : Int32) (h_doors : Int32) (h_roundMany : Int32) (c_h_on : Nat → Int32) (c_h_onMany : Nat → Int32) (c_h_wanted : Nat → Int32) (c_h_openers : Nat → Int32) (c_h_seconds : Nat → Int32) (c_h_roundDoors : Nat → Int32) (se_foundMany : Int32) (c_se_row : Nat → Int32) (c_se_found : Nat → Int32) (k1 : Int32) (k2 : Int32) : Int32 :=
  let w_3 := F_H_hasRing h_rings k1
  let r_1 : Int32 := w_3
  if r_1 = 0 then (
    let w_117 := F_Da_none 2
    let nw0_114 : Int32 := w_117
    (-1 : Int32)) else (
    let w_10 := F_Se_load h_keys h_lent h_rings c_h_on c_h_onMany c_se_row k1
    let nw0_6 : Int32 := w_10.1
    let nw1_7 : Nat → Int32 := w_10.2
    if nw0_6 ≤ 6 then (
      let w_15 := F_Se_wantedTogether nw0_6 h_doors c_h_wanted c_h_openers nw1_7
      let r_13 : Int32 := w_15
      if r_13 = 0 then (
        let w_105 := F_Da_none 8
        let nw0_102 : Int32 := w_105
        (-1 : Int32)) else (
        if k2 = 0 then (
          let w_25 := F_Se_findOrder nw0_6 se_foundMany h_doors h_roundMany c_h_wanted c_h_openers c_h_seconds c_h_roundDoors nw1_7 c_se_found 0
          let r_23 : Int32 := w_25.1
          let nw0_20 : Int32 := w_25.2.1
          let nw1_21 : Nat → Int32 := w_25.2.2.1
          let nw2_22 : Nat → Int32 := w_25.2.2.2
          let x_26 : Int64 := ((r_23).toInt64)
          if k2 = 0 then (
            let x_29 : Int64 := ((r_13).toInt64)
            let w_37 := F_Se_foundAt nw0_20 nw2_22 0
            let r_35 : Int32 := w_37
            let w_41 := F_Da_told
            let nw0_38 : Int32 := w_41
            r_35) else (
            let x_44 : Int64 := ((r_13).toInt64)
            let x_45 : Int64 := ((nw0_6).toInt64)
            let x_46 : Int64 := (x_44 * x_45)
            let w_54 := F_Se_foundAt nw0_20 nw2_22 0
            let r_52 : Int32 := w_54
            let w_58 := F_Da_told
            let nw0_55 : Int32 := w_58
            r_52)) else (
          let w_66 := F_Se_findOrder nw0_6 se_foundMany h_doors h_roundMany c_h_wanted c_h_openers c_h_seconds c_h_roundDoors nw1_7 c_se_found 1
          let r_64 : Int32 := w_66.1
          let nw0_61 : Int32 := w_66.2.1
          let nw1_62 : Nat → Int32 := w_66.2.2.1
          let nw2_63 : Nat → Int32 := w_66.2.2.2
          let x_67 : Int64 := ((r_64).toInt64)
          if k2 = 0 then (
            let x_70 : Int64 := ((r_13).toInt64)
            let w_78 := F_Se_foundAt nw0_61 nw2_63 0
            let r_76 : Int32 := w_78
            let w_82 := F_Da_told
            let nw0_79 : Int32 := w_82
            r_76) else (
            let x_85 : Int64 := ((r_13).toInt64)
            let x_86 : Int64 := ((nw0_6).toInt64)
            let x_87 : Int64 := (x_85 * x_86)
            let w_95 := F_Se_foundAt nw0_61 nw2_63 0
            let r_93 : Int32 := w_95
            let w_99 := F_Da_told
            let nw0_96 : Int32 := w_99
            r_93)))) else (
      let w_111 := F_Da_none 7
      let nw0_108 : Int32 := w_111
      (-1 : Int32)))
theorem F_X_laid_s (h_keys : Int32) (h_lent : Int32) (h_rings : Int32) (h_doors : Int32) (h_roundMany : Int32) (c_h_on : Nat → Int32) (c_h_onMany : Nat → Int32) (c_h_wanted : Nat → Int32) (c_h_openers : Nat → Int32) (c_h_seconds : Nat → Int32) (c_h_roundDoors : Nat → Int32) (se_foundMany : Int32) (c_se_row : Nat → Int32) (c_se_found : Nat → Int32) (k1 : Int32) (k2 : Int32) : F_X_laid h_keys h_lent h_rings h_doors h_roundMany c_h_on c_h_onMany c_h_wanted c_h_openers c_h_seconds c_h_roundDoors se_foundMany c_se_row c_se_found k1 k2 = (
  let w_3 := F_H_hasRing h_rings k1
  let r_1 : Int32 := w_3
  if r_1 = 0 then (
    let w_117 := F_Da_none 2
    let nw0_114 : Int32 := w_117
    (-1 : Int32)) else (
    let w_10 := F_Se_load h_keys h_lent h_rings c_h_on c_h_onMany c_se_row k1
    let nw0_6 : Int32 := w_10.1
    let nw1_7 : Nat → Int32 := w_10.2
    if nw0_6 ≤ 6 then (
      let w_15 := F_Se_wantedTogether nw0_6 h_doors c_h_wanted c_h_openers nw1_7
      let r_13 : Int32 := w_15
      if r_13 = 0 then (
        let w_105 := F_Da_none 8
        let nw0_102 : Int32 := w_105
        (-1 : Int32)) else (
        if k2 = 0 then (
          let w_25 := F_Se_findOrder nw0_6 se_foundMany h_doors h_roundMany c_h_wanted c_h_openers c_h_seconds c_h_roundDoors nw1_7 c_se_found 0
          let r_23 : Int32 := w_25.1
          let nw0_20 : Int32 := w_25.2.1
          let nw1_21 : Nat → Int32 := w_25.2.2.1
          let nw2_22 : Nat → Int32 := w_25.2.2.2
          let x_26 : Int64 := ((r_23).toInt64)
          if k2 = 0 then (
            let x_29 : Int64 := ((r_13).toInt64)
            let w_37 := F_Se_foundAt nw0_20 nw2_22 0
            let r_35 : Int32 := w_37
            let w_41 := F_Da_told
            let nw0_38 : Int32 := w_41
            r_35) else (
            let x_44 : Int64 := ((r_13).toInt64)
            let x_45 : Int64 := ((nw0_6).toInt64)
            let x_46 : Int64 := (x_44 * x_45)
            let w_54 := F_Se_foundAt nw0_20 nw2_22 0
            let r_52 : Int32 := w_54
            let w_58 := F_Da_told
            let nw0_55 : Int32 := w_58
            r_52)) else (
          let w_66 := F_Se_findOrder nw0_6 se_foundMany h_doors h_roundMany c_h_wanted c_h_openers c_h_seconds c_h_roundDoors nw1_7 c_se_found 1
          let r_64 : Int32 := w_66.1
          let nw0_61 : Int32 := w_66.2.1
          let nw1_62 : Nat → Int32 := w_66.2.2.1
          let nw2_63 : Nat → Int32 := w_66.2.2.2
          let x_67 : Int64 := ((r_64).toInt64)
          if k2 = 0 then (
            let x_70 : Int64 := ((r_13).toInt64)
            let w_78 := F_Se_foundAt nw0_61 nw2_63 0
            let r_76 : Int32 := w_78
            let w_82 := F_Da_told
            let nw0_79 : Int32 := w_82
            r_76) else (
            let x_85 : Int64 := ((r_13).toInt64)
            let x_86 : Int64 := ((nw0_6).toInt64)
            let x_87 : Int64 := (x_85 * x_86)
            let w_95 := F_Se_foundAt nw0_61 nw2_63 0
            let r_93 : Int32 := w_95
            let w_99 := F_Da_told
            let nw0_96 : Int32 := w_99
            r_93)))) else (
      let w_111 := F_Da_none 7
      let nw0_108 : Int32 := w_111
      (-1 : Int32)))) := rfl
noncomputable def F_X_laidForRound (h_keys : Int32) (h_lent : Int32) (h_rings : Int32) (h_doors : Int32) (h_roundMany : Int32) (c_h_on : Nat → Int32) (c_h_onMany : Nat → Int32) (c_h_wanted : Nat → Int32) (c_h_openers : Nat → Int32) (c_h_seconds : Nat → Int32) (c_h_roundDoors : Nat → Int32) (se_foundMany : Int32) (c_se_row : Nat → Int32) (c_se_found : Nat → Int32) (k1 : Int32) : Int32 :=
  let w_3 := F_H_hasRing h_rings k1
  let r_1 : Int32 := w_3
  if r_1 = 0 then (
    let w_45 := F_Da_none 2
    let nw0_42 : Int32 := w_45
    (-1 : Int32)) else (
    let w_10 := F_Se_load h_keys h_lent h_rings c_h_on c_h_onMany c_se_row k1
    let nw0_6 : Int32 := w_10.1
    let nw1_7 : Nat → Int32 := w_10.2
    if nw0_6 ≤ 6 then (
      let w_15 := F_Se_canWalk nw0_6 h_doors h_roundMany c_h_openers c_h_roundDoors nw1_7
      let r_13 : Int32 := w_15
      if r_13 = 0 then (
        let w_33 := F_Da_none 8
        let nw0_30 : Int32 := w_33
        (-1 : Int32)) else (
        let w_23 := F_Se_findOrder nw0_6 se_foundMany h_doors h_roundMany c_h_wanted c_h_openers c_h_seconds c_h_roundDoors nw1_7 c_se_found 2
        let r_21 : Int32 := w_23.1
        let nw0_18 : Int32 := w_23.2.1
        let nw1_19 : Nat → Int32 := w_23.2.2.1
        let nw2_20 : Nat → Int32 := w_23.2.2.2
        let w_27 := F_Da_told
        let nw0_24 : Int32 := w_27
        r_21)) else (
      let w_39 := F_Da_none 7
      let nw0_36 : Int32 := w_39
      (-1 : Int32)))
theorem F_X_laidForRound_s (h_keys : Int32) (h_lent : Int32) (h_rings : Int32) (h_doors : Int32) (h_roundMany : Int32) (c_h_on : Nat → Int32) (c_h_onMany : Nat → Int32) (c_h_wanted : Nat → Int32) (c_h_openers : Nat → Int32) (c_h_seconds : Nat → Int32) (c_h_roundDoors : Nat → Int32) (se_foundMany : Int32) (c_se_row : Nat → Int32) (c_se_found : Nat → Int32) (k1 : Int32) : F_X_laidForRound h_keys h_lent h_rings h_doors h_roundMany c_h_on c_h_onMany c_h_wanted c_h_openers c_h_seconds c_h_roundDoors se_foundMany c_se_row c_se_found k1 = (
  let w_3 := F_H_hasRing h_rings k1
  let r_1 : Int32 := w_3
  if r_1 = 0 then (
    let w_45 := F_Da_none 2
    let nw0_42 : Int32 := w_45
    (-1 : Int32)) else (
    let w_10 := F_Se_load h_keys h_lent h_rings c_h_on c_h_onMany c_se_row k1
    let nw0_6 : Int32 := w_10.1
    let nw1_7 : Nat → Int32 := w_10.2
    if nw0_6 ≤ 6 then (
      let w_15 := F_Se_canWalk nw0_6 h_doors h_roundMany c_h_openers c_h_roundDoors nw1_7
      let r_13 : Int32 := w_15
      if r_13 = 0 then (
        let w_33 := F_Da_none 8
        let nw0_30 : Int32 := w_33
        (-1 : Int32)) else (
        let w_23 := F_Se_findOrder nw0_6 se_foundMany h_doors h_roundMany c_h_wanted c_h_openers c_h_seconds c_h_roundDoors nw1_7 c_se_found 2
        let r_21 : Int32 := w_23.1
        let nw0_18 : Int32 := w_23.2.1
        let nw1_19 : Nat → Int32 := w_23.2.2.1
        let nw2_20 : Nat → Int32 := w_23.2.2.2
        let w_27 := F_Da_told
        let nw0_24 : Int32 := w_27
        r_21)) else (
      let w_39 := F_Da_none 7
      let nw0_36 : Int32 := w_39
      (-1 : Int32)))) := rfl
noncomputable def F_X_alike (h_features : Int32) (h_keys : Int32) (h_lent : Int32) (h_rings : Int32) (c_h_steps : Nat → Int32) (c_h_turnedFeatures : Nat → Int32) (c_h_keySteps : Nat → Int32) (c_h_on : Nat → Int32) (c_h_onMany : Nat → Int32) (li_places : Int32) (c_li_row : Nat → Int32) (k1 : Int32) : Int32 × Int32 × Int32 × (Nat → Int32) :=
  let w_3 := F_H_hasRing h_rings k1
  let r_1 : Int32 := w_3
  if r_1 = 0 then (
    let w_23 := F_Da_none 2
    let nw0_20 : Int32 := w_23
    ((-1 : Int32), nw0_20, li_places, c_li_row)) else (
    let w_10 := F_Li_load h_keys h_lent h_rings c_h_on c_h_onMany c_li_row k1
    let nw0_6 : Int32 := w_10.1
    let nw1_7 : Nat → Int32 := w_10.2
    let w_13 := F_Li_couplesAlike nw0_6 h_features h_keys c_h_steps c_h_turnedFeatures c_h_keySteps nw1_7
    let r_11 : Int32 := w_13
    let w_17 := F_Da_told
    let nw0_14 : Int32 := w_17
    (r_11, nw0_14, nw0_6, nw1_7))
theorem F_X_alike_s (h_features : Int32) (h_keys : Int32) (h_lent : Int32) (h_rings : Int32) (c_h_steps : Nat → Int32) (c_h_turnedFeatures : Nat → Int32) (c_h_keySteps : Nat → Int32) (c_h_on : Nat → Int32) (c_h_onMany : Nat → Int32) (li_places : Int32) (c_li_row : Nat → Int32) (k1 : Int32) : F_X_alike h_features h_keys h_lent h_rings c_h_steps c_h_turnedFeatures c_h_keySteps c_h_on c_h_onMany li_places c_li_row k1 = (
  let w_3 := F_H_hasRing h_rings k1
  let r_1 : Int32 := w_3
  if r_1 = 0 then (
    let w_23 := F_Da_none 2
    let nw0_20 : Int32 := w_23
    ((-1 : Int32), nw0_20, li_places, c_li_row)) else (
    let w_10 := F_Li_load h_keys h_lent h_rings c_h_on c_h_onMany c_li_row k1
    let nw0_6 : Int32 := w_10.1
    let nw1_7 : Nat → Int32 := w_10.2
    let w_13 := F_Li_couplesAlike nw0_6 h_features h_keys c_h_steps c_h_turnedFeatures c_h_keySteps nw1_7
    let r_11 : Int32 := w_13
    let w_17 := F_Da_told
    let nw0_14 : Int32 := w_17
    (r_11, nw0_14, nw0_6, nw1_7))) := rfl
noncomputable def F_X_apart (h_features : Int32) (h_keys : Int32) (h_lent : Int32) (h_rings : Int32) (c_h_steps : Nat → Int32) (c_h_turnedFeatures : Nat → Int32) (c_h_keySteps : Nat → Int32) (c_h_on : Nat → Int32) (c_h_onMany : Nat → Int32) (li_places : Int32) (c_li_row : Nat → Int32) (k1 : Int32) (k2 : Int32) : Int32 × Int32 × Int32 × (Nat → Int32) :=
  let w_3 := F_H_hasRing h_rings k1
  let r_1 : Int32 := w_3
  if r_1 = 0 then (
    let w_31 := F_Da_none 2
    let nw0_28 : Int32 := w_31
    ((-1 : Int32), nw0_28, li_places, c_li_row)) else (
    let w_10 := F_Li_load h_keys h_lent h_rings c_h_on c_h_onMany c_li_row k1
    let nw0_6 : Int32 := w_10.1
    let nw1_7 : Nat → Int32 := w_10.2
    let w_13 := F_Li_fewestFeatures nw0_6 h_features h_keys c_h_steps c_h_turnedFeatures c_h_keySteps nw1_7 k2
    let r_11 : Int32 := w_13
    if r_11 = (-1) then (
      let w_25 := F_Da_none 8
      let nw0_22 : Int32 := w_25
      ((-1 : Int32), nw0_22, nw0_6, nw1_7)) else (
      let w_19 := F_Da_told
      let nw0_16 : Int32 := w_19
      (r_11, nw0_16, nw0_6, nw1_7)))
theorem F_X_apart_s (h_features : Int32) (h_keys : Int32) (h_lent : Int32) (h_rings : Int32) (c_h_steps : Nat → Int32) (c_h_turnedFeatures : Nat → Int32) (c_h_keySteps : Nat → Int32) (c_h_on : Nat → Int32) (c_h_onMany : Nat → Int32) (li_places : Int32) (c_li_row : Nat → Int32) (k1 : Int32) (k2 : Int32) : F_X_apart h_features h_keys h_lent h_rings c_h_steps c_h_turnedFeatures c_h_keySteps c_h_on c_h_onMany li_places c_li_row k1 k2 = (
  let w_3 := F_H_hasRing h_rings k1
  let r_1 : Int32 := w_3
  if r_1 = 0 then (
    let w_31 := F_Da_none 2
    let nw0_28 : Int32 := w_31
    ((-1 : Int32), nw0_28, li_places, c_li_row)) else (
    let w_10 := F_Li_load h_keys h_lent h_rings c_h_on c_h_onMany c_li_row k1
    let nw0_6 : Int32 := w_10.1
    let nw1_7 : Nat → Int32 := w_10.2
    let w_13 := F_Li_fewestFeatures nw0_6 h_features h_keys c_h_steps c_h_turnedFeatures c_h_keySteps nw1_7 k2
    let r_11 : Int32 := w_13
    if r_11 = (-1) then (
      let w_25 := F_Da_none 8
      let nw0_22 : Int32 := w_25
      ((-1 : Int32), nw0_22, nw0_6, nw1_7)) else (
      let w_19 := F_Da_told
      let nw0_16 : Int32 := w_19
      (r_11, nw0_16, nw0_6, nw1_7)))) := rfl
noncomputable def F_X_filed (h_features : Int32) (h_keys : Int32) (h_lent : Int32) (h_rings : Int32) (c_h_steps : Nat → Int32) (c_h_turnedFeatures : Nat → Int32) (c_h_keySteps : Nat → Int32) (c_h_on : Nat → Int32) (c_h_onMany : Nat → Int32) (li_places : Int32) (c_li_row : Nat → Int32) (k1 : Int32) (k2 : Int32) : Int32 × Int32 × Int32 × (Nat → Int32) :=
  let w_3 := F_H_hasRing h_rings k1
  let r_1 : Int32 := w_3
  if r_1 = 0 then (
    let w_47 := F_Da_none 2
    let nw0_44 : Int32 := w_47
    ((-1 : Int32), nw0_44, li_places, c_li_row)) else (
    if k2 < 2 then (
      let w_11 := F_Da_none 5
      let nw0_8 : Int32 := w_11
      ((-1 : Int32), nw0_8, li_places, c_li_row)) else (
      if k2 ≤ 9 then (
        let w_20 := F_Li_load h_keys h_lent h_rings c_h_on c_h_onMany c_li_row k1
        let nw0_16 : Int32 := w_20.1
        let nw1_17 : Nat → Int32 := w_20.2
        let w_23 := F_Li_fewestFiled nw0_16 h_features h_keys c_h_steps c_h_turnedFeatures c_h_keySteps nw1_17 k2
        let r_21 : Int32 := w_23
        if r_21 = (-1) then (
          let w_35 := F_Da_none 9
          let nw0_32 : Int32 := w_35
          ((-1 : Int32), nw0_32, nw0_16, nw1_17)) else (
          let w_29 := F_Da_told
          let nw0_26 : Int32 := w_29
          (r_21, nw0_26, nw0_16, nw1_17))) else (
        let w_41 := F_Da_none 5
        let nw0_38 : Int32 := w_41
        ((-1 : Int32), nw0_38, li_places, c_li_row))))
theorem F_X_filed_s (h_features : Int32) (h_keys : Int32) (h_lent : Int32) (h_rings : Int32) (c_h_steps : Nat → Int32) (c_h_turnedFeatures : Nat → Int32) (c_h_keySteps : Nat → Int32) (c_h_on : Nat → Int32) (c_h_onMany : Nat → Int32) (li_places : Int32) (c_li_row : Nat → Int32) (k1 : Int32) (k2 : Int32) : F_X_filed h_features h_keys h_lent h_rings c_h_steps c_h_turnedFeatures c_h_keySteps c_h_on c_h_onMany li_places c_li_row k1 k2 = (
  let w_3 := F_H_hasRing h_rings k1
  let r_1 : Int32 := w_3
  if r_1 = 0 then (
    let w_47 := F_Da_none 2
    let nw0_44 : Int32 := w_47
    ((-1 : Int32), nw0_44, li_places, c_li_row)) else (
    if k2 < 2 then (
      let w_11 := F_Da_none 5
      let nw0_8 : Int32 := w_11
      ((-1 : Int32), nw0_8, li_places, c_li_row)) else (
      if k2 ≤ 9 then (
        let w_20 := F_Li_load h_keys h_lent h_rings c_h_on c_h_onMany c_li_row k1
        let nw0_16 : Int32 := w_20.1
        let nw1_17 : Nat → Int32 := w_20.2
        let w_23 := F_Li_fewestFiled nw0_16 h_features h_keys c_h_steps c_h_turnedFeatures c_h_keySteps nw1_17 k2
        let r_21 : Int32 := w_23
        if r_21 = (-1) then (
          let w_35 := F_Da_none 9
          let nw0_32 : Int32 := w_35
          ((-1 : Int32), nw0_32, nw0_16, nw1_17)) else (
          let w_29 := F_Da_told
          let nw0_26 : Int32 := w_29
          (r_21, nw0_26, nw0_16, nw1_17))) else (
        let w_41 := F_Da_none 5
        let nw0_38 : Int32 := w_41
        ((-1 : Int32), nw0_38, li_places, c_li_row))))) := rfl
noncomputable def F_X_missing (h_keys : Int32) (h_lent : Int32) (h_rings : Int32) (h_doors : Int32) (c_h_on : Nat → Int32) (c_h_onMany : Nat → Int32) (c_h_openers : Nat → Int32) (k1 : Int32) (k2 : Int32) (k3 : Int32) (k4 : Int32) : Int32 :=
  let w_3 := F_H_hasKey h_keys k1
  let r_1 : Int32 := w_3
  if r_1 = 0 then (
    let w_9 := F_Da_refused 2
    let nw0_6 : Int32 := w_9
    (0 : Int32)) else (
    let w_14 := F_H_hasDoor h_doors k2
    let r_12 : Int32 := w_14
    if r_12 = 0 then (
      let w_117 := F_Da_refused 2
      let nw0_114 : Int32 := w_117
      (0 : Int32)) else (
      if k3 < 0 then (
        let w_22 := F_Da_refused 5
        let nw0_19 : Int32 := w_22
        (0 : Int32)) else (
        if 16 < k3 then (
          let w_30 := F_Da_refused 5
          let nw0_27 : Int32 := w_30
          (0 : Int32)) else (
          if 0 ≤ k4 then (
            let w_37 := F_H_ringOf h_rings c_h_on c_h_onMany k1
            let r_35 : Int32 := w_37
            if r_35 = (-1) then (
              let w_105 := F_Da_refused 9
              let nw0_102 : Int32 := w_105
              (0 : Int32)) else (
              let w_42 := F_H_manyThere h_keys h_lent h_rings c_h_on c_h_onMany r_35
              let r_40 : Int32 := w_42
              if k4 ≤ r_40 then (
                let w_47 := F_H_isOnlyOpener h_keys h_lent h_rings h_doors c_h_on c_h_onMany c_h_openers k1 k2
                let r_45 : Int32 := w_47
                if r_45 = 0 then (
                  let w_53 := F_Da_refused 9
                  let nw0_50 : Int32 := w_53
                  (0 : Int32)) else (
                  if k3 = 0 then (
                    if k4 = r_40 then (
                      let w_93 := F_Da_refused 9
                      let nw0_90 : Int32 := w_93
                      (0 : Int32)) else (
                      let x_75 : Int32 := (k3 * r_40)
                      let x_76 : Int64 := ((x_75).toInt64)
                      let x_77 : Int32 := (k3 * r_40)
                      let x_78 : Int32 := ((16 : Int32) - k3)
                      let x_79 : Int32 := (r_40 - k4)
                      let x_80 : Int32 := (x_78 * x_79)
                      let x_81 : Int32 := (x_77 + x_80)
                      let x_82 : Int64 := ((x_81).toInt64)
                      (1 : Int32))) else (
                    let x_58 : Int32 := (k3 * r_40)
                    let x_59 : Int64 := ((x_58).toInt64)
                    let x_60 : Int32 := (k3 * r_40)
                    let x_61 : Int32 := ((16 : Int32) - k3)
                    let x_62 : Int32 := (r_40 - k4)
                    let x_63 : Int32 := (x_61 * x_62)
                    let x_64 : Int32 := (x_60 + x_63)
                    let x_65 : Int64 := ((x_64).toInt64)
                    (1 : Int32)))) else (
                let w_99 := F_Da_refused 5
                let nw0_96 : Int32 := w_99
                (0 : Int32)))) else (
            let w_111 := F_Da_refused 5
            let nw0_108 : Int32 := w_111
            (0 : Int32))))))
theorem F_X_missing_s (h_keys : Int32) (h_lent : Int32) (h_rings : Int32) (h_doors : Int32) (c_h_on : Nat → Int32) (c_h_onMany : Nat → Int32) (c_h_openers : Nat → Int32) (k1 : Int32) (k2 : Int32) (k3 : Int32) (k4 : Int32) : F_X_missing h_keys h_lent h_rings h_doors c_h_on c_h_onMany c_h_openers k1 k2 k3 k4 = (
  let w_3 := F_H_hasKey h_keys k1
  let r_1 : Int32 := w_3
  if r_1 = 0 then (
    let w_9 := F_Da_refused 2
    let nw0_6 : Int32 := w_9
    (0 : Int32)) else (
    let w_14 := F_H_hasDoor h_doors k2
    let r_12 : Int32 := w_14
    if r_12 = 0 then (
      let w_117 := F_Da_refused 2
      let nw0_114 : Int32 := w_117
      (0 : Int32)) else (
      if k3 < 0 then (
        let w_22 := F_Da_refused 5
        let nw0_19 : Int32 := w_22
        (0 : Int32)) else (
        if 16 < k3 then (
          let w_30 := F_Da_refused 5
          let nw0_27 : Int32 := w_30
          (0 : Int32)) else (
          if 0 ≤ k4 then (
            let w_37 := F_H_ringOf h_rings c_h_on c_h_onMany k1
            let r_35 : Int32 := w_37
            if r_35 = (-1) then (
              let w_105 := F_Da_refused 9
              let nw0_102 : Int32 := w_105
              (0 : Int32)) else (
              let w_42 := F_H_manyThere h_keys h_lent h_rings c_h_on c_h_onMany r_35
              let r_40 : Int32 := w_42
              if k4 ≤ r_40 then (
                let w_47 := F_H_isOnlyOpener h_keys h_lent h_rings h_doors c_h_on c_h_onMany c_h_openers k1 k2
                let r_45 : Int32 := w_47
                if r_45 = 0 then (
                  let w_53 := F_Da_refused 9
                  let nw0_50 : Int32 := w_53
                  (0 : Int32)) else (
                  if k3 = 0 then (
                    if k4 = r_40 then (
                      let w_93 := F_Da_refused 9
                      let nw0_90 : Int32 := w_93
                      (0 : Int32)) else (
                      let x_75 : Int32 := (k3 * r_40)
                      let x_76 : Int64 := ((x_75).toInt64)
                      let x_77 : Int32 := (k3 * r_40)
                      let x_78 : Int32 := ((16 : Int32) - k3)
                      let x_79 : Int32 := (r_40 - k4)
                      let x_80 : Int32 := (x_78 * x_79)
                      let x_81 : Int32 := (x_77 + x_80)
                      let x_82 : Int64 := ((x_81).toInt64)
                      (1 : Int32))) else (
                    let x_58 : Int32 := (k3 * r_40)
                    let x_59 : Int64 := ((x_58).toInt64)
                    let x_60 : Int32 := (k3 * r_40)
                    let x_61 : Int32 := ((16 : Int32) - k3)
                    let x_62 : Int32 := (r_40 - k4)
                    let x_63 : Int32 := (x_61 * x_62)
                    let x_64 : Int32 := (x_60 + x_63)
                    let x_65 : Int64 := ((x_64).toInt64)
                    (1 : Int32)))) else (
                let w_99 := F_Da_refused 5
                let nw0_96 : Int32 := w_99
                (0 : Int32)))) else (
            let w_111 := F_Da_refused 5
            let nw0_108 : Int32 := w_111
            (0 : Int32))))))) := rfl
noncomputable def F_X_soon_L107a (k3 : Int32) (k4 : Int32) (r_53 : Int32) : Nat → Int32 → (Int32 × Int32) := fun k9 => Nat.rec (motive := fun _ => Int32 → (Int32 × Int32)) (fun _ => default) (fun _ (G_L107a : Int32 → (Int32 × Int32)) => fun (v_90 : Int32) =>
    if r_53 < v_90 then (
      let w_121 := F_Da_none 8
      let nw0_118 : Int32 := w_121
      ((-1 : Int32), nw0_118)) else (
      let x_124 : Int32 := (k3 * r_53)
      let x_125 : Int32 := ((16 : Int32) - k3)
      let x_126 : Int32 := (r_53 - v_90)
      let x_127 : Int32 := (x_125 * x_126)
      let x_128 : Int32 := (x_124 + x_127)
      let x_129 : Int32 := ((16 : Int32) * k3)
      let x_130 : Int32 := (x_129 * r_53)
      let x_131 : Int32 := (k4 * x_128)
      if x_130 < x_131 then (
        G_L107a (v_90 + 1)) else (
        let w_139 := F_Da_told
        let nw0_136 : Int32 := w_139
        (v_90, nw0_136)))) k9
theorem F_X_soon_L107a_s (k3 : Int32) (k4 : Int32) (r_53 : Int32) (n9 : Nat) (v_90 : Int32) : F_X_soon_L107a k3 k4 r_53 (n9 + 1) v_90 = (
    if r_53 < v_90 then (
      let w_121 := F_Da_none 8
      let nw0_118 : Int32 := w_121
      ((-1 : Int32), nw0_118)) else (
      let x_124 : Int32 := (k3 * r_53)
      let x_125 : Int32 := ((16 : Int32) - k3)
      let x_126 : Int32 := (r_53 - v_90)
      let x_127 : Int32 := (x_125 * x_126)
      let x_128 : Int32 := (x_124 + x_127)
      let x_129 : Int32 := ((16 : Int32) * k3)
      let x_130 : Int32 := (x_129 * r_53)
      let x_131 : Int32 := (k4 * x_128)
      if x_130 < x_131 then (
        (F_X_soon_L107a k3 k4 r_53 n9) (v_90 + 1)) else (
        let w_139 := F_Da_told
        let nw0_136 : Int32 := w_139
        (v_90, nw0_136)))) := rfl
noncomputable def F_X_soon (h_keys : Int32) (h_lent : Int32) (h_rings : Int32) (h_doors : Int32) (c_h_on : Nat → Int32) (c_h_onMany : Nat → Int32) (c_h_openers : Nat → Int32) (k1 : Int32) (k2 : Int32) (k3 : Int32) (k4 : Int32) : Int32 × Int32 :=
  let w_3 := F_H_hasKey h_keys k1
  let r_1 : Int32 := w_3
  if r_1 = 0 then (
    let w_9 := F_Da_none 2
    let nw0_6 : Int32 := w_9
    ((-1 : Int32), nw0_6)) else (
    let w_14 := F_H_hasDoor h_doors k2
    let r_12 : Int32 := w_14
    if r_12 = 0 then (
      let w_164 := F_Da_none 2
      let nw0_161 : Int32 := w_164
      ((-1 : Int32), nw0_161)) else (
      if k3 < 0 then (
        let w_22 := F_Da_none 5
        let nw0_19 : Int32 := w_22
        ((-1 : Int32), nw0_19)) else (
        if 16 < k3 then (
          let w_30 := F_Da_none 5
          let nw0_27 : Int32 := w_30
          ((-1 : Int32), nw0_27)) else (
          if k4 < 1 then (
            let w_38 := F_Da_none 5
            let nw0_35 : Int32 := w_38
            ((-1 : Int32), nw0_35)) else (
            if k4 ≤ 16 then (
              let w_45 := F_H_isOnlyOpener h_keys h_lent h_rings h_doors c_h_on c_h_onMany c_h_openers k1 k2
              let r_43 : Int32 := w_45
              if r_43 = 0 then (
                let w_152 := F_Da_none 9
                let nw0_149 : Int32 := w_152
                ((-1 : Int32), nw0_149)) else (
                if k3 = 0 then (
                  let w_146 := F_Da_none 8
                  let nw0_143 : Int32 := w_146
                  ((-1 : Int32), nw0_143)) else (
                  let w_52 := F_H_ringOf h_rings c_h_on c_h_onMany k1
                  let r_50 : Int32 := w_52
                  let w_55 := F_H_manyThere h_keys h_lent h_rings c_h_on c_h_onMany r_50
                  let r_53 : Int32 := w_55
                  F_X_soon_L107a k3 k4 r_53 ((2147483647 - (0 : Int32).toInt).toNat + 1) (0 : Int32)))) else (
              let w_158 := F_Da_none 5
              let nw0_155 : Int32 := w_158
              ((-1 : Int32), nw0_155)))))))
theorem F_X_soon_s (h_keys : Int32) (h_lent : Int32) (h_rings : Int32) (h_doors : Int32) (c_h_on : Nat → Int32) (c_h_onMany : Nat → Int32) (c_h_openers : Nat → Int32) (k1 : Int32) (k2 : Int32) (k3 : Int32) (k4 : Int32) : F_X_soon h_keys h_lent h_rings h_doors c_h_on c_h_onMany c_h_openers k1 k2 k3 k4 = (
  let w_3 := F_H_hasKey h_keys k1
  let r_1 : Int32 := w_3
  if r_1 = 0 then (
    let w_9 := F_Da_none 2
    let nw0_6 : Int32 := w_9
    ((-1 : Int32), nw0_6)) else (
    let w_14 := F_H_hasDoor h_doors k2
    let r_12 : Int32 := w_14
    if r_12 = 0 then (
      let w_164 := F_Da_none 2
      let nw0_161 : Int32 := w_164
      ((-1 : Int32), nw0_161)) else (
      if k3 < 0 then (
        let w_22 := F_Da_none 5
        let nw0_19 : Int32 := w_22
        ((-1 : Int32), nw0_19)) else (
        if 16 < k3 then (
          let w_30 := F_Da_none 5
          let nw0_27 : Int32 := w_30
          ((-1 : Int32), nw0_27)) else (
          if k4 < 1 then (
            let w_38 := F_Da_none 5
            let nw0_35 : Int32 := w_38
            ((-1 : Int32), nw0_35)) else (
            if k4 ≤ 16 then (
              let w_45 := F_H_isOnlyOpener h_keys h_lent h_rings h_doors c_h_on c_h_onMany c_h_openers k1 k2
              let r_43 : Int32 := w_45
              if r_43 = 0 then (
                let w_152 := F_Da_none 9
                let nw0_149 : Int32 := w_152
                ((-1 : Int32), nw0_149)) else (
                if k3 = 0 then (
                  let w_146 := F_Da_none 8
                  let nw0_143 : Int32 := w_146
                  ((-1 : Int32), nw0_143)) else (
                  let w_52 := F_H_ringOf h_rings c_h_on c_h_onMany k1
                  let r_50 : Int32 := w_52
                  let w_55 := F_H_manyThere h_keys h_lent h_rings c_h_on c_h_onMany r_50
                  let r_53 : Int32 := w_55
                  F_X_soon_L107a k3 k4 r_53 ((2147483647 - (0 : Int32).toInt).toNat + 1) (0 : Int32)))) else (
              let w_158 := F_Da_none 5
              let nw0_155 : Int32 := w_158
              ((-1 : Int32), nw0_155)))))))) := rfl
noncomputable def F_X_rule (h_features : Int32) (c_h_featureNames : Nat → Int64) (r_lines : Int32) (r_steps : Int32) (r_asksSure : Int32) (c_r_kinds : Nat → Int32) (c_r_features : Nat → Int32) (c_r_compares : Nat → Int32) (c_r_numbers : Nat → Int32) (c_r_partners : Nat → Int32) (t_fed : Int32) (t_length : Int32) (t_kind : Int32) (t_start : Int32) (t_end : Int32) (t_number : Int32) (t_sign : Int32) (t_letters : Int64) (t_fault : Int32) (t_faultPlace : Int32) (c_tape : Nat → Int32) (rr_depth : Int32) (c_rr_b : Nat → Int32) (rf_lines : Int32) (rf_steps : Int32) (rf_asksSure : Int32) (c_rf_kinds : Nat → Int32) (c_rf_features : Nat → Int32) (c_rf_compares : Nat → Int32) (c_rf_numbers : Nat → Int32) (c_rf_partners : Nat → Int32) (k1 : Int32) : Int32 × Int32 × Int32 × Int32 × Int32 × (Nat → Int32) × (Nat → Int32) × (Nat → Int32) × (Nat → Int32) × (Nat → Int32) × Int32 × Int32 × Int32 × Int32 × Int32 × Int32 × Int32 × Int64 × Int32 × Int32 × Int32 × (Nat → Int32) × Int32 × Int32 × Int32 × (Nat → Int32) × (Nat → Int32) × (Nat → Int32) × (Nat → Int32) × (Nat → Int32) :=
  if k1 < 0 then (
    let w_6 := F_Da_none 5
    let nw0_3 : Int32 := w_6
    ((-1 : Int32), nw0_3, r_lines, r_steps, r_asksSure, c_r_kinds, c_r_features, c_r_compares, c_r_numbers, c_r_partners, t_fed, t_length, t_kind, t_start, t_end, t_number, t_sign, t_letters, t_fault, t_faultPlace, rr_depth, c_rr_b, rf_lines, rf_steps, rf_asksSure, c_rf_kinds, c_rf_features, c_rf_compares, c_rf_numbers, c_rf_partners)) else (
    if t_fed < k1 then (
      let w_14 := F_Da_none 5
      let nw0_11 : Int32 := w_14
      ((-1 : Int32), nw0_11, r_lines, r_steps, r_asksSure, c_r_kinds, c_r_features, c_r_compares, c_r_numbers, c_r_partners, t_fed, t_length, t_kind, t_start, t_end, t_number, t_sign, t_letters, t_fault, t_faultPlace, rr_depth, c_rr_b, rf_lines, rf_steps, rf_asksSure, c_rf_kinds, c_rf_features, c_rf_compares, c_rf_numbers, c_rf_partners)) else (
      if k1 ≤ 300 then (
        let w_31 := F_Te_begin t_number t_sign t_letters c_tape k1
        let nw0_19 : Int32 := w_31.1
        let nw1_20 : Int32 := w_31.2.1
        let nw2_21 : Int32 := w_31.2.2.1
        let nw3_22 : Int32 := w_31.2.2.2.1
        let nw4_23 : Int32 := w_31.2.2.2.2.1
        let nw5_24 : Int32 := w_31.2.2.2.2.2.1
        let nw6_25 : Int32 := w_31.2.2.2.2.2.2.1
        let nw7_26 : Int64 := w_31.2.2.2.2.2.2.2.1
        let nw8_27 : Int32 := w_31.2.2.2.2.2.2.2.2.1
        let nw9_28 : Int32 := w_31.2.2.2.2.2.2.2.2.2
        let w_52 := F_Ru_readAll h_features c_h_featureNames nw1_20 nw2_21 nw3_22 nw4_23 nw5_24 nw6_25 nw7_26 nw8_27 nw9_28 c_tape c_rr_b c_rf_kinds c_rf_features c_rf_compares c_rf_numbers c_rf_partners
        let r_50 : Int32 := w_52.1
        let nw0_32 : Int32 := w_52.2.1
        let nw1_33 : Int32 := w_52.2.2.1
        let nw2_34 : Int32 := w_52.2.2.2.1
        let nw3_35 : Int32 := w_52.2.2.2.2.1
        let nw4_36 : Int32 := w_52.2.2.2.2.2.1
        let nw5_37 : Int32 := w_52.2.2.2.2.2.2.1
        let nw6_38 : Int64 := w_52.2.2.2.2.2.2.2.1
        let nw7_39 : Int32 := w_52.2.2.2.2.2.2.2.2.1
        let nw8_40 : Int32 := w_52.2.2.2.2.2.2.2.2.2.1
        let nw9_41 : Nat → Int32 := w_52.2.2.2.2.2.2.2.2.2.2.1
        let nw10_42 : Int32 := w_52.2.2.2.2.2.2.2.2.2.2.2.1
        let nw11_43 : Int32 := w_52.2.2.2.2.2.2.2.2.2.2.2.2.1
        let nw12_44 : Int32 := w_52.2.2.2.2.2.2.2.2.2.2.2.2.2.1
        let nw13_45 : Nat → Int32 := w_52.2.2.2.2.2.2.2.2.2.2.2.2.2.2.1
        let nw14_46 : Nat → Int32 := w_52.2.2.2.2.2.2.2.2.2.2.2.2.2.2.2.1
        let nw15_47 : Nat → Int32 := w_52.2.2.2.2.2.2.2.2.2.2.2.2.2.2.2.2.1
        let nw16_48 : Nat → Int32 := w_52.2.2.2.2.2.2.2.2.2.2.2.2.2.2.2.2.2.1
        let nw17_49 : Nat → Int32 := w_52.2.2.2.2.2.2.2.2.2.2.2.2.2.2.2.2.2.2
        if r_50 = 0 then (
          let w_75 := F_Da_none 10
          let nw0_72 : Int32 := w_75
          ((-1 : Int32), nw0_72, r_lines, r_steps, r_asksSure, c_r_kinds, c_r_features, c_r_compares, c_r_numbers, c_r_partners, nw0_19, nw1_20, nw1_33, nw2_34, nw3_35, nw4_36, nw5_37, nw6_38, nw7_39, nw8_40, nw0_32, nw9_41, nw10_42, nw11_43, nw12_44, nw13_45, nw14_46, nw15_47, nw16_48, nw17_49)) else (
          let w_65 := F_Ru_copy c_r_kinds c_r_features c_r_compares c_r_numbers c_r_partners nw10_42 nw11_43 nw12_44 nw13_45 nw14_46 nw15_47 nw16_48 nw17_49
          let nw0_55 : Int32 := w_65.1
          let nw1_56 : Int32 := w_65.2.1
          let nw2_57 : Int32 := w_65.2.2.1
          let nw3_58 : Nat → Int32 := w_65.2.2.2.1
          let nw4_59 : Nat → Int32 := w_65.2.2.2.2.1
          let nw5_60 : Nat → Int32 := w_65.2.2.2.2.2.1
          let nw6_61 : Nat → Int32 := w_65.2.2.2.2.2.2.1
          let nw7_62 : Nat → Int32 := w_65.2.2.2.2.2.2.2
          let w_69 := F_Da_told
          let nw0_66 : Int32 := w_69
          (nw1_56, nw0_66, nw0_55, nw1_56, nw2_57, nw3_58, nw4_59, nw5_60, nw6_61, nw7_62, nw0_19, nw1_20, nw1_33, nw2_34, nw3_35, nw4_36, nw5_37, nw6_38, nw7_39, nw8_40, nw0_32, nw9_41, nw10_42, nw11_43, nw12_44, nw13_45, nw14_46, nw15_47, nw16_48, nw17_49))) else (
        let w_81 := F_Da_none 5
        let nw0_78 : Int32 := w_81
        ((-1 : Int32), nw0_78, r_lines, r_steps, r_asksSure, c_r_kinds, c_r_features, c_r_compares, c_r_numbers, c_r_partners, t_fed, t_length, t_kind, t_start, t_end, t_number, t_sign, t_letters, t_fault, t_faultPlace, rr_depth, c_rr_b, rf_lines, rf_steps, rf_asksSure, c_rf_kinds, c_rf_features, c_rf_compares, c_rf_numbers, c_rf_partners))))
theorem F_X_rule_s (h_features : Int32) (c_h_featureNames : Nat → Int64) (r_lines : Int32) (r_steps : Int32) (r_asksSure : Int32) (c_r_kinds : Nat → Int32) (c_r_features : Nat → Int32) (c_r_compares : Nat → Int32) (c_r_numbers : Nat → Int32) (c_r_partners : Nat → Int32) (t_fed : Int32) (t_length : Int32) (t_kind : Int32) (t_start : Int32) (t_end : Int32) (t_number : Int32) (t_sign : Int32) (t_letters : Int64) (t_fault : Int32) (t_faultPlace : Int32) (c_tape : Nat → Int32) (rr_depth : Int32) (c_rr_b : Nat → Int32) (rf_lines : Int32) (rf_steps : Int32) (rf_asksSure : Int32) (c_rf_kinds : Nat → Int32) (c_rf_features : Nat → Int32) (c_rf_compares : Nat → Int32) (c_rf_numbers : Nat → Int32) (c_rf_partners : Nat → Int32) (k1 : Int32) : F_X_rule h_features c_h_featureNames r_lines r_steps r_asksSure c_r_kinds c_r_features c_r_compares c_r_numbers c_r_partners t_fed t_length t_kind t_start t_end t_number t_sign t_letters t_fault t_faultPlace c_tape rr_depth c_rr_b rf_lines rf_steps rf_asksSure c_rf_kinds c_rf_features c_rf_compares c_rf_numbers c_rf_partners k1 = (
  if k1 < 0 then (
    let w_6 := F_Da_none 5
    let nw0_3 : Int32 := w_6
    ((-1 : Int32), nw0_3, r_lines, r_steps, r_asksSure, c_r_kinds, c_r_features, c_r_compares, c_r_numbers, c_r_partners, t_fed, t_length, t_kind, t_start, t_end, t_number, t_sign, t_letters, t_fault, t_faultPlace, rr_depth, c_rr_b, rf_lines, rf_steps, rf_asksSure, c_rf_kinds, c_rf_features, c_rf_compares, c_rf_numbers, c_rf_partners)) else (
    if t_fed < k1 then (
      let w_14 := F_Da_none 5
      let nw0_11 : Int32 := w_14
      ((-1 : Int32), nw0_11, r_lines, r_steps, r_asksSure, c_r_kinds, c_r_features, c_r_compares, c_r_numbers, c_r_partners, t_fed, t_length, t_kind, t_start, t_end, t_number, t_sign, t_letters, t_fault, t_faultPlace, rr_depth, c_rr_b, rf_lines, rf_steps, rf_asksSure, c_rf_kinds, c_rf_features, c_rf_compares, c_rf_numbers, c_rf_partners)) else (
      if k1 ≤ 300 then (
        let w_31 := F_Te_begin t_number t_sign t_letters c_tape k1
        let nw0_19 : Int32 := w_31.1
        let nw1_20 : Int32 := w_31.2.1
        let nw2_21 : Int32 := w_31.2.2.1
        let nw3_22 : Int32 := w_31.2.2.2.1
        let nw4_23 : Int32 := w_31.2.2.2.2.1
        let nw5_24 : Int32 := w_31.2.2.2.2.2.1
        let nw6_25 : Int32 := w_31.2.2.2.2.2.2.1
        let nw7_26 : Int64 := w_31.2.2.2.2.2.2.2.1
        let nw8_27 : Int32 := w_31.2.2.2.2.2.2.2.2.1
        let nw9_28 : Int32 := w_31.2.2.2.2.2.2.2.2.2
        let w_52 := F_Ru_readAll h_features c_h_featureNames nw1_20 nw2_21 nw3_22 nw4_23 nw5_24 nw6_25 nw7_26 nw8_27 nw9_28 c_tape c_rr_b c_rf_kinds c_rf_features c_rf_compares c_rf_numbers c_rf_partners
        let r_50 : Int32 := w_52.1
        let nw0_32 : Int32 := w_52.2.1
        let nw1_33 : Int32 := w_52.2.2.1
        let nw2_34 : Int32 := w_52.2.2.2.1
        let nw3_35 : Int32 := w_52.2.2.2.2.1
        let nw4_36 : Int32 := w_52.2.2.2.2.2.1
        let nw5_37 : Int32 := w_52.2.2.2.2.2.2.1
        let nw6_38 : Int64 := w_52.2.2.2.2.2.2.2.1
        let nw7_39 : Int32 := w_52.2.2.2.2.2.2.2.2.1
        let nw8_40 : Int32 := w_52.2.2.2.2.2.2.2.2.2.1
        let nw9_41 : Nat → Int32 := w_52.2.2.2.2.2.2.2.2.2.2.1
        let nw10_42 : Int32 := w_52.2.2.2.2.2.2.2.2.2.2.2.1
        let nw11_43 : Int32 := w_52.2.2.2.2.2.2.2.2.2.2.2.2.1
        let nw12_44 : Int32 := w_52.2.2.2.2.2.2.2.2.2.2.2.2.2.1
        let nw13_45 : Nat → Int32 := w_52.2.2.2.2.2.2.2.2.2.2.2.2.2.2.1
        let nw14_46 : Nat → Int32 := w_52.2.2.2.2.2.2.2.2.2.2.2.2.2.2.2.1
        let nw15_47 : Nat → Int32 := w_52.2.2.2.2.2.2.2.2.2.2.2.2.2.2.2.2.1
        let nw16_48 : Nat → Int32 := w_52.2.2.2.2.2.2.2.2.2.2.2.2.2.2.2.2.2.1
        let nw17_49 : Nat → Int32 := w_52.2.2.2.2.2.2.2.2.2.2.2.2.2.2.2.2.2.2
        if r_50 = 0 then (
          let w_75 := F_Da_none 10
          let nw0_72 : Int32 := w_75
          ((-1 : Int32), nw0_72, r_lines, r_steps, r_asksSure, c_r_kinds, c_r_features, c_r_compares, c_r_numbers, c_r_partners, nw0_19, nw1_20, nw1_33, nw2_34, nw3_35, nw4_36, nw5_37, nw6_38, nw7_39, nw8_40, nw0_32, nw9_41, nw10_42, nw11_43, nw12_44, nw13_45, nw14_46, nw15_47, nw16_48, nw17_49)) else (
          let w_65 := F_Ru_copy c_r_kinds c_r_features c_r_compares c_r_numbers c_r_partners nw10_42 nw11_43 nw12_44 nw13_45 nw14_46 nw15_47 nw16_48 nw17_49
          let nw0_55 : Int32 := w_65.1
          let nw1_56 : Int32 := w_65.2.1
          let nw2_57 : Int32 := w_65.2.2.1
          let nw3_58 : Nat → Int32 := w_65.2.2.2.1
          let nw4_59 : Nat → Int32 := w_65.2.2.2.2.1
          let nw5_60 : Nat → Int32 := w_65.2.2.2.2.2.1
          let nw6_61 : Nat → Int32 := w_65.2.2.2.2.2.2.1
          let nw7_62 : Nat → Int32 := w_65.2.2.2.2.2.2.2
          let w_69 := F_Da_told
          let nw0_66 : Int32 := w_69
          (nw1_56, nw0_66, nw0_55, nw1_56, nw2_57, nw3_58, nw4_59, nw5_60, nw6_61, nw7_62, nw0_19, nw1_20, nw1_33, nw2_34, nw3_35, nw4_36, nw5_37, nw6_38, nw7_39, nw8_40, nw0_32, nw9_41, nw10_42, nw11_43, nw12_44, nw13_45, nw14_46, nw15_47, nw16_48, nw17_49))) else (
        let w_81 := F_Da_none 5
        let nw0_78 : Int32 := w_81
        ((-1 : Int32), nw0_78, r_lines, r_steps, r_asksSure, c_r_kinds, c_r_features, c_r_compares, c_r_numbers, c_r_partners, t_fed, t_length, t_kind, t_start, t_end, t_number, t_sign, t_letters, t_fault, t_faultPlace, rr_depth, c_rr_b, rf_lines, rf_steps, rf_asksSure, c_rf_kinds, c_rf_features, c_rf_compares, c_rf_numbers, c_rf_partners))))) := rfl
noncomputable def F_X_mark (x_marks : Int32) (h_features : Int32) (h_keys : Int32) (h_lent : Int32) (h_rings : Int32) (h_doors : Int32) (h_turned : Int32) (h_roundMany : Int32) (c_h_featureNames : Nat → Int64) (c_h_steps : Nat → Int32) (c_h_turnedFeatures : Nat → Int32) (c_h_sixteenths : Nat → Int32) (c_h_keySteps : Nat → Int32) (c_h_on : Nat → Int32) (c_h_onMany : Nat → Int32) (c_h_wanted : Nat → Int32) (c_h_openers : Nat → Int32) (c_h_seconds : Nat → Int32) (c_h_roundDoors : Nat → Int32) (o_held : Int32) (o_places : Int32) (c_o_row : Nat → Int32) (c_o_parts : Nat → Int64) (r_lines : Int32) (r_steps : Int32) (r_asksSure : Int32) (c_r_kinds : Nat → Int32) (c_r_features : Nat → Int32) (c_r_compares : Nat → Int32) (c_r_numbers : Nat → Int32) (c_r_partners : Nat → Int32) (kh0_features : Int32) (kh0_keys : Int32) (kh0_lent : Int32) (kh0_rings : Int32) (kh0_doors : Int32) (kh0_turned : Int32) (kh0_roundMany : Int32) (c_kh0_featureNames : Nat → Int64) (c_kh0_steps : Nat → Int32) (c_kh0_turnedFeatures : Nat → Int32) (c_kh0_sixteenths : Nat → Int32) (c_kh0_keySteps : Nat → Int32) (c_kh0_on : Nat → Int32) (c_kh0_onMany : Nat → Int32) (c_kh0_wanted : Nat → Int32) (c_kh0_openers : Nat → Int32) (c_kh0_seconds : Nat → Int32) (c_kh0_roundDoors : Nat → Int32) (ko0_held : Int32) (ko0_places : Int32) (c_ko0_row : Nat → Int32) (c_ko0_parts : Nat → Int64) (kr0_lines : Int32) (kr0_steps : Int32) (kr0_asksSure : Int32) (c_kr0_kinds : Nat → Int32) (c_kr0_features : Nat → Int32) (c_kr0_compares : Nat → Int32) (c_kr0_numbers : Nat → Int32) (c_kr0_partners : Nat → Int32) (kh1_features : Int32) (kh1_keys : Int32) (kh1_lent : Int32) (kh1_rings : Int32) (kh1_doors : Int32) (kh1_turned : Int32) (kh1_roundMany : Int32) (c_kh1_featureNames : Nat → Int64) (c_kh1_steps : Nat → Int32) (c_kh1_turnedFeatures : Nat → Int32) (c_kh1_sixteenths : Nat → Int32) (c_kh1_keySteps : Nat → Int32) (c_kh1_on : Nat → Int32) (c_kh1_onMany : Nat → Int32) (c_kh1_wanted : Nat → Int32) (c_kh1_openers : Nat → Int32) (c_kh1_seconds : Nat → Int32) (c_kh1_roundDoors : Nat → Int32) (ko1_held : Int32) (ko1_places : Int32) (c_ko1_row : Nat → Int32) (c_ko1_parts : Nat → Int64) (kr1_lines : Int32) (kr1_steps : Int32) (kr1_asksSure : Int32) (c_kr1_kinds : Nat → Int32) (c_kr1_features : Nat → Int32) (c_kr1_compares : Nat → Int32) (c_kr1_numbers : Nat → Int32) (c_kr1_partners : Nat → Int32) (kh2_features : Int32) (kh2_keys : Int32) (kh2_lent : Int32) (kh2_rings : Int32) (kh2_doors : Int32) (kh2_turned : Int32) (kh2_roundMany : Int32) (c_kh2_featureNames : Nat → Int64) (c_kh2_steps : Nat → Int32) (c_kh2_turnedFeatures : Nat → Int32) (c_kh2_sixteenths : Nat → Int32) (c_kh2_keySteps : Nat → Int32) (c_kh2_on : Nat → Int32) (c_kh2_onMany : Nat → Int32) (c_kh2_wanted : Nat → Int32) (c_kh2_openers : Nat → Int32) (c_kh2_seconds : Nat → Int32) (c_kh2_roundDoors : Nat → Int32) (ko2_held : Int32) (ko2_places : Int32) (c_ko2_row : Nat → Int32) (c_ko2_parts : Nat → Int64) (kr2_lines : Int32) (kr2_steps : Int32) (kr2_asksSure : Int32) (c_kr2_kinds : Nat → Int32) (c_kr2_features : Nat → Int32) (c_kr2_compares : Nat → Int32) (c_kr2_numbers : Nat → Int32) (c_kr2_partners : Nat → Int32) : Int32 × Int32 × Int32 × Int32 × Int32 × Int32 × Int32 × Int32 × Int32 × Int32 × (Nat → Int64) × (Nat → Int32) × (Nat → Int32) × (Nat → Int32) × (Nat → Int32) × (Nat → Int32) × (Nat → Int32) × (Nat → Int32) × (Nat → Int32) × (Nat → Int32) × (Nat → Int32) × Int32 × Int32 × (Nat → Int32) × (Nat → Int64) × Int32 × Int32 × Int32 × (Nat → Int32) × (Nat → Int32) × (Nat → Int32) × (Nat → Int32) × (Nat → Int32) × Int32 × Int32 × Int32 × Int32 × Int32 × Int32 × Int32 × (Nat → Int64) × (Nat → Int32) × (Nat → Int32) × (Nat → Int32) × (Nat → Int32) × (Nat → Int32) × (Nat → Int32) × (Nat → Int32) × (Nat → Int32) × (Nat → Int32) × (Nat → Int32) × Int32 × Int32 × (Nat → Int32) × (Nat → Int64) × Int32 × Int32 × Int32 × (Nat → Int32) × (Nat → Int32) × (Nat → Int32) × (Nat → Int32) × (Nat → Int32) × Int32 × Int32 × Int32 × Int32 × Int32 × Int32 × Int32 × (Nat → Int64) × (Nat → Int32) × (Nat → Int32) × (Nat → Int32) × (Nat → Int32) × (Nat → Int32) × (Nat → Int32) × (Nat → Int32) × (Nat → Int32) × (Nat → Int32) × (Nat → Int32) × Int32 × Int32 × (Nat → Int32) × (Nat → Int64) × Int32 × Int32 × Int32 × (Nat → Int32) × (Nat → Int32) × (Nat → Int32) × (Nat → Int32) × (Nat → Int32) :=
  if x_marks < 0 then (
    let w_6 := F_Da_none 7
    let nw0_3 : Int32 := w_6
    ((-1 : Int32), nw0_3, x_marks, kh0_features, kh0_keys, kh0_lent, kh0_rings, kh0_doors, kh0_turned, kh0_roundMany, c_kh0_featureNames, c_kh0_steps, c_kh0_turnedFeatures, c_kh0_sixteenths, c_kh0_keySteps, c_kh0_on, c_kh0_onMany, c_kh0_wanted, c_kh0_openers, c_kh0_seconds, c_kh0_roundDoors, ko0_held, ko0_places, c_ko0_row, c_ko0_parts, kr0_lines, kr0_steps, kr0_asksSure, c_kr0_kinds, c_kr0_features, c_kr0_compares, c_kr0_numbers, c_kr0_partners, kh1_features, kh1_keys, kh1_lent, kh1_rings, kh1_doors, kh1_turned, kh1_roundMany, c_kh1_featureNames, c_kh1_steps, c_kh1_turnedFeatures, c_kh1_sixteenths, c_kh1_keySteps, c_kh1_on, c_kh1_onMany, c_kh1_wanted, c_kh1_openers, c_kh1_seconds, c_kh1_roundDoors, ko1_held, ko1_places, c_ko1_row, c_ko1_parts, kr1_lines, kr1_steps, kr1_asksSure, c_kr1_kinds, c_kr1_features, c_kr1_compares, c_kr1_numbers, c_kr1_partners, kh2_features, kh2_keys, kh2_lent, kh2_rings, kh2_doors, kh2_turned, kh2_roundMany, c_kh2_featureNames, c_kh2_steps, c_kh2_turnedFeatures, c_kh2_sixteenths, c_kh2_keySteps, c_kh2_on, c_kh2_onMany, c_kh2_wanted, c_kh2_openers, c_kh2_seconds, c_kh2_roundDoors, ko2_held, ko2_places, c_ko2_row, c_ko2_parts, kr2_lines, kr2_steps, kr2_asksSure, c_kr2_kinds, c_kr2_features, c_kr2_compares, c_kr2_numbers, c_kr2_partners)) else (
    if x_marks < 3 then (
      if x_marks = 0 then (
        let w_31 := F_Ho_copy c_kh0_featureNames c_kh0_steps c_kh0_turnedFeatures c_kh0_sixteenths c_kh0_keySteps c_kh0_on c_kh0_onMany c_kh0_wanted c_kh0_openers c_kh0_seconds c_kh0_roundDoors h_features h_keys h_lent h_rings h_doors h_turned h_roundMany c_h_featureNames c_h_steps c_h_turnedFeatures c_h_sixteenths c_h_keySteps c_h_on c_h_onMany c_h_wanted c_h_openers c_h_seconds c_h_roundDoors
        let nw0_11 : Int32 := w_31.1
        let nw1_12 : Int32 := w_31.2.1
        let nw2_13 : Int32 := w_31.2.2.1
        let nw3_14 : Int32 := w_31.2.2.2.1
        let nw4_15 : Int32 := w_31.2.2.2.2.1
        let nw5_16 : Int32 := w_31.2.2.2.2.2.1
        let nw6_17 : Int32 := w_31.2.2.2.2.2.2.1
        let nw7_18 : Nat → Int64 := w_31.2.2.2.2.2.2.2.1
        let nw8_19 : Nat → Int32 := w_31.2.2.2.2.2.2.2.2.1
        let nw9_20 : Nat → Int32 := w_31.2.2.2.2.2.2.2.2.2.1
        let nw10_21 : Nat → Int32 := w_31.2.2.2.2.2.2.2.2.2.2.1
        let nw11_22 : Nat → Int32 := w_31.2.2.2.2.2.2.2.2.2.2.2.1
        let nw12_23 : Nat → Int32 := w_31.2.2.2.2.2.2.2.2.2.2.2.2.1
        let nw13_24 : Nat → Int32 := w_31.2.2.2.2.2.2.2.2.2.2.2.2.2.1
        let nw14_25 : Nat → Int32 := w_31.2.2.2.2.2.2.2.2.2.2.2.2.2.2.1
        let nw15_26 : Nat → Int32 := w_31.2.2.2.2.2.2.2.2.2.2.2.2.2.2.2.1
        let nw16_27 : Nat → Int32 := w_31.2.2.2.2.2.2.2.2.2.2.2.2.2.2.2.2.1
        let nw17_28 : Nat → Int32 := w_31.2.2.2.2.2.2.2.2.2.2.2.2.2.2.2.2.2
        let w_38 := F_Th_copy o_held o_places c_o_row c_o_parts c_ko0_row c_ko0_parts
        let nw0_32 : Int32 := w_38.1
        let nw1_33 : Int32 := w_38.2.1
        let nw2_34 : Nat → Int32 := w_38.2.2.1
        let nw3_35 : Nat → Int64 := w_38.2.2.2
        let w_49 := F_Ru_copy c_kr0_kinds c_kr0_features c_kr0_compares c_kr0_numbers c_kr0_partners r_lines r_steps r_asksSure c_r_kinds c_r_features c_r_compares c_r_numbers c_r_partners
        let nw0_39 : Int32 := w_49.1
        let nw1_40 : Int32 := w_49.2.1
        let nw2_41 : Int32 := w_49.2.2.1
        let nw3_42 : Nat → Int32 := w_49.2.2.2.1
        let nw4_43 : Nat → Int32 := w_49.2.2.2.2.1
        let nw5_44 : Nat → Int32 := w_49.2.2.2.2.2.1
        let nw6_45 : Nat → Int32 := w_49.2.2.2.2.2.2.1
        let nw7_46 : Nat → Int32 := w_49.2.2.2.2.2.2.2
        let w_53 := F_Da_told
        let nw0_50 : Int32 := w_53
        ((1 : Int32), nw0_50, (1 : Int32), nw0_11, nw1_12, nw2_13, nw3_14, nw4_15, nw5_16, nw6_17, nw7_18, nw8_19, nw9_20, nw10_21, nw11_22, nw12_23, nw13_24, nw14_25, nw15_26, nw16_27, nw17_28, nw0_32, nw1_33, nw2_34, nw3_35, nw0_39, nw1_40, nw2_41, nw3_42, nw4_43, nw5_44, nw6_45, nw7_46, kh1_features, kh1_keys, kh1_lent, kh1_rings, kh1_doors, kh1_turned, kh1_roundMany, c_kh1_featureNames, c_kh1_steps, c_kh1_turnedFeatures, c_kh1_sixteenths, c_kh1_keySteps, c_kh1_on, c_kh1_onMany, c_kh1_wanted, c_kh1_openers, c_kh1_seconds, c_kh1_roundDoors, ko1_held, ko1_places, c_ko1_row, c_ko1_parts, kr1_lines, kr1_steps, kr1_asksSure, c_kr1_kinds, c_kr1_features, c_kr1_compares, c_kr1_numbers, c_kr1_partners, kh2_features, kh2_keys, kh2_lent, kh2_rings, kh2_doors, kh2_turned, kh2_roundMany, c_kh2_featureNames, c_kh2_steps, c_kh2_turnedFeatures, c_kh2_sixteenths, c_kh2_keySteps, c_kh2_on, c_kh2_onMany, c_kh2_wanted, c_kh2_openers, c_kh2_seconds, c_kh2_roundDoors, ko2_held, ko2_places, c_ko2_row, c_ko2_parts, kr2_lines, kr2_steps, kr2_asksSure, c_kr2_kinds, c_kr2_features, c_kr2_compares, c_kr2_numbers, c_kr2_partners)) else
      if x_marks = 1 then (
        let w_75 := F_Ho_copy c_kh1_featureNames c_kh1_steps c_kh1_turnedFeatures c_kh1_sixteenths c_kh1_keySteps c_kh1_on c_kh1_onMany c_kh1_wanted c_kh1_openers c_kh1_seconds c_kh1_roundDoors h_features h_keys h_lent h_rings h_doors h_turned h_roundMany c_h_featureNames c_h_steps c_h_turnedFeatures c_h_sixteenths c_h_keySteps c_h_on c_h_onMany c_h_wanted c_h_openers c_h_seconds c_h_roundDoors
        let nw0_55 : Int32 := w_75.1
        let nw1_56 : Int32 := w_75.2.1
        let nw2_57 : Int32 := w_75.2.2.1
        let nw3_58 : Int32 := w_75.2.2.2.1
        let nw4_59 : Int32 := w_75.2.2.2.2.1
        let nw5_60 : Int32 := w_75.2.2.2.2.2.1
        let nw6_61 : Int32 := w_75.2.2.2.2.2.2.1
        let nw7_62 : Nat → Int64 := w_75.2.2.2.2.2.2.2.1
        let nw8_63 : Nat → Int32 := w_75.2.2.2.2.2.2.2.2.1
        let nw9_64 : Nat → Int32 := w_75.2.2.2.2.2.2.2.2.2.1
        let nw10_65 : Nat → Int32 := w_75.2.2.2.2.2.2.2.2.2.2.1
        let nw11_66 : Nat → Int32 := w_75.2.2.2.2.2.2.2.2.2.2.2.1
        let nw12_67 : Nat → Int32 := w_75.2.2.2.2.2.2.2.2.2.2.2.2.1
        let nw13_68 : Nat → Int32 := w_75.2.2.2.2.2.2.2.2.2.2.2.2.2.1
        let nw14_69 : Nat → Int32 := w_75.2.2.2.2.2.2.2.2.2.2.2.2.2.2.1
        let nw15_70 : Nat → Int32 := w_75.2.2.2.2.2.2.2.2.2.2.2.2.2.2.2.1
        let nw16_71 : Nat → Int32 := w_75.2.2.2.2.2.2.2.2.2.2.2.2.2.2.2.2.1
        let nw17_72 : Nat → Int32 := w_75.2.2.2.2.2.2.2.2.2.2.2.2.2.2.2.2.2
        let w_82 := F_Th_copy o_held o_places c_o_row c_o_parts c_ko1_row c_ko1_parts
        let nw0_76 : Int32 := w_82.1
        let nw1_77 : Int32 := w_82.2.1
        let nw2_78 : Nat → Int32 := w_82.2.2.1
        let nw3_79 : Nat → Int64 := w_82.2.2.2
        let w_93 := F_Ru_copy c_kr1_kinds c_kr1_features c_kr1_compares c_kr1_numbers c_kr1_partners r_lines r_steps r_asksSure c_r_kinds c_r_features c_r_compares c_r_numbers c_r_partners
        let nw0_83 : Int32 := w_93.1
        let nw1_84 : Int32 := w_93.2.1
        let nw2_85 : Int32 := w_93.2.2.1
        let nw3_86 : Nat → Int32 := w_93.2.2.2.1
        let nw4_87 : Nat → Int32 := w_93.2.2.2.2.1
        let nw5_88 : Nat → Int32 := w_93.2.2.2.2.2.1
        let nw6_89 : Nat → Int32 := w_93.2.2.2.2.2.2.1
        let nw7_90 : Nat → Int32 := w_93.2.2.2.2.2.2.2
        let w_97 := F_Da_told
        let nw0_94 : Int32 := w_97
        ((2 : Int32), nw0_94, (2 : Int32), kh0_features, kh0_keys, kh0_lent, kh0_rings, kh0_doors, kh0_turned, kh0_roundMany, c_kh0_featureNames, c_kh0_steps, c_kh0_turnedFeatures, c_kh0_sixteenths, c_kh0_keySteps, c_kh0_on, c_kh0_onMany, c_kh0_wanted, c_kh0_openers, c_kh0_seconds, c_kh0_roundDoors, ko0_held, ko0_places, c_ko0_row, c_ko0_parts, kr0_lines, kr0_steps, kr0_asksSure, c_kr0_kinds, c_kr0_features, c_kr0_compares, c_kr0_numbers, c_kr0_partners, nw0_55, nw1_56, nw2_57, nw3_58, nw4_59, nw5_60, nw6_61, nw7_62, nw8_63, nw9_64, nw10_65, nw11_66, nw12_67, nw13_68, nw14_69, nw15_70, nw16_71, nw17_72, nw0_76, nw1_77, nw2_78, nw3_79, nw0_83, nw1_84, nw2_85, nw3_86, nw4_87, nw5_88, nw6_89, nw7_90, kh2_features, kh2_keys, kh2_lent, kh2_rings, kh2_doors, kh2_turned, kh2_roundMany, c_kh2_featureNames, c_kh2_steps, c_kh2_turnedFeatures, c_kh2_sixteenths, c_kh2_keySteps, c_kh2_on, c_kh2_onMany, c_kh2_wanted, c_kh2_openers, c_kh2_seconds, c_kh2_roundDoors, ko2_held, ko2_places, c_ko2_row, c_ko2_parts, kr2_lines, kr2_steps, kr2_asksSure, c_kr2_kinds, c_kr2_features, c_kr2_compares, c_kr2_numbers, c_kr2_partners)) else
      (
        let w_119 := F_Ho_copy c_kh2_featureNames c_kh2_steps c_kh2_turnedFeatures c_kh2_sixteenths c_kh2_keySteps c_kh2_on c_kh2_onMany c_kh2_wanted c_kh2_openers c_kh2_seconds c_kh2_roundDoors h_features h_keys h_lent h_rings h_doors h_turned h_roundMany c_h_featureNames c_h_steps c_h_turnedFeatures c_h_sixteenths c_h_keySteps c_h_on c_h_onMany c_h_wanted c_h_openers c_h_seconds c_h_roundDoors
        let nw0_99 : Int32 := w_119.1
        let nw1_100 : Int32 := w_119.2.1
        let nw2_101 : Int32 := w_119.2.2.1
        let nw3_102 : Int32 := w_119.2.2.2.1
        let nw4_103 : Int32 := w_119.2.2.2.2.1
        let nw5_104 : Int32 := w_119.2.2.2.2.2.1
        let nw6_105 : Int32 := w_119.2.2.2.2.2.2.1
        let nw7_106 : Nat → Int64 := w_119.2.2.2.2.2.2.2.1
        let nw8_107 : Nat → Int32 := w_119.2.2.2.2.2.2.2.2.1
        let nw9_108 : Nat → Int32 := w_119.2.2.2.2.2.2.2.2.2.1
        let nw10_109 : Nat → Int32 := w_119.2.2.2.2.2.2.2.2.2.2.1
        let nw11_110 : Nat → Int32 := w_119.2.2.2.2.2.2.2.2.2.2.2.1
        let nw12_111 : Nat → Int32 := w_119.2.2.2.2.2.2.2.2.2.2.2.2.1
        let nw13_112 : Nat → Int32 := w_119.2.2.2.2.2.2.2.2.2.2.2.2.2.1
        let nw14_113 : Nat → Int32 := w_119.2.2.2.2.2.2.2.2.2.2.2.2.2.2.1
        let nw15_114 : Nat → Int32 := w_119.2.2.2.2.2.2.2.2.2.2.2.2.2.2.2.1
        let nw16_115 : Nat → Int32 := w_119.2.2.2.2.2.2.2.2.2.2.2.2.2.2.2.2.1
        let nw17_116 : Nat → Int32 := w_119.2.2.2.2.2.2.2.2.2.2.2.2.2.2.2.2.2
        let w_126 := F_Th_copy o_held o_places c_o_row c_o_parts c_ko2_row c_ko2_parts
        let nw0_120 : Int32 := w_126.1
        let nw1_121 : Int32 := w_126.2.1
        let nw2_122 : Nat → Int32 := w_126.2.2.1
        let nw3_123 : Nat → Int64 := w_126.2.2.2
        let w_137 := F_Ru_copy c_kr2_kinds c_kr2_features c_kr2_compares c_kr2_numbers c_kr2_partners r_lines r_steps r_asksSure c_r_kinds c_r_features c_r_compares c_r_numbers c_r_partners
        let nw0_127 : Int32 := w_137.1
        let nw1_128 : Int32 := w_137.2.1
        let nw2_129 : Int32 := w_137.2.2.1
        let nw3_130 : Nat → Int32 := w_137.2.2.2.1
        let nw4_131 : Nat → Int32 := w_137.2.2.2.2.1
        let nw5_132 : Nat → Int32 := w_137.2.2.2.2.2.1
        let nw6_133 : Nat → Int32 := w_137.2.2.2.2.2.2.1
        let nw7_134 : Nat → Int32 := w_137.2.2.2.2.2.2.2
        let w_141 := F_Da_told
        let nw0_138 : Int32 := w_141
        ((3 : Int32), nw0_138, (3 : Int32), kh0_features, kh0_keys, kh0_lent, kh0_rings, kh0_doors, kh0_turned, kh0_roundMany, c_kh0_featureNames, c_kh0_steps, c_kh0_turnedFeatures, c_kh0_sixteenths, c_kh0_keySteps, c_kh0_on, c_kh0_onMany, c_kh0_wanted, c_kh0_openers, c_kh0_seconds, c_kh0_roundDoors, ko0_held, ko0_places, c_ko0_row, c_ko0_parts, kr0_lines, kr0_steps, kr0_asksSure, c_kr0_kinds, c_kr0_features, c_kr0_compares, c_kr0_numbers, c_kr0_partners, kh1_features, kh1_keys, kh1_lent, kh1_rings, kh1_doors, kh1_turned, kh1_roundMany, c_kh1_featureNames, c_kh1_steps, c_kh1_turnedFeatures, c_kh1_sixteenths, c_kh1_keySteps, c_kh1_on, c_kh1_onMany, c_kh1_wanted, c_kh1_openers, c_kh1_seconds, c_kh1_roundDoors, ko1_held, ko1_places, c_ko1_row, c_ko1_parts, kr1_lines, kr1_steps, kr1_asksSure, c_kr1_kinds, c_kr1_features, c_kr1_compares, c_kr1_numbers, c_kr1_partners, nw0_99, nw1_100, nw2_101, nw3_102, nw4_103, nw5_104, nw6_105, nw7_106, nw8_107, nw9_108, nw10_109, nw11_110, nw12_111, nw13_112, nw14_113, nw15_114, nw16_115, nw17_116, nw0_120, nw1_121, nw2_122, nw3_123, nw0_127, nw1_128, nw2_129, nw3_130, nw4_131, nw5_132, nw6_133, nw7_134))) else (
      let w_147 := F_Da_none 7
      let nw0_144 : Int32 := w_147
      ((-1 : Int32), nw0_144, x_marks, kh0_features, kh0_keys, kh0_lent, kh0_rings, kh0_doors, kh0_turned, kh0_roundMany, c_kh0_featureNames, c_kh0_steps, c_kh0_turnedFeatures, c_kh0_sixteenths, c_kh0_keySteps, c_kh0_on, c_kh0_onMany, c_kh0_wanted, c_kh0_openers, c_kh0_seconds, c_kh0_roundDoors, ko0_held, ko0_places, c_ko0_row, c_ko0_parts, kr0_lines, kr0_steps, kr0_asksSure, c_kr0_kinds, c_kr0_features, c_kr0_compares, c_kr0_numbers, c_kr0_partners, kh1_features, kh1_keys, kh1_lent, kh1_rings, kh1_doors, kh1_turned, kh1_roundMany, c_kh1_featureNames, c_kh1_steps, c_kh1_turnedFeatures, c_kh1_sixteenths, c_kh1_keySteps, c_kh1_on, c_kh1_onMany, c_kh1_wanted, c_kh1_openers, c_kh1_seconds, c_kh1_roundDoors, ko1_held, ko1_places, c_ko1_row, c_ko1_parts, kr1_lines, kr1_steps, kr1_asksSure, c_kr1_kinds, c_kr1_features, c_kr1_compares, c_kr1_numbers, c_kr1_partners, kh2_features, kh2_keys, kh2_lent, kh2_rings, kh2_doors, kh2_turned, kh2_roundMany, c_kh2_featureNames, c_kh2_steps, c_kh2_turnedFeatures, c_kh2_sixteenths, c_kh2_keySteps, c_kh2_on, c_kh2_onMany, c_kh2_wanted, c_kh2_openers, c_kh2_seconds, c_kh2_roundDoors, ko2_held, ko2_places, c_ko2_row, c_ko2_parts, kr2_lines, kr2_steps, kr2_asksSure, c_kr2_kinds, c_kr2_features, c_kr2_compares, c_kr2_numbers, c_kr2_partners)))
theorem F_X_mark_s (x_marks : Int32) (h_features : Int32) (h_keys : Int32) (h_lent : Int32) (h_rings : Int32) (h_doors : Int32) (h_turned : Int32) (h_roundMany : Int32) (c_h_featureNames : Nat → Int64) (c_h_steps : Nat → Int32) (c_h_turnedFeatures : Nat → Int32) (c_h_sixteenths : Nat → Int32) (c_h_keySteps : Nat → Int32) (c_h_on : Nat → Int32) (c_h_onMany : Nat → Int32) (c_h_wanted : Nat → Int32) (c_h_openers : Nat → Int32) (c_h_seconds : Nat → Int32) (c_h_roundDoors : Nat → Int32) (o_held : Int32) (o_places : Int32) (c_o_row : Nat → Int32) (c_o_parts : Nat → Int64) (r_lines : Int32) (r_steps : Int32) (r_asksSure : Int32) (c_r_kinds : Nat → Int32) (c_r_features : Nat → Int32) (c_r_compares : Nat → Int32) (c_r_numbers : Nat → Int32) (c_r_partners : Nat → Int32) (kh0_features : Int32) (kh0_keys : Int32) (kh0_lent : Int32) (kh0_rings : Int32) (kh0_doors : Int32) (kh0_turned : Int32) (kh0_roundMany : Int32) (c_kh0_featureNames : Nat → Int64) (c_kh0_steps : Nat → Int32) (c_kh0_turnedFeatures : Nat → Int32) (c_kh0_sixteenths : Nat → Int32) (c_kh0_keySteps : Nat → Int32) (c_kh0_on : Nat → Int32) (c_kh0_onMany : Nat → Int32) (c_kh0_wanted : Nat → Int32) (c_kh0_openers : Nat → Int32) (c_kh0_seconds : Nat → Int32) (c_kh0_roundDoors : Nat → Int32) (ko0_held : Int32) (ko0_places : Int32) (c_ko0_row : Nat → Int32) (c_ko0_parts : Nat → Int64) (kr0_lines : Int32) (kr0_steps : Int32) (kr0_asksSure : Int32) (c_kr0_kinds : Nat → Int32) (c_kr0_features : Nat → Int32) (c_kr0_compares : Nat → Int32) (c_kr0_numbers : Nat → Int32) (c_kr0_partners : Nat → Int32) (kh1_features : Int32) (kh1_keys : Int32) (kh1_lent : Int32) (kh1_rings : Int32) (kh1_doors : Int32) (kh1_turned : Int32) (kh1_roundMany : Int32) (c_kh1_featureNames : Nat → Int64) (c_kh1_steps : Nat → Int32) (c_kh1_turnedFeatures : Nat → Int32) (c_kh1_sixteenths : Nat → Int32) (c_kh1_keySteps : Nat → Int32) (c_kh1_on : Nat → Int32) (c_kh1_onMany : Nat → Int32) (c_kh1_wanted : Nat → Int32) (c_kh1_openers : Nat → Int32) (c_kh1_seconds : Nat → Int32) (c_kh1_roundDoors : Nat → Int32) (ko1_held : Int32) (ko1_places : Int32) (c_ko1_row : Nat → Int32) (c_ko1_parts : Nat → Int64) (kr1_lines : Int32) (kr1_steps : Int32) (kr1_asksSure : Int32) (c_kr1_kinds : Nat → Int32) (c_kr1_features : Nat → Int32) (c_kr1_compares : Nat → Int32) (c_kr1_numbers : Nat → Int32) (c_kr1_partners : Nat → Int32) (kh2_features : Int32) (kh2_keys : Int32) (kh2_lent : Int32) (kh2_rings : Int32) (kh2_doors : Int32) (kh2_turned : Int32) (kh2_roundMany : Int32) (c_kh2_featureNames : Nat → Int64) (c_kh2_steps : Nat → Int32) (c_kh2_turnedFeatures : Nat → Int32) (c_kh2_sixteenths : Nat → Int32) (c_kh2_keySteps : Nat → Int32) (c_kh2_on : Nat → Int32) (c_kh2_onMany : Nat → Int32) (c_kh2_wanted : Nat → Int32) (c_kh2_openers : Nat → Int32) (c_kh2_seconds : Nat → Int32) (c_kh2_roundDoors : Nat → Int32) (ko2_held : Int32) (ko2_places : Int32) (c_ko2_row : Nat → Int32) (c_ko2_parts : Nat → Int64) (kr2_lines : Int32) (kr2_steps : Int32) (kr2_asksSure : Int32) (c_kr2_kinds : Nat → Int32) (c_kr2_features : Nat → Int32) (c_kr2_compares : Nat → Int32) (c_kr2_numbers : Nat → Int32) (c_kr2_partners : Nat → Int32) : F_X_mark x_marks h_features h_keys h_lent h_rings h_doors h_turned h_roundMany c_h_featureNames c_h_steps c_h_turnedFeatures c_h_sixteenths c_h_keySteps c_h_on c_h_onMany c_h_wanted c_h_openers c_h_seconds c_h_roundDoors o_held o_places c_o_row c_o_parts r_lines r_steps r_asksSure c_r_kinds c_r_features c_r_compares c_r_numbers c_r_partners kh0_features kh0_keys kh0_lent kh0_rings kh0_doors kh0_turned kh0_roundMany c_kh0_featureNames c_kh0_steps c_kh0_turnedFeatures c_kh0_sixteenths c_kh0_keySteps c_kh0_on c_kh0_onMany c_kh0_wanted c_kh0_openers c_kh0_seconds c_kh0_roundDoors ko0_held ko0_places c_ko0_row c_ko0_parts kr0_lines kr0_steps kr0_asksSure c_kr0_kinds c_kr0_features c_kr0_compares c_kr0_numbers c_kr0_partners kh1_features kh1_keys kh1_lent kh1_rings kh1_doors kh1_turned kh1_roundMany c_kh1_featureNames c_kh1_steps c_kh1_turnedFeatures c_kh1_sixteenths c_kh1_keySteps c_kh1_on c_kh1_onMany c_kh1_wanted c_kh1_openers c_kh1_seconds c_kh1_roundDoors ko1_held ko1_places c_ko1_row c_ko1_parts kr1_lines kr1_steps kr1_asksSure c_kr1_kinds c_kr1_features c_kr1_compares c_kr1_numbers c_kr1_partners kh2_features kh2_keys kh2_lent kh2_rings kh2_doors kh2_turned kh2_roundMany c_kh2_featureNames c_kh2_steps c_kh2_turnedFeatures c_kh2_sixteenths c_kh2_keySteps c_kh2_on c_kh2_onMany c_kh2_wanted c_kh2_openers c_kh2_seconds c_kh2_roundDoors ko2_held ko2_places c_ko2_row c_ko2_parts kr2_lines kr2_steps kr2_asksSure c_kr2_kinds c_kr2_features c_kr2_compares c_kr2_numbers c_kr2_partners = (
  if x_marks < 0 then (
    let w_6 := F_Da_none 7
    let nw0_3 : Int32 := w_6
    ((-1 : Int32), nw0_3, x_marks, kh0_features, kh0_keys, kh0_lent, kh0_rings, kh0_doors, kh0_turned, kh0_roundMany, c_kh0_featureNames, c_kh0_steps, c_kh0_turnedFeatures, c_kh0_sixteenths, c_kh0_keySteps, c_kh0_on, c_kh0_onMany, c_kh0_wanted, c_kh0_openers, c_kh0_seconds, c_kh0_roundDoors, ko0_held, ko0_places, c_ko0_row, c_ko0_parts, kr0_lines, kr0_steps, kr0_asksSure, c_kr0_kinds, c_kr0_features, c_kr0_compares, c_kr0_numbers, c_kr0_partners, kh1_features, kh1_keys, kh1_lent, kh1_rings, kh1_doors, kh1_turned, kh1_roundMany, c_kh1_featureNames, c_kh1_steps, c_kh1_turnedFeatures, c_kh1_sixteenths, c_kh1_keySteps, c_kh1_on, c_kh1_onMany, c_kh1_wanted, c_kh1_openers, c_kh1_seconds, c_kh1_roundDoors, ko1_held, ko1_places, c_ko1_row, c_ko1_parts, kr1_lines, kr1_steps, kr1_asksSure, c_kr1_kinds, c_kr1_features, c_kr1_compares, c_kr1_numbers, c_kr1_partners, kh2_features, kh2_keys, kh2_lent, kh2_rings, kh2_doors, kh2_turned, kh2_roundMany, c_kh2_featureNames, c_kh2_steps, c_kh2_turnedFeatures, c_kh2_sixteenths, c_kh2_keySteps, c_kh2_on, c_kh2_onMany, c_kh2_wanted, c_kh2_openers, c_kh2_seconds, c_kh2_roundDoors, ko2_held, ko2_places, c_ko2_row, c_ko2_parts, kr2_lines, kr2_steps, kr2_asksSure, c_kr2_kinds, c_kr2_features, c_kr2_compares, c_kr2_numbers, c_kr2_partners)) else (
    if x_marks < 3 then (
      if x_marks = 0 then (
        let w_31 := F_Ho_copy c_kh0_featureNames c_kh0_steps c_kh0_turnedFeatures c_kh0_sixteenths c_kh0_keySteps c_kh0_on c_kh0_onMany c_kh0_wanted c_kh0_openers c_kh0_seconds c_kh0_roundDoors h_features h_keys h_lent h_rings h_doors h_turned h_roundMany c_h_featureNames c_h_steps c_h_turnedFeatures c_h_sixteenths c_h_keySteps c_h_on c_h_onMany c_h_wanted c_h_openers c_h_seconds c_h_roundDoors
        let nw0_11 : Int32 := w_31.1
        let nw1_12 : Int32 := w_31.2.1
        let nw2_13 : Int32 := w_31.2.2.1
        let nw3_14 : Int32 := w_31.2.2.2.1
        let nw4_15 : Int32 := w_31.2.2.2.2.1
        let nw5_16 : Int32 := w_31.2.2.2.2.2.1
        let nw6_17 : Int32 := w_31.2.2.2.2.2.2.1
        let nw7_18 : Nat → Int64 := w_31.2.2.2.2.2.2.2.1
        let nw8_19 : Nat → Int32 := w_31.2.2.2.2.2.2.2.2.1
        let nw9_20 : Nat → Int32 := w_31.2.2.2.2.2.2.2.2.2.1
        let nw10_21 : Nat → Int32 := w_31.2.2.2.2.2.2.2.2.2.2.1
        let nw11_22 : Nat → Int32 := w_31.2.2.2.2.2.2.2.2.2.2.2.1
        let nw12_23 : Nat → Int32 := w_31.2.2.2.2.2.2.2.2.2.2.2.2.1
        let nw13_24 : Nat → Int32 := w_31.2.2.2.2.2.2.2.2.2.2.2.2.2.1
        let nw14_25 : Nat → Int32 := w_31.2.2.2.2.2.2.2.2.2.2.2.2.2.2.1
        let nw15_26 : Nat → Int32 := w_31.2.2.2.2.2.2.2.2.2.2.2.2.2.2.2.1
        let nw16_27 : Nat → Int32 := w_31.2.2.2.2.2.2.2.2.2.2.2.2.2.2.2.2.1
        let nw17_28 : Nat → Int32 := w_31.2.2.2.2.2.2.2.2.2.2.2.2.2.2.2.2.2
        let w_38 := F_Th_copy o_held o_places c_o_row c_o_parts c_ko0_row c_ko0_parts
        let nw0_32 : Int32 := w_38.1
        let nw1_33 : Int32 := w_38.2.1
        let nw2_34 : Nat → Int32 := w_38.2.2.1
        let nw3_35 : Nat → Int64 := w_38.2.2.2
        let w_49 := F_Ru_copy c_kr0_kinds c_kr0_features c_kr0_compares c_kr0_numbers c_kr0_partners r_lines r_steps r_asksSure c_r_kinds c_r_features c_r_compares c_r_numbers c_r_partners
        let nw0_39 : Int32 := w_49.1
        let nw1_40 : Int32 := w_49.2.1
        let nw2_41 : Int32 := w_49.2.2.1
        let nw3_42 : Nat → Int32 := w_49.2.2.2.1
        let nw4_43 : Nat → Int32 := w_49.2.2.2.2.1
        let nw5_44 : Nat → Int32 := w_49.2.2.2.2.2.1
        let nw6_45 : Nat → Int32 := w_49.2.2.2.2.2.2.1
        let nw7_46 : Nat → Int32 := w_49.2.2.2.2.2.2.2
        let w_53 := F_Da_told
        let nw0_50 : Int32 := w_53
        ((1 : Int32), nw0_50, (1 : Int32), nw0_11, nw1_12, nw2_13, nw3_14, nw4_15, nw5_16, nw6_17, nw7_18, nw8_19, nw9_20, nw10_21, nw11_22, nw12_23, nw13_24, nw14_25, nw15_26, nw16_27, nw17_28, nw0_32, nw1_33, nw2_34, nw3_35, nw0_39, nw1_40, nw2_41, nw3_42, nw4_43, nw5_44, nw6_45, nw7_46, kh1_features, kh1_keys, kh1_lent, kh1_rings, kh1_doors, kh1_turned, kh1_roundMany, c_kh1_featureNames, c_kh1_steps, c_kh1_turnedFeatures, c_kh1_sixteenths, c_kh1_keySteps, c_kh1_on, c_kh1_onMany, c_kh1_wanted, c_kh1_openers, c_kh1_seconds, c_kh1_roundDoors, ko1_held, ko1_places, c_ko1_row, c_ko1_parts, kr1_lines, kr1_steps, kr1_asksSure, c_kr1_kinds, c_kr1_features, c_kr1_compares, c_kr1_numbers, c_kr1_partners, kh2_features, kh2_keys, kh2_lent, kh2_rings, kh2_doors, kh2_turned, kh2_roundMany, c_kh2_featureNames, c_kh2_steps, c_kh2_turnedFeatures, c_kh2_sixteenths, c_kh2_keySteps, c_kh2_on, c_kh2_onMany, c_kh2_wanted, c_kh2_openers, c_kh2_seconds, c_kh2_roundDoors, ko2_held, ko2_places, c_ko2_row, c_ko2_parts, kr2_lines, kr2_steps, kr2_asksSure, c_kr2_kinds, c_kr2_features, c_kr2_compares, c_kr2_numbers, c_kr2_partners)) else
      if x_marks = 1 then (
        let w_75 := F_Ho_copy c_kh1_featureNames c_kh1_steps c_kh1_turnedFeatures c_kh1_sixteenths c_kh1_keySteps c_kh1_on c_kh1_onMany c_kh1_wanted c_kh1_openers c_kh1_seconds c_kh1_roundDoors h_features h_keys h_lent h_rings h_doors h_turned h_roundMany c_h_featureNames c_h_steps c_h_turnedFeatures c_h_sixteenths c_h_keySteps c_h_on c_h_onMany c_h_wanted c_h_openers c_h_seconds c_h_roundDoors
        let nw0_55 : Int32 := w_75.1
        let nw1_56 : Int32 := w_75.2.1
        let nw2_57 : Int32 := w_75.2.2.1
        let nw3_58 : Int32 := w_75.2.2.2.1
        let nw4_59 : Int32 := w_75.2.2.2.2.1
        let nw5_60 : Int32 := w_75.2.2.2.2.2.1
        let nw6_61 : Int32 := w_75.2.2.2.2.2.2.1
        let nw7_62 : Nat → Int64 := w_75.2.2.2.2.2.2.2.1
        let nw8_63 : Nat → Int32 := w_75.2.2.2.2.2.2.2.2.1
        let nw9_64 : Nat → Int32 := w_75.2.2.2.2.2.2.2.2.2.1
        let nw10_65 : Nat → Int32 := w_75.2.2.2.2.2.2.2.2.2.2.1
        let nw11_66 : Nat → Int32 := w_75.2.2.2.2.2.2.2.2.2.2.2.1
        let nw12_67 : Nat → Int32 := w_75.2.2.2.2.2.2.2.2.2.2.2.2.1
        let nw13_68 : Nat → Int32 := w_75.2.2.2.2.2.2.2.2.2.2.2.2.2.1
        let nw14_69 : Nat → Int32 := w_75.2.2.2.2.2.2.2.2.2.2.2.2.2.2.1
        let nw15_70 : Nat → Int32 := w_75.2.2.2.2.2.2.2.2.2.2.2.2.2.2.2.1
        let nw16_71 : Nat → Int32 := w_75.2.2.2.2.2.2.2.2.2.2.2.2.2.2.2.2.1
        let nw17_72 : Nat → Int32 := w_75.2.2.2.2.2.2.2.2.2.2.2.2.2.2.2.2.2
        let w_82 := F_Th_copy o_held o_places c_o_row c_o_parts c_ko1_row c_ko1_parts
        let nw0_76 : Int32 := w_82.1
        let nw1_77 : Int32 := w_82.2.1
        let nw2_78 : Nat → Int32 := w_82.2.2.1
        let nw3_79 : Nat → Int64 := w_82.2.2.2
        let w_93 := F_Ru_copy c_kr1_kinds c_kr1_features c_kr1_compares c_kr1_numbers c_kr1_partners r_lines r_steps r_asksSure c_r_kinds c_r_features c_r_compares c_r_numbers c_r_partners
        let nw0_83 : Int32 := w_93.1
        let nw1_84 : Int32 := w_93.2.1
        let nw2_85 : Int32 := w_93.2.2.1
        let nw3_86 : Nat → Int32 := w_93.2.2.2.1
        let nw4_87 : Nat → Int32 := w_93.2.2.2.2.1
        let nw5_88 : Nat → Int32 := w_93.2.2.2.2.2.1
        let nw6_89 : Nat → Int32 := w_93.2.2.2.2.2.2.1
        let nw7_90 : Nat → Int32 := w_93.2.2.2.2.2.2.2
        let w_97 := F_Da_told
        let nw0_94 : Int32 := w_97
        ((2 : Int32), nw0_94, (2 : Int32), kh0_features, kh0_keys, kh0_lent, kh0_rings, kh0_doors, kh0_turned, kh0_roundMany, c_kh0_featureNames, c_kh0_steps, c_kh0_turnedFeatures, c_kh0_sixteenths, c_kh0_keySteps, c_kh0_on, c_kh0_onMany, c_kh0_wanted, c_kh0_openers, c_kh0_seconds, c_kh0_roundDoors, ko0_held, ko0_places, c_ko0_row, c_ko0_parts, kr0_lines, kr0_steps, kr0_asksSure, c_kr0_kinds, c_kr0_features, c_kr0_compares, c_kr0_numbers, c_kr0_partners, nw0_55, nw1_56, nw2_57, nw3_58, nw4_59, nw5_60, nw6_61, nw7_62, nw8_63, nw9_64, nw10_65, nw11_66, nw12_67, nw13_68, nw14_69, nw15_70, nw16_71, nw17_72, nw0_76, nw1_77, nw2_78, nw3_79, nw0_83, nw1_84, nw2_85, nw3_86, nw4_87, nw5_88, nw6_89, nw7_90, kh2_features, kh2_keys, kh2_lent, kh2_rings, kh2_doors, kh2_turned, kh2_roundMany, c_kh2_featureNames, c_kh2_steps, c_kh2_turnedFeatures, c_kh2_sixteenths, c_kh2_keySteps, c_kh2_on, c_kh2_onMany, c_kh2_wanted, c_kh2_openers, c_kh2_seconds, c_kh2_roundDoors, ko2_held, ko2_places, c_ko2_row, c_ko2_parts, kr2_lines, kr2_steps, kr2_asksSure, c_kr2_kinds, c_kr2_features, c_kr2_compares, c_kr2_numbers, c_kr2_partners)) else
      (
        let w_119 := F_Ho_copy c_kh2_featureNames c_kh2_steps c_kh2_turnedFeatures c_kh2_sixteenths c_kh2_keySteps c_kh2_on c_kh2_onMany c_kh2_wanted c_kh2_openers c_kh2_seconds c_kh2_roundDoors h_features h_keys h_lent h_rings h_doors h_turned h_roundMany c_h_featureNames c_h_steps c_h_turnedFeatures c_h_sixteenths c_h_keySteps c_h_on c_h_onMany c_h_wanted c_h_openers c_h_seconds c_h_roundDoors
        let nw0_99 : Int32 := w_119.1
        let nw1_100 : Int32 := w_119.2.1
        let nw2_101 : Int32 := w_119.2.2.1
        let nw3_102 : Int32 := w_119.2.2.2.1
        let nw4_103 : Int32 := w_119.2.2.2.2.1
        let nw5_104 : Int32 := w_119.2.2.2.2.2.1
        let nw6_105 : Int32 := w_119.2.2.2.2.2.2.1
        let nw7_106 : Nat → Int64 := w_119.2.2.2.2.2.2.2.1
        let nw8_107 : Nat → Int32 := w_119.2.2.2.2.2.2.2.2.1
        let nw9_108 : Nat → Int32 := w_119.2.2.2.2.2.2.2.2.2.1
        let nw10_109 : Nat → Int32 := w_119.2.2.2.2.2.2.2.2.2.2.1
        let nw11_110 : Nat → Int32 := w_119.2.2.2.2.2.2.2.2.2.2.2.1
        let nw12_111 : Nat → Int32 := w_119.2.2.2.2.2.2.2.2.2.2.2.2.1
        let nw13_112 : Nat → Int32 := w_119.2.2.2.2.2.2.2.2.2.2.2.2.2.1
        let nw14_113 : Nat → Int32 := w_119.2.2.2.2.2.2.2.2.2.2.2.2.2.2.1
        let nw15_114 : Nat → Int32 := w_119.2.2.2.2.2.2.2.2.2.2.2.2.2.2.2.1
        let nw16_115 : Nat → Int32 := w_119.2.2.2.2.2.2.2.2.2.2.2.2.2.2.2.2.1
        let nw17_116 : Nat → Int32 := w_119.2.2.2.2.2.2.2.2.2.2.2.2.2.2.2.2.2
        let w_126 := F_Th_copy o_held o_places c_o_row c_o_parts c_ko2_row c_ko2_parts
        let nw0_120 : Int32 := w_126.1
        let nw1_121 : Int32 := w_126.2.1
        let nw2_122 : Nat → Int32 := w_126.2.2.1
        let nw3_123 : Nat → Int64 := w_126.2.2.2
        let w_137 := F_Ru_copy c_kr2_kinds c_kr2_features c_kr2_compares c_kr2_numbers c_kr2_partners r_lines r_steps r_asksSure c_r_kinds c_r_features c_r_compares c_r_numbers c_r_partners
        let nw0_127 : Int32 := w_137.1
        let nw1_128 : Int32 := w_137.2.1
        let nw2_129 : Int32 := w_137.2.2.1
        let nw3_130 : Nat → Int32 := w_137.2.2.2.1
        let nw4_131 : Nat → Int32 := w_137.2.2.2.2.1
        let nw5_132 : Nat → Int32 := w_137.2.2.2.2.2.1
        let nw6_133 : Nat → Int32 := w_137.2.2.2.2.2.2.1
        let nw7_134 : Nat → Int32 := w_137.2.2.2.2.2.2.2
        let w_141 := F_Da_told
        let nw0_138 : Int32 := w_141
        ((3 : Int32), nw0_138, (3 : Int32), kh0_features, kh0_keys, kh0_lent, kh0_rings, kh0_doors, kh0_turned, kh0_roundMany, c_kh0_featureNames, c_kh0_steps, c_kh0_turnedFeatures, c_kh0_sixteenths, c_kh0_keySteps, c_kh0_on, c_kh0_onMany, c_kh0_wanted, c_kh0_openers, c_kh0_seconds, c_kh0_roundDoors, ko0_held, ko0_places, c_ko0_row, c_ko0_parts, kr0_lines, kr0_steps, kr0_asksSure, c_kr0_kinds, c_kr0_features, c_kr0_compares, c_kr0_numbers, c_kr0_partners, kh1_features, kh1_keys, kh1_lent, kh1_rings, kh1_doors, kh1_turned, kh1_roundMany, c_kh1_featureNames, c_kh1_steps, c_kh1_turnedFeatures, c_kh1_sixteenths, c_kh1_keySteps, c_kh1_on, c_kh1_onMany, c_kh1_wanted, c_kh1_openers, c_kh1_seconds, c_kh1_roundDoors, ko1_held, ko1_places, c_ko1_row, c_ko1_parts, kr1_lines, kr1_steps, kr1_asksSure, c_kr1_kinds, c_kr1_features, c_kr1_compares, c_kr1_numbers, c_kr1_partners, nw0_99, nw1_100, nw2_101, nw3_102, nw4_103, nw5_104, nw6_105, nw7_106, nw8_107, nw9_108, nw10_109, nw11_110, nw12_111, nw13_112, nw14_113, nw15_114, nw16_115, nw17_116, nw0_120, nw1_121, nw2_122, nw3_123, nw0_127, nw1_128, nw2_129, nw3_130, nw4_131, nw5_132, nw6_133, nw7_134))) else (
      let w_147 := F_Da_none 7
      let nw0_144 : Int32 := w_147
      ((-1 : Int32), nw0_144, x_marks, kh0_features, kh0_keys, kh0_lent, kh0_rings, kh0_doors, kh0_turned, kh0_roundMany, c_kh0_featureNames, c_kh0_steps, c_kh0_turnedFeatures, c_kh0_sixteenths, c_kh0_keySteps, c_kh0_on, c_kh0_onMany, c_kh0_wanted, c_kh0_openers, c_kh0_seconds, c_kh0_roundDoors, ko0_held, ko0_places, c_ko0_row, c_ko0_parts, kr0_lines, kr0_steps, kr0_asksSure, c_kr0_kinds, c_kr0_features, c_kr0_compares, c_kr0_numbers, c_kr0_partners, kh1_features, kh1_keys, kh1_lent, kh1_rings, kh1_doors, kh1_turned, kh1_roundMany, c_kh1_featureNames, c_kh1_steps, c_kh1_turnedFeatures, c_kh1_sixteenths, c_kh1_keySteps, c_kh1_on, c_kh1_onMany, c_kh1_wanted, c_kh1_openers, c_kh1_seconds, c_kh1_roundDoors, ko1_held, ko1_places, c_ko1_row, c_ko1_parts, kr1_lines, kr1_steps, kr1_asksSure, c_kr1_kinds, c_kr1_features, c_kr1_compares, c_kr1_numbers, c_kr1_partners, kh2_features, kh2_keys, kh2_lent, kh2_rings, kh2_doors, kh2_turned, kh2_roundMany, c_kh2_featureNames, c_kh2_steps, c_kh2_turnedFeatures, c_kh2_sixteenths, c_kh2_keySteps, c_kh2_on, c_kh2_onMany, c_kh2_wanted, c_kh2_openers, c_kh2_seconds, c_kh2_roundDoors, ko2_held, ko2_places, c_ko2_row, c_ko2_parts, kr2_lines, kr2_steps, kr2_asksSure, c_kr2_kinds, c_kr2_features, c_kr2_compares, c_kr2_numbers, c_kr2_partners)))) := rfl
noncomputable def F_X_back (x_marks : Int32) (h_features : Int32) (h_keys : Int32) (h_lent : Int32) (h_rings : Int32) (h_doors : Int32) (h_turned : Int32) (h_roundMany : Int32) (c_h_featureNames : Nat → Int64) (c_h_steps : Nat → Int32) (c_h_turnedFeatures : Nat → Int32) (c_h_sixteenths : Nat → Int32) (c_h_keySteps : Nat → Int32) (c_h_on : Nat → Int32) (c_h_onMany : Nat → Int32) (c_h_wanted : Nat → Int32) (c_h_openers : Nat → Int32) (c_h_seconds : Nat → Int32) (c_h_roundDoors : Nat → Int32) (o_held : Int32) (o_places : Int32) (c_o_row : Nat → Int32) (c_o_parts : Nat → Int64) (r_lines : Int32) (r_steps : Int32) (r_asksSure : Int32) (c_r_kinds : Nat → Int32) (c_r_features : Nat → Int32) (c_r_compares : Nat → Int32) (c_r_numbers : Nat → Int32) (c_r_partners : Nat → Int32) (kh0_features : Int32) (kh0_keys : Int32) (kh0_lent : Int32) (kh0_rings : Int32) (kh0_doors : Int32) (kh0_turned : Int32) (kh0_roundMany : Int32) (c_kh0_featureNames : Nat → Int64) (c_kh0_steps : Nat → Int32) (c_kh0_turnedFeatures : Nat → Int32) (c_kh0_sixteenths : Nat → Int32) (c_kh0_keySteps : Nat → Int32) (c_kh0_on : Nat → Int32) (c_kh0_onMany : Nat → Int32) (c_kh0_wanted : Nat → Int32) (c_kh0_openers : Nat → Int32) (c_kh0_seconds : Nat → Int32) (c_kh0_roundDoors : Nat → Int32) (ko0_held : Int32) (ko0_places : Int32) (c_ko0_row : Nat → Int32) (c_ko0_parts : Nat → Int64) (kr0_lines : Int32) (kr0_steps : Int32) (kr0_asksSure : Int32) (c_kr0_kinds : Nat → Int32) (c_kr0_features : Nat → Int32) (c_kr0_compares : Nat → Int32) (c_kr0_numbers : Nat → Int32) (c_kr0_partners : Nat → Int32) (kh1_features : Int32) (kh1_keys : Int32) (kh1_lent : Int32) (kh1_rings : Int32) (kh1_doors : Int32) (kh1_turned : Int32) (kh1_roundMany : Int32) (c_kh1_featureNames : Nat → Int64) (c_kh1_steps : Nat → Int32) (c_kh1_turnedFeatures : Nat → Int32) (c_kh1_sixteenths : Nat → Int32) (c_kh1_keySteps : Nat → Int32) (c_kh1_on : Nat → Int32) (c_kh1_onMany : Nat → Int32) (c_kh1_wanted : Nat → Int32) (c_kh1_openers : Nat → Int32) (c_kh1_seconds : Nat → Int32) (c_kh1_roundDoors : Nat → Int32) (ko1_held : Int32) (ko1_places : Int32) (c_ko1_row : Nat → Int32) (c_ko1_parts : Nat → Int64) (kr1_lines : Int32) (kr1_steps : Int32) (kr1_asksSure : Int32) (c_kr1_kinds : Nat → Int32) (c_kr1_features : Nat → Int32) (c_kr1_compares : Nat → Int32) (c_kr1_numbers : Nat → Int32) (c_kr1_partners : Nat → Int32) (kh2_features : Int32) (kh2_keys : Int32) (kh2_lent : Int32) (kh2_rings : Int32) (kh2_doors : Int32) (kh2_turned : Int32) (kh2_roundMany : Int32) (c_kh2_featureNames : Nat → Int64) (c_kh2_steps : Nat → Int32) (c_kh2_turnedFeatures : Nat → Int32) (c_kh2_sixteenths : Nat → Int32) (c_kh2_keySteps : Nat → Int32) (c_kh2_on : Nat → Int32) (c_kh2_onMany : Nat → Int32) (c_kh2_wanted : Nat → Int32) (c_kh2_openers : Nat → Int32) (c_kh2_seconds : Nat → Int32) (c_kh2_roundDoors : Nat → Int32) (ko2_held : Int32) (ko2_places : Int32) (c_ko2_row : Nat → Int32) (c_ko2_parts : Nat → Int64) (kr2_lines : Int32) (kr2_steps : Int32) (kr2_asksSure : Int32) (c_kr2_kinds : Nat → Int32) (c_kr2_features : Nat → Int32) (c_kr2_compares : Nat → Int32) (c_kr2_numbers : Nat → Int32) (c_kr2_partners : Nat → Int32) : Int32 × Int32 × Int32 × Int32 × Int32 × Int32 × Int32 × Int32 × Int32 × Int32 × (Nat → Int64) × (Nat → Int32) × (Nat → Int32) × (Nat → Int32) × (Nat → Int32) × (Nat → Int32) × (Nat → Int32) × (Nat → Int32) × (Nat → Int32) × (Nat → Int32) × (Nat → Int32) × Int32 × Int32 × (Nat → Int32) × (Nat → Int64) × Int32 × Int32 × Int32 × (Nat → Int32) × (Nat → Int32) × (Nat → Int32) × (Nat → Int32) × (Nat → Int32) :=
  if x_marks < 1 then (
    let w_6 := F_Da_none 8
    let nw0_3 : Int32 := w_6
    ((-1 : Int32), nw0_3, x_marks, h_features, h_keys, h_lent, h_rings, h_doors, h_turned, h_roundMany, c_h_featureNames, c_h_steps, c_h_turnedFeatures, c_h_sixteenths, c_h_keySteps, c_h_on, c_h_onMany, c_h_wanted, c_h_openers, c_h_seconds, c_h_roundDoors, o_held, o_places, c_o_row, c_o_parts, r_lines, r_steps, r_asksSure, c_r_kinds, c_r_features, c_r_compares, c_r_numbers, c_r_partners)) else (
    if x_marks ≤ 3 then (
      let x_11 : Int32 := (x_marks - 1)
      if x_11 = 0 then (
        let w_32 := F_Ho_copy c_h_featureNames c_h_steps c_h_turnedFeatures c_h_sixteenths c_h_keySteps c_h_on c_h_onMany c_h_wanted c_h_openers c_h_seconds c_h_roundDoors kh0_features kh0_keys kh0_lent kh0_rings kh0_doors kh0_turned kh0_roundMany c_kh0_featureNames c_kh0_steps c_kh0_turnedFeatures c_kh0_sixteenths c_kh0_keySteps c_kh0_on c_kh0_onMany c_kh0_wanted c_kh0_openers c_kh0_seconds c_kh0_roundDoors
        let nw0_12 : Int32 := w_32.1
        let nw1_13 : Int32 := w_32.2.1
        let nw2_14 : Int32 := w_32.2.2.1
        let nw3_15 : Int32 := w_32.2.2.2.1
        let nw4_16 : Int32 := w_32.2.2.2.2.1
        let nw5_17 : Int32 := w_32.2.2.2.2.2.1
        let nw6_18 : Int32 := w_32.2.2.2.2.2.2.1
        let nw7_19 : Nat → Int64 := w_32.2.2.2.2.2.2.2.1
        let nw8_20 : Nat → Int32 := w_32.2.2.2.2.2.2.2.2.1
        let nw9_21 : Nat → Int32 := w_32.2.2.2.2.2.2.2.2.2.1
        let nw10_22 : Nat → Int32 := w_32.2.2.2.2.2.2.2.2.2.2.1
        let nw11_23 : Nat → Int32 := w_32.2.2.2.2.2.2.2.2.2.2.2.1
        let nw12_24 : Nat → Int32 := w_32.2.2.2.2.2.2.2.2.2.2.2.2.1
        let nw13_25 : Nat → Int32 := w_32.2.2.2.2.2.2.2.2.2.2.2.2.2.1
        let nw14_26 : Nat → Int32 := w_32.2.2.2.2.2.2.2.2.2.2.2.2.2.2.1
        let nw15_27 : Nat → Int32 := w_32.2.2.2.2.2.2.2.2.2.2.2.2.2.2.2.1
        let nw16_28 : Nat → Int32 := w_32.2.2.2.2.2.2.2.2.2.2.2.2.2.2.2.2.1
        let nw17_29 : Nat → Int32 := w_32.2.2.2.2.2.2.2.2.2.2.2.2.2.2.2.2.2
        let w_39 := F_Th_copy ko0_held ko0_places c_ko0_row c_ko0_parts c_o_row c_o_parts
        let nw0_33 : Int32 := w_39.1
        let nw1_34 : Int32 := w_39.2.1
        let nw2_35 : Nat → Int32 := w_39.2.2.1
        let nw3_36 : Nat → Int64 := w_39.2.2.2
        let w_50 := F_Ru_copy c_r_kinds c_r_features c_r_compares c_r_numbers c_r_partners kr0_lines kr0_steps kr0_asksSure c_kr0_kinds c_kr0_features c_kr0_compares c_kr0_numbers c_kr0_partners
        let nw0_40 : Int32 := w_50.1
        let nw1_41 : Int32 := w_50.2.1
        let nw2_42 : Int32 := w_50.2.2.1
        let nw3_43 : Nat → Int32 := w_50.2.2.2.1
        let nw4_44 : Nat → Int32 := w_50.2.2.2.2.1
        let nw5_45 : Nat → Int32 := w_50.2.2.2.2.2.1
        let nw6_46 : Nat → Int32 := w_50.2.2.2.2.2.2.1
        let nw7_47 : Nat → Int32 := w_50.2.2.2.2.2.2.2
        let w_54 := F_Da_told
        let nw0_51 : Int32 := w_54
        ((0 : Int32), nw0_51, (0 : Int32), nw0_12, nw1_13, nw2_14, nw3_15, nw4_16, nw5_17, nw6_18, nw7_19, nw8_20, nw9_21, nw10_22, nw11_23, nw12_24, nw13_25, nw14_26, nw15_27, nw16_28, nw17_29, nw0_33, nw1_34, nw2_35, nw3_36, nw0_40, nw1_41, nw2_42, nw3_43, nw4_44, nw5_45, nw6_46, nw7_47)) else
      if x_11 = 1 then (
        let w_76 := F_Ho_copy c_h_featureNames c_h_steps c_h_turnedFeatures c_h_sixteenths c_h_keySteps c_h_on c_h_onMany c_h_wanted c_h_openers c_h_seconds c_h_roundDoors kh1_features kh1_keys kh1_lent kh1_rings kh1_doors kh1_turned kh1_roundMany c_kh1_featureNames c_kh1_steps c_kh1_turnedFeatures c_kh1_sixteenths c_kh1_keySteps c_kh1_on c_kh1_onMany c_kh1_wanted c_kh1_openers c_kh1_seconds c_kh1_roundDoors
        let nw0_56 : Int32 := w_76.1
        let nw1_57 : Int32 := w_76.2.1
        let nw2_58 : Int32 := w_76.2.2.1
        let nw3_59 : Int32 := w_76.2.2.2.1
        let nw4_60 : Int32 := w_76.2.2.2.2.1
        let nw5_61 : Int32 := w_76.2.2.2.2.2.1
        let nw6_62 : Int32 := w_76.2.2.2.2.2.2.1
        let nw7_63 : Nat → Int64 := w_76.2.2.2.2.2.2.2.1
        let nw8_64 : Nat → Int32 := w_76.2.2.2.2.2.2.2.2.1
        let nw9_65 : Nat → Int32 := w_76.2.2.2.2.2.2.2.2.2.1
        let nw10_66 : Nat → Int32 := w_76.2.2.2.2.2.2.2.2.2.2.1
        let nw11_67 : Nat → Int32 := w_76.2.2.2.2.2.2.2.2.2.2.2.1
        let nw12_68 : Nat → Int32 := w_76.2.2.2.2.2.2.2.2.2.2.2.2.1
        let nw13_69 : Nat → Int32 := w_76.2.2.2.2.2.2.2.2.2.2.2.2.2.1
        let nw14_70 : Nat → Int32 := w_76.2.2.2.2.2.2.2.2.2.2.2.2.2.2.1
        let nw15_71 : Nat → Int32 := w_76.2.2.2.2.2.2.2.2.2.2.2.2.2.2.2.1
        let nw16_72 : Nat → Int32 := w_76.2.2.2.2.2.2.2.2.2.2.2.2.2.2.2.2.1
        let nw17_73 : Nat → Int32 := w_76.2.2.2.2.2.2.2.2.2.2.2.2.2.2.2.2.2
        let w_83 := F_Th_copy ko1_held ko1_places c_ko1_row c_ko1_parts c_o_row c_o_parts
        let nw0_77 : Int32 := w_83.1
        let nw1_78 : Int32 := w_83.2.1
        let nw2_79 : Nat → Int32 := w_83.2.2.1
        let nw3_80 : Nat → Int64 := w_83.2.2.2
        let w_94 := F_Ru_copy c_r_kinds c_r_features c_r_compares c_r_numbers c_r_partners kr1_lines kr1_steps kr1_asksSure c_kr1_kinds c_kr1_features c_kr1_compares c_kr1_numbers c_kr1_partners
        let nw0_84 : Int32 := w_94.1
        let nw1_85 : Int32 := w_94.2.1
        let nw2_86 : Int32 := w_94.2.2.1
        let nw3_87 : Nat → Int32 := w_94.2.2.2.1
        let nw4_88 : Nat → Int32 := w_94.2.2.2.2.1
        let nw5_89 : Nat → Int32 := w_94.2.2.2.2.2.1
        let nw6_90 : Nat → Int32 := w_94.2.2.2.2.2.2.1
        let nw7_91 : Nat → Int32 := w_94.2.2.2.2.2.2.2
        let w_98 := F_Da_told
        let nw0_95 : Int32 := w_98
        ((1 : Int32), nw0_95, (1 : Int32), nw0_56, nw1_57, nw2_58, nw3_59, nw4_60, nw5_61, nw6_62, nw7_63, nw8_64, nw9_65, nw10_66, nw11_67, nw12_68, nw13_69, nw14_70, nw15_71, nw16_72, nw17_73, nw0_77, nw1_78, nw2_79, nw3_80, nw0_84, nw1_85, nw2_86, nw3_87, nw4_88, nw5_89, nw6_90, nw7_91)) else
      (
        let w_120 := F_Ho_copy c_h_featureNames c_h_steps c_h_turnedFeatures c_h_sixteenths c_h_keySteps c_h_on c_h_onMany c_h_wanted c_h_openers c_h_seconds c_h_roundDoors kh2_features kh2_keys kh2_lent kh2_rings kh2_doors kh2_turned kh2_roundMany c_kh2_featureNames c_kh2_steps c_kh2_turnedFeatures c_kh2_sixteenths c_kh2_keySteps c_kh2_on c_kh2_onMany c_kh2_wanted c_kh2_openers c_kh2_seconds c_kh2_roundDoors
        let nw0_100 : Int32 := w_120.1
        let nw1_101 : Int32 := w_120.2.1
        let nw2_102 : Int32 := w_120.2.2.1
        let nw3_103 : Int32 := w_120.2.2.2.1
        let nw4_104 : Int32 := w_120.2.2.2.2.1
        let nw5_105 : Int32 := w_120.2.2.2.2.2.1
        let nw6_106 : Int32 := w_120.2.2.2.2.2.2.1
        let nw7_107 : Nat → Int64 := w_120.2.2.2.2.2.2.2.1
        let nw8_108 : Nat → Int32 := w_120.2.2.2.2.2.2.2.2.1
        let nw9_109 : Nat → Int32 := w_120.2.2.2.2.2.2.2.2.2.1
        let nw10_110 : Nat → Int32 := w_120.2.2.2.2.2.2.2.2.2.2.1
        let nw11_111 : Nat → Int32 := w_120.2.2.2.2.2.2.2.2.2.2.2.1
        let nw12_112 : Nat → Int32 := w_120.2.2.2.2.2.2.2.2.2.2.2.2.1
        let nw13_113 : Nat → Int32 := w_120.2.2.2.2.2.2.2.2.2.2.2.2.2.1
        let nw14_114 : Nat → Int32 := w_120.2.2.2.2.2.2.2.2.2.2.2.2.2.2.1
        let nw15_115 : Nat → Int32 := w_120.2.2.2.2.2.2.2.2.2.2.2.2.2.2.2.1
        let nw16_116 : Nat → Int32 := w_120.2.2.2.2.2.2.2.2.2.2.2.2.2.2.2.2.1
        let nw17_117 : Nat → Int32 := w_120.2.2.2.2.2.2.2.2.2.2.2.2.2.2.2.2.2
        let w_127 := F_Th_copy ko2_held ko2_places c_ko2_row c_ko2_parts c_o_row c_o_parts
        let nw0_121 : Int32 := w_127.1
        let nw1_122 : Int32 := w_127.2.1
        let nw2_123 : Nat → Int32 := w_127.2.2.1
        let nw3_124 : Nat → Int64 := w_127.2.2.2
        let w_138 := F_Ru_copy c_r_kinds c_r_features c_r_compares c_r_numbers c_r_partners kr2_lines kr2_steps kr2_asksSure c_kr2_kinds c_kr2_features c_kr2_compares c_kr2_numbers c_kr2_partners
        let nw0_128 : Int32 := w_138.1
        let nw1_129 : Int32 := w_138.2.1
        let nw2_130 : Int32 := w_138.2.2.1
        let nw3_131 : Nat → Int32 := w_138.2.2.2.1
        let nw4_132 : Nat → Int32 := w_138.2.2.2.2.1
        let nw5_133 : Nat → Int32 := w_138.2.2.2.2.2.1
        let nw6_134 : Nat → Int32 := w_138.2.2.2.2.2.2.1
        let nw7_135 : Nat → Int32 := w_138.2.2.2.2.2.2.2
        let w_142 := F_Da_told
        let nw0_139 : Int32 := w_142
        ((2 : Int32), nw0_139, (2 : Int32), nw0_100, nw1_101, nw2_102, nw3_103, nw4_104, nw5_105, nw6_106, nw7_107, nw8_108, nw9_109, nw10_110, nw11_111, nw12_112, nw13_113, nw14_114, nw15_115, nw16_116, nw17_117, nw0_121, nw1_122, nw2_123, nw3_124, nw0_128, nw1_129, nw2_130, nw3_131, nw4_132, nw5_133, nw6_134, nw7_135))) else (
      let w_148 := F_Da_none 8
      let nw0_145 : Int32 := w_148
      ((-1 : Int32), nw0_145, x_marks, h_features, h_keys, h_lent, h_rings, h_doors, h_turned, h_roundMany, c_h_featureNames, c_h_steps, c_h_turnedFeatures, c_h_sixteenths, c_h_keySteps, c_h_on, c_h_onMany, c_h_wanted, c_h_openers, c_h_seconds, c_h_roundDoors, o_held, o_places, c_o_row, c_o_parts, r_lines, r_steps, r_asksSure, c_r_kinds, c_r_features, c_r_compares, c_r_numbers, c_r_partners)))
theorem F_X_back_s (x_marks : Int32) (h_features : Int32) (h_keys : Int32) (h_lent : Int32) (h_rings : Int32) (h_doors : Int32) (h_turned : Int32) (h_roundMany : Int32) (c_h_featureNames : Nat → Int64) (c_h_steps : Nat → Int32) (c_h_turnedFeatures : Nat → Int32) (c_h_sixteenths : Nat → Int32) (c_h_keySteps : Nat → Int32) (c_h_on : Nat → Int32) (c_h_onMany : Nat → Int32) (c_h_wanted : Nat → Int32) (c_h_openers : Nat → Int32) (c_h_seconds : Nat → Int32) (c_h_roundDoors : Nat → Int32) (o_held : Int32) (o_places : Int32) (c_o_row : Nat → Int32) (c_o_parts : Nat → Int64) (r_lines : Int32) (r_steps : Int32) (r_asksSure : Int32) (c_r_kinds : Nat → Int32) (c_r_features : Nat → Int32) (c_r_compares : Nat → Int32) (c_r_numbers : Nat → Int32) (c_r_partners : Nat → Int32) (kh0_features : Int32) (kh0_keys : Int32) (kh0_lent : Int32) (kh0_rings : Int32) (kh0_doors : Int32) (kh0_turned : Int32) (kh0_roundMany : Int32) (c_kh0_featureNames : Nat → Int64) (c_kh0_steps : Nat → Int32) (c_kh0_turnedFeatures : Nat → Int32) (c_kh0_sixteenths : Nat → Int32) (c_kh0_keySteps : Nat → Int32) (c_kh0_on : Nat → Int32) (c_kh0_onMany : Nat → Int32) (c_kh0_wanted : Nat → Int32) (c_kh0_openers : Nat → Int32) (c_kh0_seconds : Nat → Int32) (c_kh0_roundDoors : Nat → Int32) (ko0_held : Int32) (ko0_places : Int32) (c_ko0_row : Nat → Int32) (c_ko0_parts : Nat → Int64) (kr0_lines : Int32) (kr0_steps : Int32) (kr0_asksSure : Int32) (c_kr0_kinds : Nat → Int32) (c_kr0_features : Nat → Int32) (c_kr0_compares : Nat → Int32) (c_kr0_numbers : Nat → Int32) (c_kr0_partners : Nat → Int32) (kh1_features : Int32) (kh1_keys : Int32) (kh1_lent : Int32) (kh1_rings : Int32) (kh1_doors : Int32) (kh1_turned : Int32) (kh1_roundMany : Int32) (c_kh1_featureNames : Nat → Int64) (c_kh1_steps : Nat → Int32) (c_kh1_turnedFeatures : Nat → Int32) (c_kh1_sixteenths : Nat → Int32) (c_kh1_keySteps : Nat → Int32) (c_kh1_on : Nat → Int32) (c_kh1_onMany : Nat → Int32) (c_kh1_wanted : Nat → Int32) (c_kh1_openers : Nat → Int32) (c_kh1_seconds : Nat → Int32) (c_kh1_roundDoors : Nat → Int32) (ko1_held : Int32) (ko1_places : Int32) (c_ko1_row : Nat → Int32) (c_ko1_parts : Nat → Int64) (kr1_lines : Int32) (kr1_steps : Int32) (kr1_asksSure : Int32) (c_kr1_kinds : Nat → Int32) (c_kr1_features : Nat → Int32) (c_kr1_compares : Nat → Int32) (c_kr1_numbers : Nat → Int32) (c_kr1_partners : Nat → Int32) (kh2_features : Int32) (kh2_keys : Int32) (kh2_lent : Int32) (kh2_rings : Int32) (kh2_doors : Int32) (kh2_turned : Int32) (kh2_roundMany : Int32) (c_kh2_featureNames : Nat → Int64) (c_kh2_steps : Nat → Int32) (c_kh2_turnedFeatures : Nat → Int32) (c_kh2_sixteenths : Nat → Int32) (c_kh2_keySteps : Nat → Int32) (c_kh2_on : Nat → Int32) (c_kh2_onMany : Nat → Int32) (c_kh2_wanted : Nat → Int32) (c_kh2_openers : Nat → Int32) (c_kh2_seconds : Nat → Int32) (c_kh2_roundDoors : Nat → Int32) (ko2_held : Int32) (ko2_places : Int32) (c_ko2_row : Nat → Int32) (c_ko2_parts : Nat → Int64) (kr2_lines : Int32) (kr2_steps : Int32) (kr2_asksSure : Int32) (c_kr2_kinds : Nat → Int32) (c_kr2_features : Nat → Int32) (c_kr2_compares : Nat → Int32) (c_kr2_numbers : Nat → Int32) (c_kr2_partners : Nat → Int32) : F_X_back x_marks h_features h_keys h_lent h_rings h_doors h_turned h_roundMany c_h_featureNames c_h_steps c_h_turnedFeatures c_h_sixteenths c_h_keySteps c_h_on c_h_onMany c_h_wanted c_h_openers c_h_seconds c_h_roundDoors o_held o_places c_o_row c_o_parts r_lines r_steps r_asksSure c_r_kinds c_r_features c_r_compares c_r_numbers c_r_partners kh0_features kh0_keys kh0_lent kh0_rings kh0_doors kh0_turned kh0_roundMany c_kh0_featureNames c_kh0_steps c_kh0_turnedFeatures c_kh0_sixteenths c_kh0_keySteps c_kh0_on c_kh0_onMany c_kh0_wanted c_kh0_openers c_kh0_seconds c_kh0_roundDoors ko0_held ko0_places c_ko0_row c_ko0_parts kr0_lines kr0_steps kr0_asksSure c_kr0_kinds c_kr0_features c_kr0_compares c_kr0_numbers c_kr0_partners kh1_features kh1_keys kh1_lent kh1_rings kh1_doors kh1_turned kh1_roundMany c_kh1_featureNames c_kh1_steps c_kh1_turnedFeatures c_kh1_sixteenths c_kh1_keySteps c_kh1_on c_kh1_onMany c_kh1_wanted c_kh1_openers c_kh1_seconds c_kh1_roundDoors ko1_held ko1_places c_ko1_row c_ko1_parts kr1_lines kr1_steps kr1_asksSure c_kr1_kinds c_kr1_features c_kr1_compares c_kr1_numbers c_kr1_partners kh2_features kh2_keys kh2_lent kh2_rings kh2_doors kh2_turned kh2_roundMany c_kh2_featureNames c_kh2_steps c_kh2_turnedFeatures c_kh2_sixteenths c_kh2_keySteps c_kh2_on c_kh2_onMany c_kh2_wanted c_kh2_openers c_kh2_seconds c_kh2_roundDoors ko2_held ko2_places c_ko2_row c_ko2_parts kr2_lines kr2_steps kr2_asksSure c_kr2_kinds c_kr2_features c_kr2_compares c_kr2_numbers c_kr2_partners = (
  if x_marks < 1 then (
    let w_6 := F_Da_none 8
    let nw0_3 : Int32 := w_6
    ((-1 : Int32), nw0_3, x_marks, h_features, h_keys, h_lent, h_rings, h_doors, h_turned, h_roundMany, c_h_featureNames, c_h_steps, c_h_turnedFeatures, c_h_sixteenths, c_h_keySteps, c_h_on, c_h_onMany, c_h_wanted, c_h_openers, c_h_seconds, c_h_roundDoors, o_held, o_places, c_o_row, c_o_parts, r_lines, r_steps, r_asksSure, c_r_kinds, c_r_features, c_r_compares, c_r_numbers, c_r_partners)) else (
    if x_marks ≤ 3 then (
      let x_11 : Int32 := (x_marks - 1)
      if x_11 = 0 then (
        let w_32 := F_Ho_copy c_h_featureNames c_h_steps c_h_turnedFeatures c_h_sixteenths c_h_keySteps c_h_on c_h_onMany c_h_wanted c_h_openers c_h_seconds c_h_roundDoors kh0_features kh0_keys kh0_lent kh0_rings kh0_doors kh0_turned kh0_roundMany c_kh0_featureNames c_kh0_steps c_kh0_turnedFeatures c_kh0_sixteenths c_kh0_keySteps c_kh0_on c_kh0_onMany c_kh0_wanted c_kh0_openers c_kh0_seconds c_kh0_roundDoors
        let nw0_12 : Int32 := w_32.1
        let nw1_13 : Int32 := w_32.2.1
        let nw2_14 : Int32 := w_32.2.2.1
        let nw3_15 : Int32 := w_32.2.2.2.1
        let nw4_16 : Int32 := w_32.2.2.2.2.1
        let nw5_17 : Int32 := w_32.2.2.2.2.2.1
        let nw6_18 : Int32 := w_32.2.2.2.2.2.2.1
        let nw7_19 : Nat → Int64 := w_32.2.2.2.2.2.2.2.1
        let nw8_20 : Nat → Int32 := w_32.2.2.2.2.2.2.2.2.1
        let nw9_21 : Nat → Int32 := w_32.2.2.2.2.2.2.2.2.2.1
        let nw10_22 : Nat → Int32 := w_32.2.2.2.2.2.2.2.2.2.2.1
        let nw11_23 : Nat → Int32 := w_32.2.2.2.2.2.2.2.2.2.2.2.1
        let nw12_24 : Nat → Int32 := w_32.2.2.2.2.2.2.2.2.2.2.2.2.1
        let nw13_25 : Nat → Int32 := w_32.2.2.2.2.2.2.2.2.2.2.2.2.2.1
        let nw14_26 : Nat → Int32 := w_32.2.2.2.2.2.2.2.2.2.2.2.2.2.2.1
        let nw15_27 : Nat → Int32 := w_32.2.2.2.2.2.2.2.2.2.2.2.2.2.2.2.1
        let nw16_28 : Nat → Int32 := w_32.2.2.2.2.2.2.2.2.2.2.2.2.2.2.2.2.1
        let nw17_29 : Nat → Int32 := w_32.2.2.2.2.2.2.2.2.2.2.2.2.2.2.2.2.2
        let w_39 := F_Th_copy ko0_held ko0_places c_ko0_row c_ko0_parts c_o_row c_o_parts
        let nw0_33 : Int32 := w_39.1
        let nw1_34 : Int32 := w_39.2.1
        let nw2_35 : Nat → Int32 := w_39.2.2.1
        let nw3_36 : Nat → Int64 := w_39.2.2.2
        let w_50 := F_Ru_copy c_r_kinds c_r_features c_r_compares c_r_numbers c_r_partners kr0_lines kr0_steps kr0_asksSure c_kr0_kinds c_kr0_features c_kr0_compares c_kr0_numbers c_kr0_partners
        let nw0_40 : Int32 := w_50.1
        let nw1_41 : Int32 := w_50.2.1
        let nw2_42 : Int32 := w_50.2.2.1
        let nw3_43 : Nat → Int32 := w_50.2.2.2.1
        let nw4_44 : Nat → Int32 := w_50.2.2.2.2.1
        let nw5_45 : Nat → Int32 := w_50.2.2.2.2.2.1
        let nw6_46 : Nat → Int32 := w_50.2.2.2.2.2.2.1
        let nw7_47 : Nat → Int32 := w_50.2.2.2.2.2.2.2
        let w_54 := F_Da_told
        let nw0_51 : Int32 := w_54
        ((0 : Int32), nw0_51, (0 : Int32), nw0_12, nw1_13, nw2_14, nw3_15, nw4_16, nw5_17, nw6_18, nw7_19, nw8_20, nw9_21, nw10_22, nw11_23, nw12_24, nw13_25, nw14_26, nw15_27, nw16_28, nw17_29, nw0_33, nw1_34, nw2_35, nw3_36, nw0_40, nw1_41, nw2_42, nw3_43, nw4_44, nw5_45, nw6_46, nw7_47)) else
      if x_11 = 1 then (
        let w_76 := F_Ho_copy c_h_featureNames c_h_steps c_h_turnedFeatures c_h_sixteenths c_h_keySteps c_h_on c_h_onMany c_h_wanted c_h_openers c_h_seconds c_h_roundDoors kh1_features kh1_keys kh1_lent kh1_rings kh1_doors kh1_turned kh1_roundMany c_kh1_featureNames c_kh1_steps c_kh1_turnedFeatures c_kh1_sixteenths c_kh1_keySteps c_kh1_on c_kh1_onMany c_kh1_wanted c_kh1_openers c_kh1_seconds c_kh1_roundDoors
        let nw0_56 : Int32 := w_76.1
        let nw1_57 : Int32 := w_76.2.1
        let nw2_58 : Int32 := w_76.2.2.1
        let nw3_59 : Int32 := w_76.2.2.2.1
        let nw4_60 : Int32 := w_76.2.2.2.2.1
        let nw5_61 : Int32 := w_76.2.2.2.2.2.1
        let nw6_62 : Int32 := w_76.2.2.2.2.2.2.1
        let nw7_63 : Nat → Int64 := w_76.2.2.2.2.2.2.2.1
        let nw8_64 : Nat → Int32 := w_76.2.2.2.2.2.2.2.2.1
        let nw9_65 : Nat → Int32 := w_76.2.2.2.2.2.2.2.2.2.1
        let nw10_66 : Nat → Int32 := w_76.2.2.2.2.2.2.2.2.2.2.1
        let nw11_67 : Nat → Int32 := w_76.2.2.2.2.2.2.2.2.2.2.2.1
        let nw12_68 : Nat → Int32 := w_76.2.2.2.2.2.2.2.2.2.2.2.2.1
        let nw13_69 : Nat → Int32 := w_76.2.2.2.2.2.2.2.2.2.2.2.2.2.1
        let nw14_70 : Nat → Int32 := w_76.2.2.2.2.2.2.2.2.2.2.2.2.2.2.1
        let nw15_71 : Nat → Int32 := w_76.2.2.2.2.2.2.2.2.2.2.2.2.2.2.2.1
        let nw16_72 : Nat → Int32 := w_76.2.2.2.2.2.2.2.2.2.2.2.2.2.2.2.2.1
        let nw17_73 : Nat → Int32 := w_76.2.2.2.2.2.2.2.2.2.2.2.2.2.2.2.2.2
        let w_83 := F_Th_copy ko1_held ko1_places c_ko1_row c_ko1_parts c_o_row c_o_parts
        let nw0_77 : Int32 := w_83.1
        let nw1_78 : Int32 := w_83.2.1
        let nw2_79 : Nat → Int32 := w_83.2.2.1
        let nw3_80 : Nat → Int64 := w_83.2.2.2
        let w_94 := F_Ru_copy c_r_kinds c_r_features c_r_compares c_r_numbers c_r_partners kr1_lines kr1_steps kr1_asksSure c_kr1_kinds c_kr1_features c_kr1_compares c_kr1_numbers c_kr1_partners
        let nw0_84 : Int32 := w_94.1
        let nw1_85 : Int32 := w_94.2.1
        let nw2_86 : Int32 := w_94.2.2.1
        let nw3_87 : Nat → Int32 := w_94.2.2.2.1
        let nw4_88 : Nat → Int32 := w_94.2.2.2.2.1
        let nw5_89 : Nat → Int32 := w_94.2.2.2.2.2.1
        let nw6_90 : Nat → Int32 := w_94.2.2.2.2.2.2.1
        let nw7_91 : Nat → Int32 := w_94.2.2.2.2.2.2.2
        let w_98 := F_Da_told
        let nw0_95 : Int32 := w_98
        ((1 : Int32), nw0_95, (1 : Int32), nw0_56, nw1_57, nw2_58, nw3_59, nw4_60, nw5_61, nw6_62, nw7_63, nw8_64, nw9_65, nw10_66, nw11_67, nw12_68, nw13_69, nw14_70, nw15_71, nw16_72, nw17_73, nw0_77, nw1_78, nw2_79, nw3_80, nw0_84, nw1_85, nw2_86, nw3_87, nw4_88, nw5_89, nw6_90, nw7_91)) else
      (
        let w_120 := F_Ho_copy c_h_featureNames c_h_steps c_h_turnedFeatures c_h_sixteenths c_h_keySteps c_h_on c_h_onMany c_h_wanted c_h_openers c_h_seconds c_h_roundDoors kh2_features kh2_keys kh2_lent kh2_rings kh2_doors kh2_turned kh2_roundMany c_kh2_featureNames c_kh2_steps c_kh2_turnedFeatures c_kh2_sixteenths c_kh2_keySteps c_kh2_on c_kh2_onMany c_kh2_wanted c_kh2_openers c_kh2_seconds c_kh2_roundDoors
        let nw0_100 : Int32 := w_120.1
        let nw1_101 : Int32 := w_120.2.1
        let nw2_102 : Int32 := w_120.2.2.1
        let nw3_103 : Int32 := w_120.2.2.2.1
        let nw4_104 : Int32 := w_120.2.2.2.2.1
        let nw5_105 : Int32 := w_120.2.2.2.2.2.1
        let nw6_106 : Int32 := w_120.2.2.2.2.2.2.1
        let nw7_107 : Nat → Int64 := w_120.2.2.2.2.2.2.2.1
        let nw8_108 : Nat → Int32 := w_120.2.2.2.2.2.2.2.2.1
        let nw9_109 : Nat → Int32 := w_120.2.2.2.2.2.2.2.2.2.1
        let nw10_110 : Nat → Int32 := w_120.2.2.2.2.2.2.2.2.2.2.1
        let nw11_111 : Nat → Int32 := w_120.2.2.2.2.2.2.2.2.2.2.2.1
        let nw12_112 : Nat → Int32 := w_120.2.2.2.2.2.2.2.2.2.2.2.2.1
        let nw13_113 : Nat → Int32 := w_120.2.2.2.2.2.2.2.2.2.2.2.2.2.1
        let nw14_114 : Nat → Int32 := w_120.2.2.2.2.2.2.2.2.2.2.2.2.2.2.1
        let nw15_115 : Nat → Int32 := w_120.2.2.2.2.2.2.2.2.2.2.2.2.2.2.2.1
        let nw16_116 : Nat → Int32 := w_120.2.2.2.2.2.2.2.2.2.2.2.2.2.2.2.2.1
        let nw17_117 : Nat → Int32 := w_120.2.2.2.2.2.2.2.2.2.2.2.2.2.2.2.2.2
        let w_127 := F_Th_copy ko2_held ko2_places c_ko2_row c_ko2_parts c_o_row c_o_parts
        let nw0_121 : Int32 := w_127.1
        let nw1_122 : Int32 := w_127.2.1
        let nw2_123 : Nat → Int32 := w_127.2.2.1
        let nw3_124 : Nat → Int64 := w_127.2.2.2
        let w_138 := F_Ru_copy c_r_kinds c_r_features c_r_compares c_r_numbers c_r_partners kr2_lines kr2_steps kr2_asksSure c_kr2_kinds c_kr2_features c_kr2_compares c_kr2_numbers c_kr2_partners
        let nw0_128 : Int32 := w_138.1
        let nw1_129 : Int32 := w_138.2.1
        let nw2_130 : Int32 := w_138.2.2.1
        let nw3_131 : Nat → Int32 := w_138.2.2.2.1
        let nw4_132 : Nat → Int32 := w_138.2.2.2.2.1
        let nw5_133 : Nat → Int32 := w_138.2.2.2.2.2.1
        let nw6_134 : Nat → Int32 := w_138.2.2.2.2.2.2.1
        let nw7_135 : Nat → Int32 := w_138.2.2.2.2.2.2.2
        let w_142 := F_Da_told
        let nw0_139 : Int32 := w_142
        ((2 : Int32), nw0_139, (2 : Int32), nw0_100, nw1_101, nw2_102, nw3_103, nw4_104, nw5_105, nw6_106, nw7_107, nw8_108, nw9_109, nw10_110, nw11_111, nw12_112, nw13_113, nw14_114, nw15_115, nw16_116, nw17_117, nw0_121, nw1_122, nw2_123, nw3_124, nw0_128, nw1_129, nw2_130, nw3_131, nw4_132, nw5_133, nw6_134, nw7_135))) else (
      let w_148 := F_Da_none 8
      let nw0_145 : Int32 := w_148
      ((-1 : Int32), nw0_145, x_marks, h_features, h_keys, h_lent, h_rings, h_doors, h_turned, h_roundMany, c_h_featureNames, c_h_steps, c_h_turnedFeatures, c_h_sixteenths, c_h_keySteps, c_h_on, c_h_onMany, c_h_wanted, c_h_openers, c_h_seconds, c_h_roundDoors, o_held, o_places, c_o_row, c_o_parts, r_lines, r_steps, r_asksSure, c_r_kinds, c_r_features, c_r_compares, c_r_numbers, c_r_partners)))) := rfl
noncomputable def F_Da_isOrderOf_L12a (T0_many : Int32) (c_R0 : Nat → Int64) : Nat → Int32 → Int32 → Int32 := fun k9 => Nat.rec (motive := fun _ => Int32 → Int32 → Int32) (fun _ _ => default) (fun _ (G_L12a : Int32 → Int32 → Int32) => fun (v_46 : Int32) (v_47 : Int32) =>
    if T0_many ≤ v_47 then (
      (1 : Int32)) else (
      let w_78 := F_Tr_numberAt c_R0 v_47
      let r_76 : Int64 := w_78
      if (lg_cmp r_76 0) < 0 then (
        (0 : Int32)) else (
        if 0 ≤ (lg_cmp r_76 10) then (
          (0 : Int32)) else (
          let x_87 : Int32 := ((r_76).toInt32)
          let x_88 : Int32 := (v_46 >>> (x_87 &&& 31))
          let x_89 : Int32 := (x_88 &&& 1)
          if x_89 = 0 then (
            (0 : Int32)) else (
            let x_92 : Int32 := ((r_76).toInt32)
            let x_93 : Int32 := ((1 : Int32) <<< (x_92 &&& 31))
            let x_94 : Int32 := (v_46 - x_93)
            G_L12a x_94 (v_47 + 1)))))) k9
theorem F_Da_isOrderOf_L12a_s (T0_many : Int32) (c_R0 : Nat → Int64) (n9 : Nat) (v_46 : Int32) (v_47 : Int32) : F_Da_isOrderOf_L12a T0_many c_R0 (n9 + 1) v_46 v_47 = (
    if T0_many ≤ v_47 then (
      (1 : Int32)) else (
      let w_78 := F_Tr_numberAt c_R0 v_47
      let r_76 : Int64 := w_78
      if (lg_cmp r_76 0) < 0 then (
        (0 : Int32)) else (
        if 0 ≤ (lg_cmp r_76 10) then (
          (0 : Int32)) else (
          let x_87 : Int32 := ((r_76).toInt32)
          let x_88 : Int32 := (v_46 >>> (x_87 &&& 31))
          let x_89 : Int32 := (x_88 &&& 1)
          if x_89 = 0 then (
            (0 : Int32)) else (
            let x_92 : Int32 := ((r_76).toInt32)
            let x_93 : Int32 := ((1 : Int32) <<< (x_92 &&& 31))
            let x_94 : Int32 := (v_46 - x_93)
            (F_Da_isOrderOf_L12a T0_many c_R0 n9) x_94 (v_47 + 1)))))) := rfl
noncomputable def F_Da_isOrderOf (h_rings : Int32) (c_h_on : Nat → Int32) (c_h_onMany : Nat → Int32) (T0_many : Int32) (c_R0 : Nat → Int64) (k : Int32) : Int32 :=
  let w_3 := F_H_setOn h_rings c_h_on c_h_onMany k
  let r_1 : Int32 := w_3
  F_Da_isOrderOf_L12a T0_many c_R0 ((2147483647 - (0 : Int32).toInt).toNat + 1) r_1 (0 : Int32)
theorem F_Da_isOrderOf_s (h_rings : Int32) (c_h_on : Nat → Int32) (c_h_onMany : Nat → Int32) (T0_many : Int32) (c_R0 : Nat → Int64) (k : Int32) : F_Da_isOrderOf h_rings c_h_on c_h_onMany T0_many c_R0 k = (
  let w_3 := F_H_setOn h_rings c_h_on c_h_onMany k
  let r_1 : Int32 := w_3
  F_Da_isOrderOf_L12a T0_many c_R0 ((2147483647 - (0 : Int32).toInt).toNat + 1) r_1 (0 : Int32)) := rfl
noncomputable def F_X_lay_L85a (h_rings : Int32) (c_h_onMany : Nat → Int32) (o_held : Int32) (T0_many : Int32) (c_R0 : Nat → Int64) (k1 : Int32) : Nat → Int32 → (Nat → Int32) → (Int32 × (Nat → Int32)) := fun k9 => Nat.rec (motive := fun _ => Int32 → (Nat → Int32) → (Int32 × (Nat → Int32))) (fun _ _ => default) (fun _ (G_L85a : Int32 → (Nat → Int32) → (Int32 × (Nat → Int32))) => fun (v_50 : Int32) (g_51 : Nat → Int32) =>
    if T0_many ≤ v_50 then (
      let w_79 := F_Th_letGoOf o_held k1
      let nw0_76 : Int32 := w_79
      let w_83 := F_Da_done
      let nw0_80 : Int32 := w_83
      ((1 : Int32), g_51)) else (
      let w_88 := F_Tr_numberAt c_R0 v_50
      let r_86 : Int64 := w_88
      let x_89 : Int32 := ((r_86).toInt32)
      let w_93 := F_H_layAt h_rings g_51 c_h_onMany k1 v_50 x_89
      let nw0_90 : Nat → Int32 := w_93
      G_L85a (v_50 + 1) nw0_90)) k9
theorem F_X_lay_L85a_s (h_rings : Int32) (c_h_onMany : Nat → Int32) (o_held : Int32) (T0_many : Int32) (c_R0 : Nat → Int64) (k1 : Int32) (n9 : Nat) (v_50 : Int32) (g_51 : Nat → Int32) : F_X_lay_L85a h_rings c_h_onMany o_held T0_many c_R0 k1 (n9 + 1) v_50 g_51 = (
    if T0_many ≤ v_50 then (
      let w_79 := F_Th_letGoOf o_held k1
      let nw0_76 : Int32 := w_79
      let w_83 := F_Da_done
      let nw0_80 : Int32 := w_83
      ((1 : Int32), g_51)) else (
      let w_88 := F_Tr_numberAt c_R0 v_50
      let r_86 : Int64 := w_88
      let x_89 : Int32 := ((r_86).toInt32)
      let w_93 := F_H_layAt h_rings g_51 c_h_onMany k1 v_50 x_89
      let nw0_90 : Nat → Int32 := w_93
      (F_X_lay_L85a h_rings c_h_onMany o_held T0_many c_R0 k1 n9) (v_50 + 1) nw0_90)) := rfl
noncomputable def F_X_lay_L85b (h_rings : Int32) (c_h_onMany : Nat → Int32) (o_held : Int32) (T1_many : Int32) (c_R1 : Nat → Int64) (k1 : Int32) : Nat → Int32 → (Nat → Int32) → (Int32 × (Nat → Int32)) := fun k9 => Nat.rec (motive := fun _ => Int32 → (Nat → Int32) → (Int32 × (Nat → Int32))) (fun _ _ => default) (fun _ (G_L85b : Int32 → (Nat → Int32) → (Int32 × (Nat → Int32))) => fun (v_162 : Int32) (g_163 : Nat → Int32) =>
    if T1_many ≤ v_162 then (
      let w_191 := F_Th_letGoOf o_held k1
      let nw0_188 : Int32 := w_191
      let w_195 := F_Da_done
      let nw0_192 : Int32 := w_195
      ((1 : Int32), g_163)) else (
      let w_200 := F_Tr_numberAt c_R1 v_162
      let r_198 : Int64 := w_200
      let x_201 : Int32 := ((r_198).toInt32)
      let w_205 := F_H_layAt h_rings g_163 c_h_onMany k1 v_162 x_201
      let nw0_202 : Nat → Int32 := w_205
      G_L85b (v_162 + 1) nw0_202)) k9
theorem F_X_lay_L85b_s (h_rings : Int32) (c_h_onMany : Nat → Int32) (o_held : Int32) (T1_many : Int32) (c_R1 : Nat → Int64) (k1 : Int32) (n9 : Nat) (v_162 : Int32) (g_163 : Nat → Int32) : F_X_lay_L85b h_rings c_h_onMany o_held T1_many c_R1 k1 (n9 + 1) v_162 g_163 = (
    if T1_many ≤ v_162 then (
      let w_191 := F_Th_letGoOf o_held k1
      let nw0_188 : Int32 := w_191
      let w_195 := F_Da_done
      let nw0_192 : Int32 := w_195
      ((1 : Int32), g_163)) else (
      let w_200 := F_Tr_numberAt c_R1 v_162
      let r_198 : Int64 := w_200
      let x_201 : Int32 := ((r_198).toInt32)
      let w_205 := F_H_layAt h_rings g_163 c_h_onMany k1 v_162 x_201
      let nw0_202 : Nat → Int32 := w_205
      (F_X_lay_L85b h_rings c_h_onMany o_held T1_many c_R1 k1 n9) (v_162 + 1) nw0_202)) := rfl
noncomputable def F_X_lay_L85c (h_rings : Int32) (c_h_onMany : Nat → Int32) (o_held : Int32) (T2_many : Int32) (c_R2 : Nat → Int64) (k1 : Int32) : Nat → Int32 → (Nat → Int32) → (Int32 × (Nat → Int32)) := fun k9 => Nat.rec (motive := fun _ => Int32 → (Nat → Int32) → (Int32 × (Nat → Int32))) (fun _ _ => default) (fun _ (G_L85c : Int32 → (Nat → Int32) → (Int32 × (Nat → Int32))) => fun (v_274 : Int32) (g_275 : Nat → Int32) =>
    if T2_many ≤ v_274 then (
      let w_303 := F_Th_letGoOf o_held k1
      let nw0_300 : Int32 := w_303
      let w_307 := F_Da_done
      let nw0_304 : Int32 := w_307
      ((1 : Int32), g_275)) else (
      let w_312 := F_Tr_numberAt c_R2 v_274
      let r_310 : Int64 := w_312
      let x_313 : Int32 := ((r_310).toInt32)
      let w_317 := F_H_layAt h_rings g_275 c_h_onMany k1 v_274 x_313
      let nw0_314 : Nat → Int32 := w_317
      G_L85c (v_274 + 1) nw0_314)) k9
theorem F_X_lay_L85c_s (h_rings : Int32) (c_h_onMany : Nat → Int32) (o_held : Int32) (T2_many : Int32) (c_R2 : Nat → Int64) (k1 : Int32) (n9 : Nat) (v_274 : Int32) (g_275 : Nat → Int32) : F_X_lay_L85c h_rings c_h_onMany o_held T2_many c_R2 k1 (n9 + 1) v_274 g_275 = (
    if T2_many ≤ v_274 then (
      let w_303 := F_Th_letGoOf o_held k1
      let nw0_300 : Int32 := w_303
      let w_307 := F_Da_done
      let nw0_304 : Int32 := w_307
      ((1 : Int32), g_275)) else (
      let w_312 := F_Tr_numberAt c_R2 v_274
      let r_310 : Int64 := w_312
      let x_313 : Int32 := ((r_310).toInt32)
      let w_317 := F_H_layAt h_rings g_275 c_h_onMany k1 v_274 x_313
      let nw0_314 : Nat → Int32 := w_317
      (F_X_lay_L85c h_rings c_h_onMany o_held T2_many c_R2 k1 n9) (v_274 + 1) nw0_314)) := rfl
noncomputable def F_X_lay_L85d (h_rings : Int32) (c_h_onMany : Nat → Int32) (o_held : Int32) (T3_many : Int32) (c_R3 : Nat → Int64) (k1 : Int32) : Nat → Int32 → (Nat → Int32) → (Int32 × (Nat → Int32)) := fun k9 => Nat.rec (motive := fun _ => Int32 → (Nat → Int32) → (Int32 × (Nat → Int32))) (fun _ _ => default) (fun _ (G_L85d : Int32 → (Nat → Int32) → (Int32 × (Nat → Int32))) => fun (v_386 : Int32) (g_387 : Nat → Int32) =>
    if T3_many ≤ v_386 then (
      let w_415 := F_Th_letGoOf o_held k1
      let nw0_412 : Int32 := w_415
      let w_419 := F_Da_done
      let nw0_416 : Int32 := w_419
      ((1 : Int32), g_387)) else (
      let w_424 := F_Tr_numberAt c_R3 v_386
      let r_422 : Int64 := w_424
      let x_425 : Int32 := ((r_422).toInt32)
      let w_429 := F_H_layAt h_rings g_387 c_h_onMany k1 v_386 x_425
      let nw0_426 : Nat → Int32 := w_429
      G_L85d (v_386 + 1) nw0_426)) k9
theorem F_X_lay_L85d_s (h_rings : Int32) (c_h_onMany : Nat → Int32) (o_held : Int32) (T3_many : Int32) (c_R3 : Nat → Int64) (k1 : Int32) (n9 : Nat) (v_386 : Int32) (g_387 : Nat → Int32) : F_X_lay_L85d h_rings c_h_onMany o_held T3_many c_R3 k1 (n9 + 1) v_386 g_387 = (
    if T3_many ≤ v_386 then (
      let w_415 := F_Th_letGoOf o_held k1
      let nw0_412 : Int32 := w_415
      let w_419 := F_Da_done
      let nw0_416 : Int32 := w_419
      ((1 : Int32), g_387)) else (
      let w_424 := F_Tr_numberAt c_R3 v_386
      let r_422 : Int64 := w_424
      let x_425 : Int32 := ((r_422).toInt32)
      let w_429 := F_H_layAt h_rings g_387 c_h_onMany k1 v_386 x_425
      let nw0_426 : Nat → Int32 := w_429
      (F_X_lay_L85d h_rings c_h_onMany o_held T3_many c_R3 k1 n9) (v_386 + 1) nw0_426)) := rfl
noncomputable def F_X_lay (h_rings : Int32) (c_h_on : Nat → Int32) (c_h_onMany : Nat → Int32) (o_held : Int32) (T0_many : Int32) (c_R0 : Nat → Int64) (T1_many : Int32) (c_R1 : Nat → Int64) (T2_many : Int32) (c_R2 : Nat → Int64) (T3_many : Int32) (c_R3 : Nat → Int64) (k1 : Int32) (k2 : Int32) : Int32 × (Nat → Int32) :=
  if (k2.toInt < 0 ∨ 4 ≤ k2.toInt) then (
    let w_6 := F_Da_refused 1
    let nw0_3 : Int32 := w_6
    ((0 : Int32), c_h_on)) else
  if k2.toInt = 0 then (
    let w_10 := F_H_hasRing h_rings k1
    let r_8 : Int32 := w_10
    if r_8 = 0 then (
      let w_118 := F_Da_refused 2
      let nw0_115 : Int32 := w_118
      ((0 : Int32), c_h_on)) else (
      let w_15 := F_Tr_isMissing T0_many
      let r_13 : Int32 := w_15
      if r_13 = 0 then (
        let w_20 := F_H_manyOn h_rings c_h_onMany k1
        let r_18 : Int32 := w_20
        if r_18 ≤ T0_many then (
          let w_25 := F_Da_isOrderOf h_rings c_h_on c_h_onMany T0_many c_R0 k1
          let r_23 : Int32 := w_25
          if r_23 = 0 then (
            let w_100 := F_Da_refused 5
            let nw0_97 : Int32 := w_100
            ((0 : Int32), c_h_on)) else (
            F_X_lay_L85a h_rings c_h_onMany o_held T0_many c_R0 k1 ((2147483647 - (0 : Int32).toInt).toNat + 1) (0 : Int32) c_h_on)) else (
          let w_106 := F_Da_refused 4
          let nw0_103 : Int32 := w_106
          ((0 : Int32), c_h_on))) else (
        let w_112 := F_Da_refused 3
        let nw0_109 : Int32 := w_112
        ((0 : Int32), c_h_on)))) else
  if k2.toInt = 1 then (
    let w_122 := F_H_hasRing h_rings k1
    let r_120 : Int32 := w_122
    if r_120 = 0 then (
      let w_230 := F_Da_refused 2
      let nw0_227 : Int32 := w_230
      ((0 : Int32), c_h_on)) else (
      let w_127 := F_Tr_isMissing T1_many
      let r_125 : Int32 := w_127
      if r_125 = 0 then (
        let w_132 := F_H_manyOn h_rings c_h_onMany k1
        let r_130 : Int32 := w_132
        if r_130 ≤ T1_many then (
          let w_137 := F_Da_isOrderOf h_rings c_h_on c_h_onMany T1_many c_R1 k1
          let r_135 : Int32 := w_137
          if r_135 = 0 then (
            let w_212 := F_Da_refused 5
            let nw0_209 : Int32 := w_212
            ((0 : Int32), c_h_on)) else (
            F_X_lay_L85b h_rings c_h_onMany o_held T1_many c_R1 k1 ((2147483647 - (0 : Int32).toInt).toNat + 1) (0 : Int32) c_h_on)) else (
          let w_218 := F_Da_refused 4
          let nw0_215 : Int32 := w_218
          ((0 : Int32), c_h_on))) else (
        let w_224 := F_Da_refused 3
        let nw0_221 : Int32 := w_224
        ((0 : Int32), c_h_on)))) else
  if k2.toInt = 2 then (
    let w_234 := F_H_hasRing h_rings k1
    let r_232 : Int32 := w_234
    if r_232 = 0 then (
      let w_342 := F_Da_refused 2
      let nw0_339 : Int32 := w_342
      ((0 : Int32), c_h_on)) else (
      let w_239 := F_Tr_isMissing T2_many
      let r_237 : Int32 := w_239
      if r_237 = 0 then (
        let w_244 := F_H_manyOn h_rings c_h_onMany k1
        let r_242 : Int32 := w_244
        if r_242 ≤ T2_many then (
          let w_249 := F_Da_isOrderOf h_rings c_h_on c_h_onMany T2_many c_R2 k1
          let r_247 : Int32 := w_249
          if r_247 = 0 then (
            let w_324 := F_Da_refused 5
            let nw0_321 : Int32 := w_324
            ((0 : Int32), c_h_on)) else (
            F_X_lay_L85c h_rings c_h_onMany o_held T2_many c_R2 k1 ((2147483647 - (0 : Int32).toInt).toNat + 1) (0 : Int32) c_h_on)) else (
          let w_330 := F_Da_refused 4
          let nw0_327 : Int32 := w_330
          ((0 : Int32), c_h_on))) else (
        let w_336 := F_Da_refused 3
        let nw0_333 : Int32 := w_336
        ((0 : Int32), c_h_on)))) else
  (
    let w_346 := F_H_hasRing h_rings k1
    let r_344 : Int32 := w_346
    if r_344 = 0 then (
      let w_454 := F_Da_refused 2
      let nw0_451 : Int32 := w_454
      ((0 : Int32), c_h_on)) else (
      let w_351 := F_Tr_isMissing T3_many
      let r_349 : Int32 := w_351
      if r_349 = 0 then (
        let w_356 := F_H_manyOn h_rings c_h_onMany k1
        let r_354 : Int32 := w_356
        if r_354 ≤ T3_many then (
          let w_361 := F_Da_isOrderOf h_rings c_h_on c_h_onMany T3_many c_R3 k1
          let r_359 : Int32 := w_361
          if r_359 = 0 then (
            let w_436 := F_Da_refused 5
            let nw0_433 : Int32 := w_436
            ((0 : Int32), c_h_on)) else (
            F_X_lay_L85d h_rings c_h_onMany o_held T3_many c_R3 k1 ((2147483647 - (0 : Int32).toInt).toNat + 1) (0 : Int32) c_h_on)) else (
          let w_442 := F_Da_refused 4
          let nw0_439 : Int32 := w_442
          ((0 : Int32), c_h_on))) else (
        let w_448 := F_Da_refused 3
        let nw0_445 : Int32 := w_448
        ((0 : Int32), c_h_on))))
theorem F_X_lay_s (h_rings : Int32) (c_h_on : Nat → Int32) (c_h_onMany : Nat → Int32) (o_held : Int32) (T0_many : Int32) (c_R0 : Nat → Int64) (T1_many : Int32) (c_R1 : Nat → Int64) (T2_many : Int32) (c_R2 : Nat → Int64) (T3_many : Int32) (c_R3 : Nat → Int64) (k1 : Int32) (k2 : Int32) : F_X_lay h_rings c_h_on c_h_onMany o_held T0_many c_R0 T1_many c_R1 T2_many c_R2 T3_many c_R3 k1 k2 = (
  if (k2.toInt < 0 ∨ 4 ≤ k2.toInt) then (
    let w_6 := F_Da_refused 1
    let nw0_3 : Int32 := w_6
    ((0 : Int32), c_h_on)) else
  if k2.toInt = 0 then (
    let w_10 := F_H_hasRing h_rings k1
    let r_8 : Int32 := w_10
    if r_8 = 0 then (
      let w_118 := F_Da_refused 2
      let nw0_115 : Int32 := w_118
      ((0 : Int32), c_h_on)) else (
      let w_15 := F_Tr_isMissing T0_many
      let r_13 : Int32 := w_15
      if r_13 = 0 then (
        let w_20 := F_H_manyOn h_rings c_h_onMany k1
        let r_18 : Int32 := w_20
        if r_18 ≤ T0_many then (
          let w_25 := F_Da_isOrderOf h_rings c_h_on c_h_onMany T0_many c_R0 k1
          let r_23 : Int32 := w_25
          if r_23 = 0 then (
            let w_100 := F_Da_refused 5
            let nw0_97 : Int32 := w_100
            ((0 : Int32), c_h_on)) else (
            F_X_lay_L85a h_rings c_h_onMany o_held T0_many c_R0 k1 ((2147483647 - (0 : Int32).toInt).toNat + 1) (0 : Int32) c_h_on)) else (
          let w_106 := F_Da_refused 4
          let nw0_103 : Int32 := w_106
          ((0 : Int32), c_h_on))) else (
        let w_112 := F_Da_refused 3
        let nw0_109 : Int32 := w_112
        ((0 : Int32), c_h_on)))) else
  if k2.toInt = 1 then (
    let w_122 := F_H_hasRing h_rings k1
    let r_120 : Int32 := w_122
    if r_120 = 0 then (
      let w_230 := F_Da_refused 2
      let nw0_227 : Int32 := w_230
      ((0 : Int32), c_h_on)) else (
      let w_127 := F_Tr_isMissing T1_many
      let r_125 : Int32 := w_127
      if r_125 = 0 then (
        let w_132 := F_H_manyOn h_rings c_h_onMany k1
        let r_130 : Int32 := w_132
        if r_130 ≤ T1_many then (
          let w_137 := F_Da_isOrderOf h_rings c_h_on c_h_onMany T1_many c_R1 k1
          let r_135 : Int32 := w_137
          if r_135 = 0 then (
            let w_212 := F_Da_refused 5
            let nw0_209 : Int32 := w_212
            ((0 : Int32), c_h_on)) else (
            F_X_lay_L85b h_rings c_h_onMany o_held T1_many c_R1 k1 ((2147483647 - (0 : Int32).toInt).toNat + 1) (0 : Int32) c_h_on)) else (
          let w_218 := F_Da_refused 4
          let nw0_215 : Int32 := w_218
          ((0 : Int32), c_h_on))) else (
        let w_224 := F_Da_refused 3
        let nw0_221 : Int32 := w_224
        ((0 : Int32), c_h_on)))) else
  if k2.toInt = 2 then (
    let w_234 := F_H_hasRing h_rings k1
    let r_232 : Int32 := w_234
    if r_232 = 0 then (
      let w_342 := F_Da_refused 2
      let nw0_339 : Int32 := w_342
      ((0 : Int32), c_h_on)) else (
      let w_239 := F_Tr_isMissing T2_many
      let r_237 : Int32 := w_239
      if r_237 = 0 then (
        let w_244 := F_H_manyOn h_rings c_h_onMany k1
        let r_242 : Int32 := w_244
        if r_242 ≤ T2_many then (
          let w_249 := F_Da_isOrderOf h_rings c_h_on c_h_onMany T2_many c_R2 k1
          let r_247 : Int32 := w_249
          if r_247 = 0 then (
            let w_324 := F_Da_refused 5
            let nw0_321 : Int32 := w_324
            ((0 : Int32), c_h_on)) else (
            F_X_lay_L85c h_rings c_h_onMany o_held T2_many c_R2 k1 ((2147483647 - (0 : Int32).toInt).toNat + 1) (0 : Int32) c_h_on)) else (
          let w_330 := F_Da_refused 4
          let nw0_327 : Int32 := w_330
          ((0 : Int32), c_h_on))) else (
        let w_336 := F_Da_refused 3
        let nw0_333 : Int32 := w_336
        ((0 : Int32), c_h_on)))) else
  (
    let w_346 := F_H_hasRing h_rings k1
    let r_344 : Int32 := w_346
    if r_344 = 0 then (
      let w_454 := F_Da_refused 2
      let nw0_451 : Int32 := w_454
      ((0 : Int32), c_h_on)) else (
      let w_351 := F_Tr_isMissing T3_many
      let r_349 : Int32 := w_351
      if r_349 = 0 then (
        let w_356 := F_H_manyOn h_rings c_h_onMany k1
        let r_354 : Int32 := w_356
        if r_354 ≤ T3_many then (
          let w_361 := F_Da_isOrderOf h_rings c_h_on c_h_onMany T3_many c_R3 k1
          let r_359 : Int32 := w_361
          if r_359 = 0 then (
            let w_436 := F_Da_refused 5
            let nw0_433 : Int32 := w_436
            ((0 : Int32), c_h_on)) else (
            F_X_lay_L85d h_rings c_h_onMany o_held T3_many c_R3 k1 ((2147483647 - (0 : Int32).toInt).toNat + 1) (0 : Int32) c_h_on)) else (
          let w_442 := F_Da_refused 4
          let nw0_439 : Int32 := w_442
          ((0 : Int32), c_h_on))) else (
        let w_448 := F_Da_refused 3
        let nw0_445 : Int32 := w_448
        ((0 : Int32), c_h_on))))) := rfl
noncomputable def F_X_house (h_features : Int32) (h_keys : Int32) (h_lent : Int32) (h_rings : Int32) (h_doors : Int32) (h_turned : Int32) (h_roundMany : Int32) (c_h_featureNames : Nat → Int64) (c_h_steps : Nat → Int32) (c_h_turnedFeatures : Nat → Int32) (c_h_sixteenths : Nat → Int32) (c_h_keySteps : Nat → Int32) (c_h_on : Nat → Int32) (c_h_onMany : Nat → Int32) (c_h_wanted : Nat → Int32) (c_h_openers : Nat → Int32) (c_h_seconds : Nat → Int32) (c_h_roundDoors : Nat → Int32) (o_held : Int32) (t_fed : Int32) (t_length : Int32) (t_kind : Int32) (t_start : Int32) (t_end : Int32) (t_number : Int32) (t_sign : Int32) (t_letters : Int64) (t_fault : Int32) (t_faultPlace : Int32) (c_tape : Nat → Int32) (hr_keysOnRings : Int32) (hr_feelsTold : Int32) (hr_secondsTold : Int32) (hr_turnedTold : Int32) (c_n_f : Nat → Int64) (c_n_k : Nat → Int64) (c_n_r : Nat → Int64) (c_n_d : Nat → Int64) (hf_features : Int32) (hf_keys : Int32) (hf_lent : Int32) (hf_rings : Int32) (hf_doors : Int32) (hf_turned : Int32) (hf_roundMany : Int32) (c_hf_featureNames : Nat → Int64) (c_hf_steps : Nat → Int32) (c_hf_turnedFeatures : Nat → Int32) (c_hf_sixteenths : Nat → Int32) (c_hf_keySteps : Nat → Int32) (c_hf_on : Nat → Int32) (c_hf_onMany : Nat → Int32) (c_hf_wanted : Nat → Int32) (c_hf_openers : Nat → Int32) (c_hf_seconds : Nat → Int32) (c_hf_roundDoors : Nat → Int32) (k1 : Int32) : Int32 × Int32 × Int32 × Int32 × Int32 × Int32 × Int32 × Int32 × Int32 × (Nat → Int64) × (Nat → Int32) × (Nat → Int32) × (Nat → Int32) × (Nat → Int32) × (Nat → Int32) × (Nat → Int32) × (Nat → Int32) × (Nat → Int32) × (Nat → Int32) × (Nat → Int32) × Int32 × Int32 × Int32 × Int32 × Int32 × Int32 × Int32 × Int32 × Int64 × Int32 × Int32 × Int32 × Int32 × Int32 × Int32 × (Nat → Int64) × (Nat → Int64) × (Nat → Int64) × (Nat → Int64) × Int32 × Int32 × Int32 × Int32 × Int32 × Int32 × Int32 × (Nat → Int64) × (Nat → Int32) × (Nat → Int32) × (Nat → Int32) × (Nat → Int32) × (Nat → Int32) × (Nat → Int32) × (Nat → Int32) × (Nat → Int32) × (Nat → Int32) × (Nat → Int32) :=
  if k1 < 0 then (
    let w_6 := F_Da_none 5
    let nw0_3 : Int32 := w_6
    ((-1 : Int32), nw0_3, h_features, h_keys, h_lent, h_rings, h_doors, h_turned, h_roundMany, c_h_featureNames, c_h_steps, c_h_turnedFeatures, c_h_sixteenths, c_h_keySteps, c_h_on, c_h_onMany, c_h_wanted, c_h_openers, c_h_seconds, c_h_roundDoors, o_held, t_fed, t_length, t_kind, t_start, t_end, t_number, t_sign, t_letters, t_fault, t_faultPlace, hr_keysOnRings, hr_feelsTold, hr_secondsTold, hr_turnedTold, c_n_f, c_n_k, c_n_r, c_n_d, hf_features, hf_keys, hf_lent, hf_rings, hf_doors, hf_turned, hf_roundMany, c_hf_featureNames, c_hf_steps, c_hf_turnedFeatures, c_hf_sixteenths, c_hf_keySteps, c_hf_on, c_hf_onMany, c_hf_wanted, c_hf_openers, c_hf_seconds, c_hf_roundDoors)) else (
    if k1 ≤ t_fed then (
      let w_23 := F_Te_begin t_number t_sign t_letters c_tape k1
      let nw0_11 : Int32 := w_23.1
      let nw1_12 : Int32 := w_23.2.1
      let nw2_13 : Int32 := w_23.2.2.1
      let nw3_14 : Int32 := w_23.2.2.2.1
      let nw4_15 : Int32 := w_23.2.2.2.2.1
      let nw5_16 : Int32 := w_23.2.2.2.2.2.1
      let nw6_17 : Int32 := w_23.2.2.2.2.2.2.1
      let nw7_18 : Int64 := w_23.2.2.2.2.2.2.2.1
      let nw8_19 : Int32 := w_23.2.2.2.2.2.2.2.2.1
      let nw9_20 : Int32 := w_23.2.2.2.2.2.2.2.2.2
      let w_60 := F_Ho_readAll nw1_12 nw2_13 nw3_14 nw4_15 nw5_16 nw6_17 nw7_18 nw8_19 nw9_20 c_tape c_n_f c_n_k c_n_r c_n_d c_hf_featureNames c_hf_steps c_hf_turnedFeatures c_hf_sixteenths c_hf_keySteps c_hf_on c_hf_onMany c_hf_wanted c_hf_openers c_hf_seconds c_hf_roundDoors
      let r_58 : Int32 := w_60.1
      let nw0_24 : Int32 := w_60.2.1
      let nw1_25 : Int32 := w_60.2.2.1
      let nw2_26 : Int32 := w_60.2.2.2.1
      let nw3_27 : Int32 := w_60.2.2.2.2.1
      let nw4_28 : Int32 := w_60.2.2.2.2.2.1
      let nw5_29 : Int32 := w_60.2.2.2.2.2.2.1
      let nw6_30 : Int32 := w_60.2.2.2.2.2.2.2.1
      let nw7_31 : Int32 := w_60.2.2.2.2.2.2.2.2.1
      let nw8_32 : Int32 := w_60.2.2.2.2.2.2.2.2.2.1
      let nw9_33 : Int64 := w_60.2.2.2.2.2.2.2.2.2.2.1
      let nw10_34 : Int32 := w_60.2.2.2.2.2.2.2.2.2.2.2.1
      let nw11_35 : Int32 := w_60.2.2.2.2.2.2.2.2.2.2.2.2.1
      let nw12_36 : Nat → Int64 := w_60.2.2.2.2.2.2.2.2.2.2.2.2.2.1
      let nw13_37 : Nat → Int64 := w_60.2.2.2.2.2.2.2.2.2.2.2.2.2.2.1
      let nw14_38 : Nat → Int64 := w_60.2.2.2.2.2.2.2.2.2.2.2.2.2.2.2.1
      let nw15_39 : Nat → Int64 := w_60.2.2.2.2.2.2.2.2.2.2.2.2.2.2.2.2.1
      let nw16_40 : Int32 := w_60.2.2.2.2.2.2.2.2.2.2.2.2.2.2.2.2.2.1
      let nw17_41 : Int32 := w_60.2.2.2.2.2.2.2.2.2.2.2.2.2.2.2.2.2.2.1
      let nw18_42 : Int32 := w_60.2.2.2.2.2.2.2.2.2.2.2.2.2.2.2.2.2.2.2.1
      let nw19_43 : Int32 := w_60.2.2.2.2.2.2.2.2.2.2.2.2.2.2.2.2.2.2.2.2.1
      let nw20_44 : Int32 := w_60.2.2.2.2.2.2.2.2.2.2.2.2.2.2.2.2.2.2.2.2.2.1
      let nw21_45 : Int32 := w_60.2.2.2.2.2.2.2.2.2.2.2.2.2.2.2.2.2.2.2.2.2.2.1
      let nw22_46 : Int32 := w_60.2.2.2.2.2.2.2.2.2.2.2.2.2.2.2.2.2.2.2.2.2.2.2.1
      let nw23_47 : Nat → Int64 := w_60.2.2.2.2.2.2.2.2.2.2.2.2.2.2.2.2.2.2.2.2.2.2.2.2.1
      let nw24_48 : Nat → Int32 := w_60.2.2.2.2.2.2.2.2.2.2.2.2.2.2.2.2.2.2.2.2.2.2.2.2.2.1
      let nw25_49 : Nat → Int32 := w_60.2.2.2.2.2.2.2.2.2.2.2.2.2.2.2.2.2.2.2.2.2.2.2.2.2.2.1
      let nw26_50 : Nat → Int32 := w_60.2.2.2.2.2.2.2.2.2.2.2.2.2.2.2.2.2.2.2.2.2.2.2.2.2.2.2.1
      let nw27_51 : Nat → Int32 := w_60.2.2.2.2.2.2.2.2.2.2.2.2.2.2.2.2.2.2.2.2.2.2.2.2.2.2.2.2.1
      let nw28_52 : Nat → Int32 := w_60.2.2.2.2.2.2.2.2.2.2.2.2.2.2.2.2.2.2.2.2.2.2.2.2.2.2.2.2.2.1
      let nw29_53 : Nat → Int32 := w_60.2.2.2.2.2.2.2.2.2.2.2.2.2.2.2.2.2.2.2.2.2.2.2.2.2.2.2.2.2.2.1
      let nw30_54 : Nat → Int32 := w_60.2.2.2.2.2.2.2.2.2.2.2.2.2.2.2.2.2.2.2.2.2.2.2.2.2.2.2.2.2.2.2.1
      let nw31_55 : Nat → Int32 := w_60.2.2.2.2.2.2.2.2.2.2.2.2.2.2.2.2.2.2.2.2.2.2.2.2.2.2.2.2.2.2.2.2.1
      let nw32_56 : Nat → Int32 := w_60.2.2.2.2.2.2.2.2.2.2.2.2.2.2.2.2.2.2.2.2.2.2.2.2.2.2.2.2.2.2.2.2.2.1
      let nw33_57 : Nat → Int32 := w_60.2.2.2.2.2.2.2.2.2.2.2.2.2.2.2.2.2.2.2.2.2.2.2.2.2.2.2.2.2.2.2.2.2.2
      if r_58 = 0 then (
        let w_97 := F_Da_none 10
        let nw0_94 : Int32 := w_97
        ((-1 : Int32), nw0_94, h_features, h_keys, h_lent, h_rings, h_doors, h_turned, h_roundMany, c_h_featureNames, c_h_steps, c_h_turnedFeatures, c_h_sixteenths, c_h_keySteps, c_h_on, c_h_onMany, c_h_wanted, c_h_openers, c_h_seconds, c_h_roundDoors, o_held, nw0_11, nw1_12, nw4_28, nw5_29, nw6_30, nw7_31, nw8_32, nw9_33, nw10_34, nw11_35, nw0_24, nw1_25, nw2_26, nw3_27, nw12_36, nw13_37, nw14_38, nw15_39, nw16_40, nw17_41, nw18_42, nw19_43, nw20_44, nw21_45, nw22_46, nw23_47, nw24_48, nw25_49, nw26_50, nw27_51, nw28_52, nw29_53, nw30_54, nw31_55, nw32_56, nw33_57)) else (
        let w_83 := F_Ho_copy c_h_featureNames c_h_steps c_h_turnedFeatures c_h_sixteenths c_h_keySteps c_h_on c_h_onMany c_h_wanted c_h_openers c_h_seconds c_h_roundDoors nw16_40 nw17_41 nw18_42 nw19_43 nw20_44 nw21_45 nw22_46 nw23_47 nw24_48 nw25_49 nw26_50 nw27_51 nw28_52 nw29_53 nw30_54 nw31_55 nw32_56 nw33_57
        let nw0_63 : Int32 := w_83.1
        let nw1_64 : Int32 := w_83.2.1
        let nw2_65 : Int32 := w_83.2.2.1
        let nw3_66 : Int32 := w_83.2.2.2.1
        let nw4_67 : Int32 := w_83.2.2.2.2.1
        let nw5_68 : Int32 := w_83.2.2.2.2.2.1
        let nw6_69 : Int32 := w_83.2.2.2.2.2.2.1
        let nw7_70 : Nat → Int64 := w_83.2.2.2.2.2.2.2.1
        let nw8_71 : Nat → Int32 := w_83.2.2.2.2.2.2.2.2.1
        let nw9_72 : Nat → Int32 := w_83.2.2.2.2.2.2.2.2.2.1
        let nw10_73 : Nat → Int32 := w_83.2.2.2.2.2.2.2.2.2.2.1
        let nw11_74 : Nat → Int32 := w_83.2.2.2.2.2.2.2.2.2.2.2.1
        let nw12_75 : Nat → Int32 := w_83.2.2.2.2.2.2.2.2.2.2.2.2.1
        let nw13_76 : Nat → Int32 := w_83.2.2.2.2.2.2.2.2.2.2.2.2.2.1
        let nw14_77 : Nat → Int32 := w_83.2.2.2.2.2.2.2.2.2.2.2.2.2.2.1
        let nw15_78 : Nat → Int32 := w_83.2.2.2.2.2.2.2.2.2.2.2.2.2.2.2.1
        let nw16_79 : Nat → Int32 := w_83.2.2.2.2.2.2.2.2.2.2.2.2.2.2.2.2.1
        let nw17_80 : Nat → Int32 := w_83.2.2.2.2.2.2.2.2.2.2.2.2.2.2.2.2.2
        let w_87 := F_Th_letGo
        let nw0_84 : Int32 := w_87
        let w_91 := F_Da_told
        let nw0_88 : Int32 := w_91
        (nw1_64, nw0_88, nw0_63, nw1_64, nw2_65, nw3_66, nw4_67, nw5_68, nw6_69, nw7_70, nw8_71, nw9_72, nw10_73, nw11_74, nw12_75, nw13_76, nw14_77, nw15_78, nw16_79, nw17_80, nw0_84, nw0_11, nw1_12, nw4_28, nw5_29, nw6_30, nw7_31, nw8_32, nw9_33, nw10_34, nw11_35, nw0_24, nw1_25, nw2_26, nw3_27, nw12_36, nw13_37, nw14_38, nw15_39, nw16_40, nw17_41, nw18_42, nw19_43, nw20_44, nw21_45, nw22_46, nw23_47, nw24_48, nw25_49, nw26_50, nw27_51, nw28_52, nw29_53, nw30_54, nw31_55, nw32_56, nw33_57))) else (
      let w_103 := F_Da_none 5
      let nw0_100 : Int32 := w_103
      ((-1 : Int32), nw0_100, h_features, h_keys, h_lent, h_rings, h_doors, h_turned, h_roundMany, c_h_featureNames, c_h_steps, c_h_turnedFeatures, c_h_sixteenths, c_h_keySteps, c_h_on, c_h_onMany, c_h_wanted, c_h_openers, c_h_seconds, c_h_roundDoors, o_held, t_fed, t_length, t_kind, t_start, t_end, t_number, t_sign, t_letters, t_fault, t_faultPlace, hr_keysOnRings, hr_feelsTold, hr_secondsTold, hr_turnedTold, c_n_f, c_n_k, c_n_r, c_n_d, hf_features, hf_keys, hf_lent, hf_rings, hf_doors, hf_turned, hf_roundMany, c_hf_featureNames, c_hf_steps, c_hf_turnedFeatures, c_hf_sixteenths, c_hf_keySteps, c_hf_on, c_hf_onMany, c_hf_wanted, c_hf_openers, c_hf_seconds, c_hf_roundDoors)))
theorem F_X_house_s (h_features : Int32) (h_keys : Int32) (h_lent : Int32) (h_rings : Int32) (h_doors : Int32) (h_turned : Int32) (h_roundMany : Int32) (c_h_featureNames : Nat → Int64) (c_h_steps : Nat → Int32) (c_h_turnedFeatures : Nat → Int32) (c_h_sixteenths : Nat → Int32) (c_h_keySteps : Nat → Int32) (c_h_on : Nat → Int32) (c_h_onMany : Nat → Int32) (c_h_wanted : Nat → Int32) (c_h_openers : Nat → Int32) (c_h_seconds : Nat → Int32) (c_h_roundDoors : Nat → Int32) (o_held : Int32) (t_fed : Int32) (t_length : Int32) (t_kind : Int32) (t_start : Int32) (t_end : Int32) (t_number : Int32) (t_sign : Int32) (t_letters : Int64) (t_fault : Int32) (t_faultPlace : Int32) (c_tape : Nat → Int32) (hr_keysOnRings : Int32) (hr_feelsTold : Int32) (hr_secondsTold : Int32) (hr_turnedTold : Int32) (c_n_f : Nat → Int64) (c_n_k : Nat → Int64) (c_n_r : Nat → Int64) (c_n_d : Nat → Int64) (hf_features : Int32) (hf_keys : Int32) (hf_lent : Int32) (hf_rings : Int32) (hf_doors : Int32) (hf_turned : Int32) (hf_roundMany : Int32) (c_hf_featureNames : Nat → Int64) (c_hf_steps : Nat → Int32) (c_hf_turnedFeatures : Nat → Int32) (c_hf_sixteenths : Nat → Int32) (c_hf_keySteps : Nat → Int32) (c_hf_on : Nat → Int32) (c_hf_onMany : Nat → Int32) (c_hf_wanted : Nat → Int32) (c_hf_openers : Nat → Int32) (c_hf_seconds : Nat → Int32) (c_hf_roundDoors : Nat → Int32) (k1 : Int32) : F_X_house h_features h_keys h_lent h_rings h_doors h_turned h_roundMany c_h_featureNames c_h_steps c_h_turnedFeatures c_h_sixteenths c_h_keySteps c_h_on c_h_onMany c_h_wanted c_h_openers c_h_seconds c_h_roundDoors o_held t_fed t_length t_kind t_start t_end t_number t_sign t_letters t_fault t_faultPlace c_tape hr_keysOnRings hr_feelsTold hr_secondsTold hr_turnedTold c_n_f c_n_k c_n_r c_n_d hf_features hf_keys hf_lent hf_rings hf_doors hf_turned hf_roundMany c_hf_featureNames c_hf_steps c_hf_turnedFeatures c_hf_sixteenths c_hf_keySteps c_hf_on c_hf_onMany c_hf_wanted c_hf_openers c_hf_seconds c_hf_roundDoors k1 = (
  if k1 < 0 then (
    let w_6 := F_Da_none 5
    let nw0_3 : Int32 := w_6
    ((-1 : Int32), nw0_3, h_features, h_keys, h_lent, h_rings, h_doors, h_turned, h_roundMany, c_h_featureNames, c_h_steps, c_h_turnedFeatures, c_h_sixteenths, c_h_keySteps, c_h_on, c_h_onMany, c_h_wanted, c_h_openers, c_h_seconds, c_h_roundDoors, o_held, t_fed, t_length, t_kind, t_start, t_end, t_number, t_sign, t_letters, t_fault, t_faultPlace, hr_keysOnRings, hr_feelsTold, hr_secondsTold, hr_turnedTold, c_n_f, c_n_k, c_n_r, c_n_d, hf_features, hf_keys, hf_lent, hf_rings, hf_doors, hf_turned, hf_roundMany, c_hf_featureNames, c_hf_steps, c_hf_turnedFeatures, c_hf_sixteenths, c_hf_keySteps, c_hf_on, c_hf_onMany, c_hf_wanted, c_hf_openers, c_hf_seconds, c_hf_roundDoors)) else (
    if k1 ≤ t_fed then (
      let w_23 := F_Te_begin t_number t_sign t_letters c_tape k1
      let nw0_11 : Int32 := w_23.1
      let nw1_12 : Int32 := w_23.2.1
      let nw2_13 : Int32 := w_23.2.2.1
      let nw3_14 : Int32 := w_23.2.2.2.1
      let nw4_15 : Int32 := w_23.2.2.2.2.1
      let nw5_16 : Int32 := w_23.2.2.2.2.2.1
      let nw6_17 : Int32 := w_23.2.2.2.2.2.2.1
      let nw7_18 : Int64 := w_23.2.2.2.2.2.2.2.1
      let nw8_19 : Int32 := w_23.2.2.2.2.2.2.2.2.1
      let nw9_20 : Int32 := w_23.2.2.2.2.2.2.2.2.2
      let w_60 := F_Ho_readAll nw1_12 nw2_13 nw3_14 nw4_15 nw5_16 nw6_17 nw7_18 nw8_19 nw9_20 c_tape c_n_f c_n_k c_n_r c_n_d c_hf_featureNames c_hf_steps c_hf_turnedFeatures c_hf_sixteenths c_hf_keySteps c_hf_on c_hf_onMany c_hf_wanted c_hf_openers c_hf_seconds c_hf_roundDoors
      let r_58 : Int32 := w_60.1
      let nw0_24 : Int32 := w_60.2.1
      let nw1_25 : Int32 := w_60.2.2.1
      let nw2_26 : Int32 := w_60.2.2.2.1
      let nw3_27 : Int32 := w_60.2.2.2.2.1
      let nw4_28 : Int32 := w_60.2.2.2.2.2.1
      let nw5_29 : Int32 := w_60.2.2.2.2.2.2.1
      let nw6_30 : Int32 := w_60.2.2.2.2.2.2.2.1
      let nw7_31 : Int32 := w_60.2.2.2.2.2.2.2.2.1
      let nw8_32 : Int32 := w_60.2.2.2.2.2.2.2.2.2.1
      let nw9_33 : Int64 := w_60.2.2.2.2.2.2.2.2.2.2.1
      let nw10_34 : Int32 := w_60.2.2.2.2.2.2.2.2.2.2.2.1
      let nw11_35 : Int32 := w_60.2.2.2.2.2.2.2.2.2.2.2.2.1
      let nw12_36 : Nat → Int64 := w_60.2.2.2.2.2.2.2.2.2.2.2.2.2.1
      let nw13_37 : Nat → Int64 := w_60.2.2.2.2.2.2.2.2.2.2.2.2.2.2.1
      let nw14_38 : Nat → Int64 := w_60.2.2.2.2.2.2.2.2.2.2.2.2.2.2.2.1
      let nw15_39 : Nat → Int64 := w_60.2.2.2.2.2.2.2.2.2.2.2.2.2.2.2.2.1
      let nw16_40 : Int32 := w_60.2.2.2.2.2.2.2.2.2.2.2.2.2.2.2.2.2.1
      let nw17_41 : Int32 := w_60.2.2.2.2.2.2.2.2.2.2.2.2.2.2.2.2.2.2.1
      let nw18_42 : Int32 := w_60.2.2.2.2.2.2.2.2.2.2.2.2.2.2.2.2.2.2.2.1
      let nw19_43 : Int32 := w_60.2.2.2.2.2.2.2.2.2.2.2.2.2.2.2.2.2.2.2.2.1
      let nw20_44 : Int32 := w_60.2.2.2.2.2.2.2.2.2.2.2.2.2.2.2.2.2.2.2.2.2.1
      let nw21_45 : Int32 := w_60.2.2.2.2.2.2.2.2.2.2.2.2.2.2.2.2.2.2.2.2.2.2.1
      let nw22_46 : Int32 := w_60.2.2.2.2.2.2.2.2.2.2.2.2.2.2.2.2.2.2.2.2.2.2.2.1
      let nw23_47 : Nat → Int64 := w_60.2.2.2.2.2.2.2.2.2.2.2.2.2.2.2.2.2.2.2.2.2.2.2.2.1
      let nw24_48 : Nat → Int32 := w_60.2.2.2.2.2.2.2.2.2.2.2.2.2.2.2.2.2.2.2.2.2.2.2.2.2.1
      let nw25_49 : Nat → Int32 := w_60.2.2.2.2.2.2.2.2.2.2.2.2.2.2.2.2.2.2.2.2.2.2.2.2.2.2.1
      let nw26_50 : Nat → Int32 := w_60.2.2.2.2.2.2.2.2.2.2.2.2.2.2.2.2.2.2.2.2.2.2.2.2.2.2.2.1
      let nw27_51 : Nat → Int32 := w_60.2.2.2.2.2.2.2.2.2.2.2.2.2.2.2.2.2.2.2.2.2.2.2.2.2.2.2.2.1
      let nw28_52 : Nat → Int32 := w_60.2.2.2.2.2.2.2.2.2.2.2.2.2.2.2.2.2.2.2.2.2.2.2.2.2.2.2.2.2.1
      let nw29_53 : Nat → Int32 := w_60.2.2.2.2.2.2.2.2.2.2.2.2.2.2.2.2.2.2.2.2.2.2.2.2.2.2.2.2.2.2.1
      let nw30_54 : Nat → Int32 := w_60.2.2.2.2.2.2.2.2.2.2.2.2.2.2.2.2.2.2.2.2.2.2.2.2.2.2.2.2.2.2.2.1
      let nw31_55 : Nat → Int32 := w_60.2.2.2.2.2.2.2.2.2.2.2.2.2.2.2.2.2.2.2.2.2.2.2.2.2.2.2.2.2.2.2.2.1
      let nw32_56 : Nat → Int32 := w_60.2.2.2.2.2.2.2.2.2.2.2.2.2.2.2.2.2.2.2.2.2.2.2.2.2.2.2.2.2.2.2.2.2.1
      let nw33_57 : Nat → Int32 := w_60.2.2.2.2.2.2.2.2.2.2.2.2.2.2.2.2.2.2.2.2.2.2.2.2.2.2.2.2.2.2.2.2.2.2
      if r_58 = 0 then (
        let w_97 := F_Da_none 10
        let nw0_94 : Int32 := w_97
        ((-1 : Int32), nw0_94, h_features, h_keys, h_lent, h_rings, h_doors, h_turned, h_roundMany, c_h_featureNames, c_h_steps, c_h_turnedFeatures, c_h_sixteenths, c_h_keySteps, c_h_on, c_h_onMany, c_h_wanted, c_h_openers, c_h_seconds, c_h_roundDoors, o_held, nw0_11, nw1_12, nw4_28, nw5_29, nw6_30, nw7_31, nw8_32, nw9_33, nw10_34, nw11_35, nw0_24, nw1_25, nw2_26, nw3_27, nw12_36, nw13_37, nw14_38, nw15_39, nw16_40, nw17_41, nw18_42, nw19_43, nw20_44, nw21_45, nw22_46, nw23_47, nw24_48, nw25_49, nw26_50, nw27_51, nw28_52, nw29_53, nw30_54, nw31_55, nw32_56, nw33_57)) else (
        let w_83 := F_Ho_copy c_h_featureNames c_h_steps c_h_turnedFeatures c_h_sixteenths c_h_keySteps c_h_on c_h_onMany c_h_wanted c_h_openers c_h_seconds c_h_roundDoors nw16_40 nw17_41 nw18_42 nw19_43 nw20_44 nw21_45 nw22_46 nw23_47 nw24_48 nw25_49 nw26_50 nw27_51 nw28_52 nw29_53 nw30_54 nw31_55 nw32_56 nw33_57
        let nw0_63 : Int32 := w_83.1
        let nw1_64 : Int32 := w_83.2.1
        let nw2_65 : Int32 := w_83.2.2.1
        let nw3_66 : Int32 := w_83.2.2.2.1
        let nw4_67 : Int32 := w_83.2.2.2.2.1
        let nw5_68 : Int32 := w_83.2.2.2.2.2.1
        let nw6_69 : Int32 := w_83.2.2.2.2.2.2.1
        let nw7_70 : Nat → Int64 := w_83.2.2.2.2.2.2.2.1
        let nw8_71 : Nat → Int32 := w_83.2.2.2.2.2.2.2.2.1
        let nw9_72 : Nat → Int32 := w_83.2.2.2.2.2.2.2.2.2.1
        let nw10_73 : Nat → Int32 := w_83.2.2.2.2.2.2.2.2.2.2.1
        let nw11_74 : Nat → Int32 := w_83.2.2.2.2.2.2.2.2.2.2.2.1
        let nw12_75 : Nat → Int32 := w_83.2.2.2.2.2.2.2.2.2.2.2.2.1
        let nw13_76 : Nat → Int32 := w_83.2.2.2.2.2.2.2.2.2.2.2.2.2.1
        let nw14_77 : Nat → Int32 := w_83.2.2.2.2.2.2.2.2.2.2.2.2.2.2.1
        let nw15_78 : Nat → Int32 := w_83.2.2.2.2.2.2.2.2.2.2.2.2.2.2.2.1
        let nw16_79 : Nat → Int32 := w_83.2.2.2.2.2.2.2.2.2.2.2.2.2.2.2.2.1
        let nw17_80 : Nat → Int32 := w_83.2.2.2.2.2.2.2.2.2.2.2.2.2.2.2.2.2
        let w_87 := F_Th_letGo
        let nw0_84 : Int32 := w_87
        let w_91 := F_Da_told
        let nw0_88 : Int32 := w_91
        (nw1_64, nw0_88, nw0_63, nw1_64, nw2_65, nw3_66, nw4_67, nw5_68, nw6_69, nw7_70, nw8_71, nw9_72, nw10_73, nw11_74, nw12_75, nw13_76, nw14_77, nw15_78, nw16_79, nw17_80, nw0_84, nw0_11, nw1_12, nw4_28, nw5_29, nw6_30, nw7_31, nw8_32, nw9_33, nw10_34, nw11_35, nw0_24, nw1_25, nw2_26, nw3_27, nw12_36, nw13_37, nw14_38, nw15_39, nw16_40, nw17_41, nw18_42, nw19_43, nw20_44, nw21_45, nw22_46, nw23_47, nw24_48, nw25_49, nw26_50, nw27_51, nw28_52, nw29_53, nw30_54, nw31_55, nw32_56, nw33_57))) else (
      let w_103 := F_Da_none 5
      let nw0_100 : Int32 := w_103
      ((-1 : Int32), nw0_100, h_features, h_keys, h_lent, h_rings, h_doors, h_turned, h_roundMany, c_h_featureNames, c_h_steps, c_h_turnedFeatures, c_h_sixteenths, c_h_keySteps, c_h_on, c_h_onMany, c_h_wanted, c_h_openers, c_h_seconds, c_h_roundDoors, o_held, t_fed, t_length, t_kind, t_start, t_end, t_number, t_sign, t_letters, t_fault, t_faultPlace, hr_keysOnRings, hr_feelsTold, hr_secondsTold, hr_turnedTold, c_n_f, c_n_k, c_n_r, c_n_d, hf_features, hf_keys, hf_lent, hf_rings, hf_doors, hf_turned, hf_roundMany, c_hf_featureNames, c_hf_steps, c_hf_turnedFeatures, c_hf_sixteenths, c_hf_keySteps, c_hf_on, c_hf_onMany, c_hf_wanted, c_hf_openers, c_hf_seconds, c_hf_roundDoors)))) := rfl
