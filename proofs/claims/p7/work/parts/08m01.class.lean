set_option maxHeartbeats 4000000 in
set_option maxRecDepth 100000 in
theorem d_H_setFeltAs (l : Launch) (G : va_G) (cA : zCA) (h : Nat) (h_features : Int32) (h_featureNames : Nat) (h_steps : Nat) (h_turnedFeatures : Nat) (h_sixteenths : Nat) (h_keys : Int32) (h_keySteps : Nat) (h_lent : Int32) (h_rings : Int32) (h_on : Nat) (h_onMany : Nat) (h_doors : Int32) (h_wanted : Nat) (h_openers : Nat) (h_seconds : Nat) (h_turned : Int32) (h_roundMany : Int32) (h_roundDoors : Nat) (c_h_sixteenths : Nat → Int32) (x : Int32) (y : Int32) (k : Int32) (j : Int32) (hm_h_features : 0 ≤ h_features.toInt ∧ h_features.toInt ≤ 3) : zCv l yX2_setFeltAs cX2_setFeltAs 5 none ({ frames := 1, cells := 0, slots := 0, locals := 22 }) G cA [.ref h, .int x, .int y, .int k, .int j] [(h, .inr (2, [.int h_features, .ref h_featureNames, .ref h_steps, .ref h_turnedFeatures, .ref h_sixteenths, .int h_keys, .ref h_keySteps, .int h_lent, .int h_rings, .ref h_on, .ref h_onMany, .int h_doors, .ref h_wanted, .ref h_openers, .ref h_seconds, .int h_turned, .int h_roundMany, .ref h_roundDoors])), (h_sixteenths, .inl (cA.1 0, 48, .inl c_h_sixteenths))] (S := (Nat → Int32)) (fun (u : (Nat → Int32)) => True) (fun (u : (Nat → Int32)) => [(h, .inr (2, [.int h_features, .ref h_featureNames, .ref h_steps, .ref h_turnedFeatures, .ref h_sixteenths, .int h_keys, .ref h_keySteps, .int h_lent, .int h_rings, .ref h_on, .ref h_onMany, .int h_doors, .ref h_wanted, .ref h_openers, .ref h_seconds, .int h_turned, .int h_roundMany, .ref h_roundDoors])), (h_sixteenths, .inl (cA.1 0, 48, .inl u))]) 0 0 := by
  refine z_start2v (own := RX2) (by decide) (Nat.le_of_ble_eq_true rfl) rfl ?_
  intro p e s m args below meth c A ls Q hx hb hml hts hown hK hE hT hP hD hS hA hl hret
  have hl : lv_has ls 5 [(0, .ref h), (1, .int x), (2, .int y), (3, .int k), (4, .int j)] := hl
  refine lv_aload_n hx hb dX2_setFeltAs_0 rfl (lv_at hl 0 rfl) ?_
  refine va_get (D := G) (ci := 2) (v := .ref h_sixteenths) (C := RX2) (T := TX2) (N := 18) hx hb hts inT2 hown hK hP 0 rfl rfl 4 (by decide) (hts _ tw_273) (fun _ h9 => h9) rfl dX2_setFeltAs_1 ?_
  refine lv_iload_n hx hb dX2_setFeltAs_4 rfl (lv_at hl 1 rfl) ?_
  refine lv_iconst (v := 4) hx hb dX2_setFeltAs_5 (by decide) ?_
  refine lv_imul hx hb dX2_setFeltAs_6 ?_
  refine lv_topi (fun x_1 _ => ?_)
  refine lv_iload_n hx hb dX2_setFeltAs_7 rfl (lv_at hl 2 rfl) ?_
  refine lv_iadd hx hb dX2_setFeltAs_8 ?_
  refine lv_topi (fun x_2 _ => ?_)
  refine lv_iconst (v := 4) hx hb dX2_setFeltAs_9 (by decide) ?_
  refine lv_imul hx hb dX2_setFeltAs_10 ?_
  refine lv_topi (fun x_3 _ => ?_)
  refine lv_iload_n hx hb dX2_setFeltAs_11 rfl (lv_at hl 3 rfl) ?_
  refine lv_iadd hx hb dX2_setFeltAs_12 ?_
  refine lv_topi (fun x_4 _ => ?_)
  refine lv_iload hx hb dX2_setFeltAs_13 (lv_at hl 4 rfl) ?_
  refine z_callSNv (As := [.ref h_sixteenths, .int x_4, .int j]) (rest := []) (wr := [(h, .inr (2, [.int h_features, .ref h_featureNames, .ref h_steps, .ref h_turnedFeatures, .ref h_sixteenths, .int h_keys, .ref h_keySteps, .int h_lent, .int h_rings, .ref h_on, .ref h_onMany, .int h_doors, .ref h_wanted, .ref h_openers, .ref h_seconds, .int h_turned, .int h_roundMany, .ref h_roundDoors]))]) ⟨hx, hb, hml, hown, hts⟩ hK hE hT hP hD hS hA (d_keepAt_48 l G cA h_sixteenths c_h_sixteenths x_4 j) lk_RX2_126 ⟨rfl, rfl⟩ ⟨Nat.le_of_ble_eq_true rfl, Nat.le_of_ble_eq_true rfl⟩ [1] [0] rfl rfl (by decide) rfl hl.1 rfl (lv_room (Nat.le_of_ble_eq_true rfl)) dX2_setFeltAs_15 ⟨Nat.le_of_ble_eq_true rfl, Nat.le_of_ble_eq_true rfl⟩ (fun u_7 H locs hw hP hD hS => ?_)
  obtain ⟨nw0_5, rfl⟩ : ∃ z, z = u_7 := ⟨_, rfl⟩
  have hP : va_P G vwCl [(h, .inr (2, [.int h_features, .ref h_featureNames, .ref h_steps, .ref h_turnedFeatures, .ref h_sixteenths, .int h_keys, .ref h_keySteps, .int h_lent, .int h_rings, .ref h_on, .ref h_onMany, .int h_doors, .ref h_wanted, .ref h_openers, .ref h_seconds, .int h_turned, .int h_roundMany, .ref h_roundDoors])), (h_sixteenths, .inl (cA.1 0, 48, .inl nw0_5))] H := hP
  have hD : va_D A [(h, .inr (2, [.int h_features, .ref h_featureNames, .ref h_steps, .ref h_turnedFeatures, .ref h_sixteenths, .int h_keys, .ref h_keySteps, .int h_lent, .int h_rings, .ref h_on, .ref h_onMany, .int h_doors, .ref h_wanted, .ref h_openers, .ref h_seconds, .int h_turned, .int h_roundMany, .ref h_roundDoors])), (h_sixteenths, .inl (cA.1 0, 48, .inl nw0_5))] := hD
  exact hret _ _ _ _ _ nw0_5 [0, 1] hP hD hS rfl (by decide) dX2_setFeltAs_18 trivial
set_option maxHeartbeats 4000000 in
set_option maxRecDepth 100000 in
theorem d_H_setStep (l : Launch) (G : va_G) (cA : zCA) (h : Nat) (h_features : Int32) (h_featureNames : Nat) (h_steps : Nat) (h_turnedFeatures : Nat) (h_sixteenths : Nat) (h_keys : Int32) (h_keySteps : Nat) (h_lent : Int32) (h_rings : Int32) (h_on : Nat) (h_onMany : Nat) (h_doors : Int32) (h_wanted : Nat) (h_openers : Nat) (h_seconds : Nat) (h_turned : Int32) (h_roundMany : Int32) (h_roundDoors : Nat) (c_h_keySteps : Nat → Int32) (x : Int32) (y : Int32) (k : Int32) (hm_h_features : 0 ≤ h_features.toInt ∧ h_features.toInt ≤ 3) : zCv l yX2_setStep cX2_setStep 4 none ({ frames := 1, cells := 0, slots := 0, locals := 22 }) G cA [.ref h, .int x, .int y, .int k] [(h, .inr (2, [.int h_features, .ref h_featureNames, .ref h_steps, .ref h_turnedFeatures, .ref h_sixteenths, .int h_keys, .ref h_keySteps, .int h_lent, .int h_rings, .ref h_on, .ref h_onMany, .int h_doors, .ref h_wanted, .ref h_openers, .ref h_seconds, .int h_turned, .int h_roundMany, .ref h_roundDoors])), (h_keySteps, .inl (cA.1 0, 30, .inl c_h_keySteps))] (S := (Nat → Int32)) (fun (u : (Nat → Int32)) => True) (fun (u : (Nat → Int32)) => [(h, .inr (2, [.int h_features, .ref h_featureNames, .ref h_steps, .ref h_turnedFeatures, .ref h_sixteenths, .int h_keys, .ref h_keySteps, .int h_lent, .int h_rings, .ref h_on, .ref h_onMany, .int h_doors, .ref h_wanted, .ref h_openers, .ref h_seconds, .int h_turned, .int h_roundMany, .ref h_roundDoors])), (h_keySteps, .inl (cA.1 0, 30, .inl u))]) 0 0 := by
  refine z_start2v (own := RX2) (by decide) (Nat.le_of_ble_eq_true rfl) rfl ?_
  intro p e s m args below meth c A ls Q hx hb hml hts hown hK hE hT hP hD hS hA hl hret
  have hl : lv_has ls 4 [(0, .ref h), (1, .int x), (2, .int y), (3, .int k)] := hl
  refine lv_aload_n hx hb dX2_setStep_0 rfl (lv_at hl 0 rfl) ?_
  refine va_get (D := G) (ci := 2) (v := .ref h_keySteps) (C := RX2) (T := TX2) (N := 18) hx hb hts inT2 hown hK hP 0 rfl rfl 6 (by decide) (hts _ tw_277) (fun _ h9 => h9) rfl dX2_setStep_1 ?_
  refine lv_iload_n hx hb dX2_setStep_4 rfl (lv_at hl 1 rfl) ?_
  refine lv_iconst (v := 3) hx hb dX2_setStep_5 (by decide) ?_
  refine lv_imul hx hb dX2_setStep_6 ?_
  refine lv_topi (fun x_1 _ => ?_)
  refine lv_iload_n hx hb dX2_setStep_7 rfl (lv_at hl 2 rfl) ?_
  refine lv_iadd hx hb dX2_setStep_8 ?_
  refine lv_topi (fun x_2 _ => ?_)
  refine lv_iload_n hx hb dX2_setStep_9 rfl (lv_at hl 3 rfl) ?_
  refine z_callSNv (As := [.ref h_keySteps, .int x_2, .int k]) (rest := []) (wr := [(h, .inr (2, [.int h_features, .ref h_featureNames, .ref h_steps, .ref h_turnedFeatures, .ref h_sixteenths, .int h_keys, .ref h_keySteps, .int h_lent, .int h_rings, .ref h_on, .ref h_onMany, .int h_doors, .ref h_wanted, .ref h_openers, .ref h_seconds, .int h_turned, .int h_roundMany, .ref h_roundDoors]))]) ⟨hx, hb, hml, hown, hts⟩ hK hE hT hP hD hS hA (d_keepAt_30 l G cA h_keySteps c_h_keySteps x_2 k) lk_RX2_126 ⟨rfl, rfl⟩ ⟨Nat.le_of_ble_eq_true rfl, Nat.le_of_ble_eq_true rfl⟩ [1] [0] rfl rfl (by decide) rfl hl.1 rfl (lv_room (Nat.le_of_ble_eq_true rfl)) dX2_setStep_10 ⟨Nat.le_of_ble_eq_true rfl, Nat.le_of_ble_eq_true rfl⟩ (fun u_5 H locs hw hP hD hS => ?_)
  obtain ⟨nw0_3, rfl⟩ : ∃ z, z = u_5 := ⟨_, rfl⟩
  have hP : va_P G vwCl [(h, .inr (2, [.int h_features, .ref h_featureNames, .ref h_steps, .ref h_turnedFeatures, .ref h_sixteenths, .int h_keys, .ref h_keySteps, .int h_lent, .int h_rings, .ref h_on, .ref h_onMany, .int h_doors, .ref h_wanted, .ref h_openers, .ref h_seconds, .int h_turned, .int h_roundMany, .ref h_roundDoors])), (h_keySteps, .inl (cA.1 0, 30, .inl nw0_3))] H := hP
  have hD : va_D A [(h, .inr (2, [.int h_features, .ref h_featureNames, .ref h_steps, .ref h_turnedFeatures, .ref h_sixteenths, .int h_keys, .ref h_keySteps, .int h_lent, .int h_rings, .ref h_on, .ref h_onMany, .int h_doors, .ref h_wanted, .ref h_openers, .ref h_seconds, .int h_turned, .int h_roundMany, .ref h_roundDoors])), (h_keySteps, .inl (cA.1 0, 30, .inl nw0_3))] := hD
  exact hret _ _ _ _ _ nw0_3 [0, 1] hP hD hS rfl (by decide) dX2_setStep_13 trivial
set_option maxHeartbeats 4000000 in
set_option maxRecDepth 100000 in
theorem d_H_setSeconds (l : Launch) (G : va_G) (cA : zCA) (h : Nat) (h_features : Int32) (h_featureNames : Nat) (h_steps : Nat) (h_turnedFeatures : Nat) (h_sixteenths : Nat) (h_keys : Int32) (h_keySteps : Nat) (h_lent : Int32) (h_rings : Int32) (h_on : Nat) (h_onMany : Nat) (h_doors : Int32) (h_wanted : Nat) (h_openers : Nat) (h_seconds : Nat) (h_turned : Int32) (h_roundMany : Int32) (h_roundDoors : Nat) (c_h_seconds : Nat → Int32) (x : Int32) (y : Int32) (hm_h_features : 0 ≤ h_features.toInt ∧ h_features.toInt ≤ 3) : zCv l yX2_setSeconds cX2_setSeconds 3 none ({ frames := 1, cells := 0, slots := 0, locals := 22 }) G cA [.ref h, .int x, .int y] [(h, .inr (2, [.int h_features, .ref h_featureNames, .ref h_steps, .ref h_turnedFeatures, .ref h_sixteenths, .int h_keys, .ref h_keySteps, .int h_lent, .int h_rings, .ref h_on, .ref h_onMany, .int h_doors, .ref h_wanted, .ref h_openers, .ref h_seconds, .int h_turned, .int h_roundMany, .ref h_roundDoors])), (h_seconds, .inl (cA.1 0, 4, .inl c_h_seconds))] (S := (Nat → Int32)) (fun (u : (Nat → Int32)) => True) (fun (u : (Nat → Int32)) => [(h, .inr (2, [.int h_features, .ref h_featureNames, .ref h_steps, .ref h_turnedFeatures, .ref h_sixteenths, .int h_keys, .ref h_keySteps, .int h_lent, .int h_rings, .ref h_on, .ref h_onMany, .int h_doors, .ref h_wanted, .ref h_openers, .ref h_seconds, .int h_turned, .int h_roundMany, .ref h_roundDoors])), (h_seconds, .inl (cA.1 0, 4, .inl u))]) 0 0 := by
  refine z_start2v (own := RX2) (by decide) (Nat.le_of_ble_eq_true rfl) rfl ?_
  intro p e s m args below meth c A ls Q hx hb hml hts hown hK hE hT hP hD hS hA hl hret
  have hl : lv_has ls 3 [(0, .ref h), (1, .int x), (2, .int y)] := hl
  refine lv_aload_n hx hb dX2_setSeconds_0 rfl (lv_at hl 0 rfl) ?_
  refine va_get (D := G) (ci := 2) (v := .ref h_seconds) (C := RX2) (T := TX2) (N := 18) hx hb hts inT2 hown hK hP 0 rfl rfl 14 (by decide) (hts _ tw_291) (fun _ h9 => h9) rfl dX2_setSeconds_1 ?_
  refine lv_iload_n hx hb dX2_setSeconds_4 rfl (lv_at hl 1 rfl) ?_
  refine lv_iload_n hx hb dX2_setSeconds_5 rfl (lv_at hl 2 rfl) ?_
  refine z_callSNv (As := [.ref h_seconds, .int x, .int y]) (rest := []) (wr := [(h, .inr (2, [.int h_features, .ref h_featureNames, .ref h_steps, .ref h_turnedFeatures, .ref h_sixteenths, .int h_keys, .ref h_keySteps, .int h_lent, .int h_rings, .ref h_on, .ref h_onMany, .int h_doors, .ref h_wanted, .ref h_openers, .ref h_seconds, .int h_turned, .int h_roundMany, .ref h_roundDoors]))]) ⟨hx, hb, hml, hown, hts⟩ hK hE hT hP hD hS hA (d_keepAt_4 l G cA h_seconds c_h_seconds x y) lk_RX2_126 ⟨rfl, rfl⟩ ⟨Nat.le_of_ble_eq_true rfl, Nat.le_of_ble_eq_true rfl⟩ [1] [0] rfl rfl (by decide) rfl hl.1 rfl (lv_room (Nat.le_of_ble_eq_true rfl)) dX2_setSeconds_6 ⟨Nat.le_of_ble_eq_true rfl, Nat.le_of_ble_eq_true rfl⟩ (fun u_3 H locs hw hP hD hS => ?_)
  obtain ⟨nw0_1, rfl⟩ : ∃ z, z = u_3 := ⟨_, rfl⟩
  have hP : va_P G vwCl [(h, .inr (2, [.int h_features, .ref h_featureNames, .ref h_steps, .ref h_turnedFeatures, .ref h_sixteenths, .int h_keys, .ref h_keySteps, .int h_lent, .int h_rings, .ref h_on, .ref h_onMany, .int h_doors, .ref h_wanted, .ref h_openers, .ref h_seconds, .int h_turned, .int h_roundMany, .ref h_roundDoors])), (h_seconds, .inl (cA.1 0, 4, .inl nw0_1))] H := hP
  have hD : va_D A [(h, .inr (2, [.int h_features, .ref h_featureNames, .ref h_steps, .ref h_turnedFeatures, .ref h_sixteenths, .int h_keys, .ref h_keySteps, .int h_lent, .int h_rings, .ref h_on, .ref h_onMany, .int h_doors, .ref h_wanted, .ref h_openers, .ref h_seconds, .int h_turned, .int h_roundMany, .ref h_roundDoors])), (h_seconds, .inl (cA.1 0, 4, .inl nw0_1))] := hD
  exact hret _ _ _ _ _ nw0_1 [0, 1] hP hD hS rfl (by decide) dX2_setSeconds_9 trivial
set_option maxHeartbeats 4000000 in
set_option maxRecDepth 100000 in
theorem d_H_addFeature (l : Launch) (G : va_G) (cA : zCA) (h : Nat) (h_features : Int32) (h_featureNames : Nat) (h_steps : Nat) (h_turnedFeatures : Nat) (h_sixteenths : Nat) (h_keys : Int32) (h_keySteps : Nat) (h_lent : Int32) (h_rings : Int32) (h_on : Nat) (h_onMany : Nat) (h_doors : Int32) (h_wanted : Nat) (h_openers : Nat) (h_seconds : Nat) (h_turned : Int32) (h_roundMany : Int32) (h_roundDoors : Nat) (c_h_featureNames : Nat → Int64) (c_h_steps : Nat → Int32) (c_h_turnedFeatures : Nat → Int32) (c_h_sixteenths : Nat → Int32) (x : Int64) (y : Int32) (k : Int32) (hft : h_features.toInt ≤ 2) (hm_h_features : 0 ≤ h_features.toInt ∧ h_features.toInt ≤ 3) : zCv l yX2_addFeature cX2_addFeature 7 none ({ frames := 2, cells := 0, slots := 0, locals := 46 }) G cA [.ref h, .long x, .int y, .int k] [(h, .inr (2, [.int h_features, .ref h_featureNames, .ref h_steps, .ref h_turnedFeatures, .ref h_sixteenths, .int h_keys, .ref h_keySteps, .int h_lent, .int h_rings, .ref h_on, .ref h_onMany, .int h_doors, .ref h_wanted, .ref h_openers, .ref h_seconds, .int h_turned, .int h_roundMany, .ref h_roundDoors])), (h_featureNames, .inl (cA.1 1, 3, .inr (.inl c_h_featureNames))), (h_steps, .inl (cA.1 0, 3, .inl c_h_steps)), (h_turnedFeatures, .inl (cA.1 0, 3, .inl c_h_turnedFeatures)), (h_sixteenths, .inl (cA.1 0, 48, .inl c_h_sixteenths))] (S := Int32 × (Nat → Int64) × (Nat → Int32) × (Nat → Int32) × (Nat → Int32)) (fun (u : Int32 × (Nat → Int64) × (Nat → Int32) × (Nat → Int32) × (Nat → Int32)) => 0 ≤ u.1.toInt ∧ u.1.toInt ≤ 3) (fun (u : Int32 × (Nat → Int64) × (Nat → Int32) × (Nat → Int32) × (Nat → Int32)) => [(h, .inr (2, [.int u.1, .ref h_featureNames, .ref h_steps, .ref h_turnedFeatures, .ref h_sixteenths, .int h_keys, .ref h_keySteps, .int h_lent, .int h_rings, .ref h_on, .ref h_onMany, .int h_doors, .ref h_wanted, .ref h_openers, .ref h_seconds, .int h_turned, .int h_roundMany, .ref h_roundDoors])), (h_featureNames, .inl (cA.1 1, 3, .inr (.inl u.2.1))), (h_steps, .inl (cA.1 0, 3, .inl u.2.2.1)), (h_turnedFeatures, .inl (cA.1 0, 3, .inl u.2.2.2.1)), (h_sixteenths, .inl (cA.1 0, 48, .inl u.2.2.2.2))]) 0 0 := by
  refine z_start2v (own := RX2) (by decide) (Nat.le_of_ble_eq_true rfl) rfl ?_
  intro p e s m args below meth c A ls Q hx hb hml hts hown hK hE hT hP hD hS hA hl hret
  have hl : lv_has ls 7 [(0, .ref h), (1, .long x), (3, .int y), (4, .int k)] := hl
  refine lv_aload_n hx hb dX2_addFeature_0 rfl (lv_at hl 0 rfl) ?_
  refine va_get (D := G) (ci := 2) (v := .ref h_featureNames) (C := RX2) (T := TX2) (N := 18) hx hb hts inT2 hown hK hP 0 rfl rfl 1 (by decide) (hts _ tw_270) (fun _ h9 => h9) rfl dX2_addFeature_1 ?_
  refine lv_aload_n hx hb dX2_addFeature_4 rfl (lv_at hl 0 rfl) ?_
  refine va_get (D := G) (ci := 2) (v := .int h_features) (C := RX2) (T := TX2) (N := 18) hx hb hts inT2 hown hK hP 0 rfl rfl 0 (by decide) (hts _ tw_265) (fun _ h9 => h9) rfl dX2_addFeature_5 ?_
  refine lv_lload_n hx hb dX2_addFeature_8 rfl (lv_at hl 1 rfl) ?_
  refine z_callSNv (As := [.ref h_featureNames, .int h_features, .long x]) (rest := []) (wr := [(h, .inr (2, [.int h_features, .ref h_featureNames, .ref h_steps, .ref h_turnedFeatures, .ref h_sixteenths, .int h_keys, .ref h_keySteps, .int h_lent, .int h_rings, .ref h_on, .ref h_onMany, .int h_doors, .ref h_wanted, .ref h_openers, .ref h_seconds, .int h_turned, .int h_roundMany, .ref h_roundDoors])), (h_steps, .inl (cA.1 0, 3, .inl c_h_steps)), (h_turnedFeatures, .inl (cA.1 0, 3, .inl c_h_turnedFeatures)), (h_sixteenths, .inl (cA.1 0, 48, .inl c_h_sixteenths))]) ⟨hx, hb, hml, hown, hts⟩ hK hE hT hP hD hS hA (d_keepLongAt_3 l G cA h_featureNames c_h_featureNames h_features x) lk_RX2_137 ⟨rfl, rfl⟩ ⟨Nat.le_of_ble_eq_true rfl, Nat.le_of_ble_eq_true rfl⟩ [1] [0, 2, 3, 4] rfl rfl (by decide) rfl hl.1 rfl (lv_room (Nat.le_of_ble_eq_true rfl)) dX2_addFeature_9 ⟨Nat.le_of_ble_eq_true rfl, Nat.le_of_ble_eq_true rfl⟩ (fun u_3 H locs hw hP hD hS => ?_)
  obtain ⟨nw0_1, rfl⟩ : ∃ z, z = u_3 := ⟨_, rfl⟩
  have hP : va_P G vwCl [(h, .inr (2, [.int h_features, .ref h_featureNames, .ref h_steps, .ref h_turnedFeatures, .ref h_sixteenths, .int h_keys, .ref h_keySteps, .int h_lent, .int h_rings, .ref h_on, .ref h_onMany, .int h_doors, .ref h_wanted, .ref h_openers, .ref h_seconds, .int h_turned, .int h_roundMany, .ref h_roundDoors])), (h_steps, .inl (cA.1 0, 3, .inl c_h_steps)), (h_turnedFeatures, .inl (cA.1 0, 3, .inl c_h_turnedFeatures)), (h_sixteenths, .inl (cA.1 0, 48, .inl c_h_sixteenths)), (h_featureNames, .inl (cA.1 1, 3, .inr (.inl nw0_1)))] H := hP
  have hD : va_D A [(h, .inr (2, [.int h_features, .ref h_featureNames, .ref h_steps, .ref h_turnedFeatures, .ref h_sixteenths, .int h_keys, .ref h_keySteps, .int h_lent, .int h_rings, .ref h_on, .ref h_onMany, .int h_doors, .ref h_wanted, .ref h_openers, .ref h_seconds, .int h_turned, .int h_roundMany, .ref h_roundDoors])), (h_steps, .inl (cA.1 0, 3, .inl c_h_steps)), (h_turnedFeatures, .inl (cA.1 0, 3, .inl c_h_turnedFeatures)), (h_sixteenths, .inl (cA.1 0, 48, .inl c_h_sixteenths)), (h_featureNames, .inl (cA.1 1, 3, .inr (.inl nw0_1)))] := hD
  obtain ⟨he_nw0_1, hw⟩ := hw
  refine lv_aload_n hx hb dX2_addFeature_12 rfl (lv_at hl 0 rfl) ?_
  refine va_get (D := G) (ci := 2) (v := .ref h_steps) (C := RX2) (T := TX2) (N := 18) hx hb hts inT2 hown hK hP 0 rfl rfl 2 (by decide) (hts _ tw_271) (fun _ h9 => h9) rfl dX2_addFeature_13 ?_
  refine lv_aload_n hx hb dX2_addFeature_16 rfl (lv_at hl 0 rfl) ?_
  refine va_get (D := G) (ci := 2) (v := .int h_features) (C := RX2) (T := TX2) (N := 18) hx hb hts inT2 hown hK hP 0 rfl rfl 0 (by decide) (hts _ tw_265) (fun _ h9 => h9) rfl dX2_addFeature_17 ?_
  refine lv_iload_n hx hb dX2_addFeature_20 rfl (lv_at hl 2 rfl) ?_
  refine z_callSNv (As := [.ref h_steps, .int h_features, .int y]) (rest := []) (wr := [(h, .inr (2, [.int h_features, .ref h_featureNames, .ref h_steps, .ref h_turnedFeatures, .ref h_sixteenths, .int h_keys, .ref h_keySteps, .int h_lent, .int h_rings, .ref h_on, .ref h_onMany, .int h_doors, .ref h_wanted, .ref h_openers, .ref h_seconds, .int h_turned, .int h_roundMany, .ref h_roundDoors])), (h_turnedFeatures, .inl (cA.1 0, 3, .inl c_h_turnedFeatures)), (h_sixteenths, .inl (cA.1 0, 48, .inl c_h_sixteenths)), (h_featureNames, .inl (cA.1 1, 3, .inr (.inl nw0_1)))]) ⟨hx, hb, hml, hown, hts⟩ hK hE hT hP hD hS hA (d_keepAt_3 l G cA h_steps c_h_steps h_features y) lk_RX2_126 ⟨rfl, rfl⟩ ⟨Nat.le_of_ble_eq_true rfl, Nat.le_of_ble_eq_true rfl⟩ [1] [0, 2, 3, 4] rfl rfl (by decide) rfl hl.1 rfl (lv_room (Nat.le_of_ble_eq_true rfl)) dX2_addFeature_21 ⟨Nat.le_of_ble_eq_true rfl, Nat.le_of_ble_eq_true rfl⟩ (fun u_6 H locs hw hP hD hS => ?_)
  obtain ⟨nw0_4, rfl⟩ : ∃ z, z = u_6 := ⟨_, rfl⟩
  have hP : va_P G vwCl [(h, .inr (2, [.int h_features, .ref h_featureNames, .ref h_steps, .ref h_turnedFeatures, .ref h_sixteenths, .int h_keys, .ref h_keySteps, .int h_lent, .int h_rings, .ref h_on, .ref h_onMany, .int h_doors, .ref h_wanted, .ref h_openers, .ref h_seconds, .int h_turned, .int h_roundMany, .ref h_roundDoors])), (h_turnedFeatures, .inl (cA.1 0, 3, .inl c_h_turnedFeatures)), (h_sixteenths, .inl (cA.1 0, 48, .inl c_h_sixteenths)), (h_featureNames, .inl (cA.1 1, 3, .inr (.inl nw0_1))), (h_steps, .inl (cA.1 0, 3, .inl nw0_4))] H := hP
  have hD : va_D A [(h, .inr (2, [.int h_features, .ref h_featureNames, .ref h_steps, .ref h_turnedFeatures, .ref h_sixteenths, .int h_keys, .ref h_keySteps, .int h_lent, .int h_rings, .ref h_on, .ref h_onMany, .int h_doors, .ref h_wanted, .ref h_openers, .ref h_seconds, .int h_turned, .int h_roundMany, .ref h_roundDoors])), (h_turnedFeatures, .inl (cA.1 0, 3, .inl c_h_turnedFeatures)), (h_sixteenths, .inl (cA.1 0, 48, .inl c_h_sixteenths)), (h_featureNames, .inl (cA.1 1, 3, .inr (.inl nw0_1))), (h_steps, .inl (cA.1 0, 3, .inl nw0_4))] := hD
  have hx_nw0_4 := hw
  refine lv_aload_n hx hb dX2_addFeature_24 rfl (lv_at hl 0 rfl) ?_
  refine va_get (D := G) (ci := 2) (v := .ref h_turnedFeatures) (C := RX2) (T := TX2) (N := 18) hx hb hts inT2 hown hK hP 0 rfl rfl 3 (by decide) (hts _ tw_272) (fun _ h9 => h9) rfl dX2_addFeature_25 ?_
  refine lv_aload_n hx hb dX2_addFeature_28 rfl (lv_at hl 0 rfl) ?_
  refine va_get (D := G) (ci := 2) (v := .int h_features) (C := RX2) (T := TX2) (N := 18) hx hb hts inT2 hown hK hP 0 rfl rfl 0 (by decide) (hts _ tw_265) (fun _ h9 => h9) rfl dX2_addFeature_29 ?_
  refine lv_iload hx hb dX2_addFeature_32 (lv_at hl 3 rfl) ?_
  refine lv_if_eq (tgt := 41) hx hb dX2_addFeature_34 (by decide) (fun c_7 => ?_) (fun c_7 => ?_)
  · skip
    refine lv_iconst (v := 0) hx hb dX2_addFeature_41 (by decide) ?_
    refine z_callSNv (As := [.ref h_turnedFeatures, .int h_features, .int 0]) (rest := []) (wr := [(h, .inr (2, [.int h_features, .ref h_featureNames, .ref h_steps, .ref h_turnedFeatures, .ref h_sixteenths, .int h_keys, .ref h_keySteps, .int h_lent, .int h_rings, .ref h_on, .ref h_onMany, .int h_doors, .ref h_wanted, .ref h_openers, .ref h_seconds, .int h_turned, .int h_roundMany, .ref h_roundDoors])), (h_sixteenths, .inl (cA.1 0, 48, .inl c_h_sixteenths)), (h_featureNames, .inl (cA.1 1, 3, .inr (.inl nw0_1))), (h_steps, .inl (cA.1 0, 3, .inl nw0_4))]) ⟨hx, hb, hml, hown, hts⟩ hK hE hT hP hD hS hA (d_keepAt_3 l G cA h_turnedFeatures c_h_turnedFeatures h_features 0) lk_RX2_126 ⟨rfl, rfl⟩ ⟨Nat.le_of_ble_eq_true rfl, Nat.le_of_ble_eq_true rfl⟩ [1] [0, 2, 3, 4] rfl rfl (by decide) rfl hl.1 rfl (lv_room (Nat.le_of_ble_eq_true rfl)) dX2_addFeature_42 ⟨Nat.le_of_ble_eq_true rfl, Nat.le_of_ble_eq_true rfl⟩ (fun u_11 H locs hw hP hD hS => ?_)
    obtain ⟨nw0_9, rfl⟩ : ∃ z, z = u_11 := ⟨_, rfl⟩
    have hP : va_P G vwCl [(h, .inr (2, [.int h_features, .ref h_featureNames, .ref h_steps, .ref h_turnedFeatures, .ref h_sixteenths, .int h_keys, .ref h_keySteps, .int h_lent, .int h_rings, .ref h_on, .ref h_onMany, .int h_doors, .ref h_wanted, .ref h_openers, .ref h_seconds, .int h_turned, .int h_roundMany, .ref h_roundDoors])), (h_sixteenths, .inl (cA.1 0, 48, .inl c_h_sixteenths)), (h_featureNames, .inl (cA.1 1, 3, .inr (.inl nw0_1))), (h_steps, .inl (cA.1 0, 3, .inl nw0_4)), (h_turnedFeatures, .inl (cA.1 0, 3, .inl nw0_9))] H := hP
    have hD : va_D A [(h, .inr (2, [.int h_features, .ref h_featureNames, .ref h_steps, .ref h_turnedFeatures, .ref h_sixteenths, .int h_keys, .ref h_keySteps, .int h_lent, .int h_rings, .ref h_on, .ref h_onMany, .int h_doors, .ref h_wanted, .ref h_openers, .ref h_seconds, .int h_turned, .int h_roundMany, .ref h_roundDoors])), (h_sixteenths, .inl (cA.1 0, 48, .inl c_h_sixteenths)), (h_featureNames, .inl (cA.1 1, 3, .inr (.inl nw0_1))), (h_steps, .inl (cA.1 0, 3, .inl nw0_4)), (h_turnedFeatures, .inl (cA.1 0, 3, .inl nw0_9))] := hD
    have hx_nw0_9 := hw
    refine lv_aload_n hx hb dX2_addFeature_45 rfl (lv_at hl 0 rfl) ?_
    refine lv_dup hx hb dX2_addFeature_46 rfl ?_
    refine va_get (D := G) (ci := 2) (v := .int h_features) (C := RX2) (T := TX2) (N := 18) hx hb hts inT2 hown hK hP 0 rfl rfl 0 (by decide) (hts _ tw_265) (fun _ h9 => h9) rfl dX2_addFeature_47 ?_
    refine lv_iconst (v := 1) hx hb dX2_addFeature_50 (by decide) ?_
    refine lv_iadd hx hb dX2_addFeature_51 ?_
    refine lv_topi (fun x_12 he_x_12 => ?_)
    have hq_x_12 : x_12.toInt = h_features.toInt + 1 := by rw [he_x_12]; exact z_addI (K := 1) (by decide +kernel) (by omega) (by omega)
    refine va_put (D := G) (ci := 2) (v := .int x_12) (ty := .int) (C := RX2) (T := TX2) (N := 18) hx hb hts inT2 tyX2 tyX2_ok nmX2 hown hK hP hD hS 0 rfl rfl 0 (by decide) (hts _ tw_265) (fun _ h9 => h9) rfl (tyX2_ok 0 (by decide)) rfl rfl (Nat.le_of_ble_eq_true rfl) dX2_addFeature_52 (fun H locs hP hD hS => ?_)
    have hP : va_P G vwCl [(h, .inr (2, [.int x_12, .ref h_featureNames, .ref h_steps, .ref h_turnedFeatures, .ref h_sixteenths, .int h_keys, .ref h_keySteps, .int h_lent, .int h_rings, .ref h_on, .ref h_onMany, .int h_doors, .ref h_wanted, .ref h_openers, .ref h_seconds, .int h_turned, .int h_roundMany, .ref h_roundDoors])), (h_sixteenths, .inl (cA.1 0, 48, .inl c_h_sixteenths)), (h_featureNames, .inl (cA.1 1, 3, .inr (.inl nw0_1))), (h_steps, .inl (cA.1 0, 3, .inl nw0_4)), (h_turnedFeatures, .inl (cA.1 0, 3, .inl nw0_9))] H := hP
    have hD : va_D A [(h, .inr (2, [.int x_12, .ref h_featureNames, .ref h_steps, .ref h_turnedFeatures, .ref h_sixteenths, .int h_keys, .ref h_keySteps, .int h_lent, .int h_rings, .ref h_on, .ref h_onMany, .int h_doors, .ref h_wanted, .ref h_openers, .ref h_seconds, .int h_turned, .int h_roundMany, .ref h_roundDoors])), (h_sixteenths, .inl (cA.1 0, 48, .inl c_h_sixteenths)), (h_featureNames, .inl (cA.1 1, 3, .inr (.inl nw0_1))), (h_steps, .inl (cA.1 0, 3, .inl nw0_4)), (h_turnedFeatures, .inl (cA.1 0, 3, .inl nw0_9))] := hD
    refine lv_iconst (v := 0) hx hb dX2_addFeature_55 (by decide) ?_
    refine lv_istore (lv' := [(5, .int 0), (0, .ref h), (1, .long x), (3, .int y), (4, .int k)]) hx hb dX2_addFeature_56 hl (by decide) rfl (fun ls hl => ?_)
    have hlp_90 : ∀ (n : Nat) (v_88 : Int32) (g_89 : Nat → Int32) (H : Heap) (locs : List Loc) (ls : Array Slot), (2147483647 - v_88.toInt).toNat < n → (0 ≤ v_88.toInt) → va_P G vwCl [(h, .inr (2, [.int x_12, .ref h_featureNames, .ref h_steps, .ref h_turnedFeatures, .ref h_sixteenths, .int h_keys, .ref h_keySteps, .int h_lent, .int h_rings, .ref h_on, .ref h_onMany, .int h_doors, .ref h_wanted, .ref h_openers, .ref h_seconds, .int h_turned, .int h_roundMany, .ref h_roundDoors])), (h_sixteenths, .inl (cA.1 0, 48, .inl g_89)), (h_featureNames, .inl (cA.1 1, 3, .inr (.inl nw0_1))), (h_steps, .inl (cA.1 0, 3, .inl nw0_4)), (h_turnedFeatures, .inl (cA.1 0, 3, .inl nw0_9))] H → va_D A [(h, .inr (2, [.int x_12, .ref h_featureNames, .ref h_steps, .ref h_turnedFeatures, .ref h_sixteenths, .int h_keys, .ref h_keySteps, .int h_lent, .int h_rings, .ref h_on, .ref h_onMany, .int h_doors, .ref h_wanted, .ref h_openers, .ref h_seconds, .int h_turned, .int h_roundMany, .ref h_roundDoors])), (h_sixteenths, .inl (cA.1 0, 48, .inl g_89)), (h_featureNames, .inl (cA.1 1, 3, .inr (.inl nw0_1))), (h_steps, .inl (cA.1 0, 3, .inl nw0_4)), (h_turnedFeatures, .inl (cA.1 0, 3, .inl nw0_9))] → va_S A s.heap H locs → lv_has ls 7 [(0, .ref h), (1, .long x), (3, .int y), (4, .int k), (5, .int v_88)] → W p l e ({ frames := 2, cells := 0, slots := 0, locals := 46 }) s m args below meth c H locs 0 0 Q (F0 m 58 ls []) := by
      intro n
      induction n with
      | zero =>
        intro v_88 g_89 H locs ls hmu_hlp_90 hi_91 hP hD hS hl
        exact absurd hmu_hlp_90 (Nat.not_lt_zero _)
      | succ n ih_92 =>
        intro v_88 g_89 H locs ls hmu_hlp_90 hi_91 hP hD hS hl
        refine lv_iload hx hb dX2_addFeature_58 (lv_at hl 4 rfl) ?_
        refine lv_iconst (v := 4) hx hb dX2_addFeature_60 (by decide) ?_
        refine lv_icmp_ge (tgt := 112) hx hb dX2_addFeature_61 (by decide) (fun c_93 => ?_) (fun c_93 => ?_)
        · have b_94 := z_b1 c_93 (K := 4) (by decide +kernel)
          exact hret _ _ _ _ _ (x_12, nw0_1, nw0_4, nw0_9, g_89) [0, 2, 3, 4, 1] hP hD hS rfl (by decide) dX2_addFeature_112 (by show 0 ≤ x_12.toInt ∧ x_12.toInt ≤ 3; omega)
        · have b_95 := z_b2 c_93 (K := 4) (by decide +kernel)
          refine lv_iconst (v := 0) hx hb dX2_addFeature_64 (by decide) ?_
          refine lv_istore (lv' := [(6, .int 0), (0, .ref h), (1, .long x), (3, .int y), (4, .int k), (5, .int v_88)]) hx hb dX2_addFeature_65 hl (by decide) rfl (fun ls hl => ?_)
          have hlp_121 : ∀ (n : Nat) (v_119 : Int32) (g_120 : Nat → Int32) (H : Heap) (locs : List Loc) (ls : Array Slot), (2147483647 - v_119.toInt).toNat < n → (0 ≤ v_119.toInt) → va_P G vwCl [(h, .inr (2, [.int x_12, .ref h_featureNames, .ref h_steps, .ref h_turnedFeatures, .ref h_sixteenths, .int h_keys, .ref h_keySteps, .int h_lent, .int h_rings, .ref h_on, .ref h_onMany, .int h_doors, .ref h_wanted, .ref h_openers, .ref h_seconds, .int h_turned, .int h_roundMany, .ref h_roundDoors])), (h_sixteenths, .inl (cA.1 0, 48, .inl g_120)), (h_featureNames, .inl (cA.1 1, 3, .inr (.inl nw0_1))), (h_steps, .inl (cA.1 0, 3, .inl nw0_4)), (h_turnedFeatures, .inl (cA.1 0, 3, .inl nw0_9))] H → va_D A [(h, .inr (2, [.int x_12, .ref h_featureNames, .ref h_steps, .ref h_turnedFeatures, .ref h_sixteenths, .int h_keys, .ref h_keySteps, .int h_lent, .int h_rings, .ref h_on, .ref h_onMany, .int h_doors, .ref h_wanted, .ref h_openers, .ref h_seconds, .int h_turned, .int h_roundMany, .ref h_roundDoors])), (h_sixteenths, .inl (cA.1 0, 48, .inl g_120)), (h_featureNames, .inl (cA.1 1, 3, .inr (.inl nw0_1))), (h_steps, .inl (cA.1 0, 3, .inl nw0_4)), (h_turnedFeatures, .inl (cA.1 0, 3, .inl nw0_9))] → va_S A s.heap H locs → lv_has ls 7 [(0, .ref h), (1, .long x), (3, .int y), (4, .int k), (5, .int v_88), (6, .int v_119)] → W p l e ({ frames := 2, cells := 0, slots := 0, locals := 46 }) s m args below meth c H locs 0 0 Q (F0 m 67 ls []) := by
            intro n
            induction n with
            | zero =>
              intro v_119 g_120 H locs ls hmu_hlp_121 hi_122 hP hD hS hl
              exact absurd hmu_hlp_121 (Nat.not_lt_zero _)
            | succ n ih_123 =>
              intro v_119 g_120 H locs ls hmu_hlp_121 hi_122 hP hD hS hl
              refine lv_iload hx hb dX2_addFeature_67 (lv_at hl 5 rfl) ?_
              refine lv_iconst (v := 4) hx hb dX2_addFeature_69 (by decide) ?_
              refine lv_icmp_ge (tgt := 106) hx hb dX2_addFeature_70 (by decide) (fun c_124 => ?_) (fun c_124 => ?_)
              · have b_125 := z_b1 c_124 (K := 4) (by decide +kernel)
                refine lv_iinc (v := (v_88 + 1)) (lv' := [(5, .int (v_88 + 1)), (0, .ref h), (1, .long x), (3, .int y), (4, .int k), (6, .int v_119)]) hx hb dX2_addFeature_106 hl (k := 4) rfl (z_ofi (by decide +kernel)) (by decide) rfl (fun ls hl => ?_)
                refine lv_goto (tgt := 58) hx hb dX2_addFeature_109 (by decide) ?_
                exact ih_92 (v_88 + 1) g_120 H locs ls (z_up hmu_hlp_90 (by omega) trivial) (z_upc hi_91 (by omega) trivial) hP hD hS (lv_sub hl [1, 2, 3, 4, 0] rfl)
              · have b_126 := z_b2 c_124 (K := 4) (by decide +kernel)
                refine lv_aload_n hx hb dX2_addFeature_73 rfl (lv_at hl 0 rfl) ?_
                refine lv_aload_n hx hb dX2_addFeature_74 rfl (lv_at hl 0 rfl) ?_
                refine va_get (D := G) (ci := 2) (v := .int x_12) (C := RX2) (T := TX2) (N := 18) hx hb hts inT2 hown hK hP 0 rfl rfl 0 (by decide) (hts _ tw_265) (fun _ h9 => h9) rfl dX2_addFeature_75 ?_
                refine lv_iconst (v := 1) hx hb dX2_addFeature_78 (by decide) ?_
                refine lv_isub hx hb dX2_addFeature_79 ?_
                refine lv_iload hx hb dX2_addFeature_80 (lv_at hl 4 rfl) ?_
                refine lv_iload hx hb dX2_addFeature_82 (lv_at hl 5 rfl) ?_
                refine lv_iload hx hb dX2_addFeature_84 (lv_at hl 4 rfl) ?_
                refine lv_iload hx hb dX2_addFeature_86 (lv_at hl 5 rfl) ?_
                refine lv_icmp_ne (tgt := 96) hx hb dX2_addFeature_88 (by decide) (fun c_127 => ?_) (fun c_127 => ?_)
                · skip
                  refine lv_iconst (v := 0) hx hb dX2_addFeature_96 (by decide) ?_
                  refine z_callVv (As := [.int (x_12 - 1), .int v_88, .int v_119, .int 0]) (rest := []) (wr := [(h_featureNames, .inl (cA.1 1, 3, .inr (.inl nw0_1))), (h_steps, .inl (cA.1 0, 3, .inl nw0_4)), (h_turnedFeatures, .inl (cA.1 0, 3, .inl nw0_9))]) ⟨hx, hb, hml, hown, hts⟩ hK hE hT hP hD hS hA (d_H_setFeltAs l G cA h x_12 h_featureNames h_steps h_turnedFeatures h_sixteenths h_keys h_keySteps h_lent h_rings h_on h_onMany h_doors h_wanted h_openers h_seconds h_turned h_roundMany h_roundDoors g_120 (x_12 - 1) v_88 v_119 0 (by omega)) lk_RX2_141 ⟨rfl, rfl⟩ ⟨Nat.le_of_ble_eq_true rfl, Nat.le_of_ble_eq_true rfl⟩ 2 rfl rfl rfl [0, 1] [2, 3, 4] rfl rfl (by decide) rfl hl.1 rfl (lv_room (Nat.le_of_ble_eq_true rfl)) dX2_addFeature_97 ⟨Nat.le_of_ble_eq_true rfl, Nat.le_of_ble_eq_true rfl⟩ (fun u_131 H locs hw hP hD hS => ?_)
                  obtain ⟨nw0_129, rfl⟩ : ∃ z, z = u_131 := ⟨_, rfl⟩
                  have hP : va_P G vwCl [(h_featureNames, .inl (cA.1 1, 3, .inr (.inl nw0_1))), (h_steps, .inl (cA.1 0, 3, .inl nw0_4)), (h_turnedFeatures, .inl (cA.1 0, 3, .inl nw0_9)), (h, .inr (2, [.int x_12, .ref h_featureNames, .ref h_steps, .ref h_turnedFeatures, .ref h_sixteenths, .int h_keys, .ref h_keySteps, .int h_lent, .int h_rings, .ref h_on, .ref h_onMany, .int h_doors, .ref h_wanted, .ref h_openers, .ref h_seconds, .int h_turned, .int h_roundMany, .ref h_roundDoors])), (h_sixteenths, .inl (cA.1 0, 48, .inl nw0_129))] H := hP
                  have hD : va_D A [(h_featureNames, .inl (cA.1 1, 3, .inr (.inl nw0_1))), (h_steps, .inl (cA.1 0, 3, .inl nw0_4)), (h_turnedFeatures, .inl (cA.1 0, 3, .inl nw0_9)), (h, .inr (2, [.int x_12, .ref h_featureNames, .ref h_steps, .ref h_turnedFeatures, .ref h_sixteenths, .int h_keys, .ref h_keySteps, .int h_lent, .int h_rings, .ref h_on, .ref h_onMany, .int h_doors, .ref h_wanted, .ref h_openers, .ref h_seconds, .int h_turned, .int h_roundMany, .ref h_roundDoors])), (h_sixteenths, .inl (cA.1 0, 48, .inl nw0_129))] := hD
                  refine lv_iinc (v := (v_119 + 1)) (lv' := [(6, .int (v_119 + 1)), (0, .ref h), (1, .long x), (3, .int y), (4, .int k), (5, .int v_88)]) hx hb dX2_addFeature_100 hl (k := 5) rfl (z_ofi (by decide +kernel)) (by decide) rfl (fun ls hl => ?_)
                  refine lv_goto (tgt := 67) hx hb dX2_addFeature_103 (by decide) ?_
                  have hP := hP.sub (ws' := [(h, .inr (2, [.int x_12, .ref h_featureNames, .ref h_steps, .ref h_turnedFeatures, .ref h_sixteenths, .int h_keys, .ref h_keySteps, .int h_lent, .int h_rings, .ref h_on, .ref h_onMany, .int h_doors, .ref h_wanted, .ref h_openers, .ref h_seconds, .int h_turned, .int h_roundMany, .ref h_roundDoors])), (h_sixteenths, .inl (cA.1 0, 48, .inl nw0_129)), (h_featureNames, .inl (cA.1 1, 3, .inr (.inl nw0_1))), (h_steps, .inl (cA.1 0, 3, .inl nw0_4)), (h_turnedFeatures, .inl (cA.1 0, 3, .inl nw0_9))]) [3, 4, 0, 1, 2] rfl
                  have hD := hD.sub (ws' := [(h, .inr (2, [.int x_12, .ref h_featureNames, .ref h_steps, .ref h_turnedFeatures, .ref h_sixteenths, .int h_keys, .ref h_keySteps, .int h_lent, .int h_rings, .ref h_on, .ref h_onMany, .int h_doors, .ref h_wanted, .ref h_openers, .ref h_seconds, .int h_turned, .int h_roundMany, .ref h_roundDoors])), (h_sixteenths, .inl (cA.1 0, 48, .inl nw0_129)), (h_featureNames, .inl (cA.1 1, 3, .inr (.inl nw0_1))), (h_steps, .inl (cA.1 0, 3, .inl nw0_4)), (h_turnedFeatures, .inl (cA.1 0, 3, .inl nw0_9))]) [3, 4, 0, 1, 2] (by decide) rfl
                  exact ih_123 (v_119 + 1) nw0_129 H locs ls (z_up hmu_hlp_121 (by omega) trivial) (z_upc hi_122 (by omega) trivial) hP hD hS (lv_sub hl [1, 2, 3, 4, 5, 0] rfl)
                · skip
                  refine lv_bipush (v := 16) hx hb dX2_addFeature_91 (by decide) ?_
                  refine lv_goto (tgt := 97) hx hb dX2_addFeature_93 (by decide) ?_
                  refine z_callVv (As := [.int (x_12 - 1), .int v_88, .int v_119, .int 16]) (rest := []) (wr := [(h_featureNames, .inl (cA.1 1, 3, .inr (.inl nw0_1))), (h_steps, .inl (cA.1 0, 3, .inl nw0_4)), (h_turnedFeatures, .inl (cA.1 0, 3, .inl nw0_9))]) ⟨hx, hb, hml, hown, hts⟩ hK hE hT hP hD hS hA (d_H_setFeltAs l G cA h x_12 h_featureNames h_steps h_turnedFeatures h_sixteenths h_keys h_keySteps h_lent h_rings h_on h_onMany h_doors h_wanted h_openers h_seconds h_turned h_roundMany h_roundDoors g_120 (x_12 - 1) v_88 v_119 16 (by omega)) lk_RX2_141 ⟨rfl, rfl⟩ ⟨Nat.le_of_ble_eq_true rfl, Nat.le_of_ble_eq_true rfl⟩ 2 rfl rfl rfl [0, 1] [2, 3, 4] rfl rfl (by decide) rfl hl.1 rfl (lv_room (Nat.le_of_ble_eq_true rfl)) dX2_addFeature_97 ⟨Nat.le_of_ble_eq_true rfl, Nat.le_of_ble_eq_true rfl⟩ (fun u_135 H locs hw hP hD hS => ?_)
                  obtain ⟨nw0_133, rfl⟩ : ∃ z, z = u_135 := ⟨_, rfl⟩
                  have hP : va_P G vwCl [(h_featureNames, .inl (cA.1 1, 3, .inr (.inl nw0_1))), (h_steps, .inl (cA.1 0, 3, .inl nw0_4)), (h_turnedFeatures, .inl (cA.1 0, 3, .inl nw0_9)), (h, .inr (2, [.int x_12, .ref h_featureNames, .ref h_steps, .ref h_turnedFeatures, .ref h_sixteenths, .int h_keys, .ref h_keySteps, .int h_lent, .int h_rings, .ref h_on, .ref h_onMany, .int h_doors, .ref h_wanted, .ref h_openers, .ref h_seconds, .int h_turned, .int h_roundMany, .ref h_roundDoors])), (h_sixteenths, .inl (cA.1 0, 48, .inl nw0_133))] H := hP
                  have hD : va_D A [(h_featureNames, .inl (cA.1 1, 3, .inr (.inl nw0_1))), (h_steps, .inl (cA.1 0, 3, .inl nw0_4)), (h_turnedFeatures, .inl (cA.1 0, 3, .inl nw0_9)), (h, .inr (2, [.int x_12, .ref h_featureNames, .ref h_steps, .ref h_turnedFeatures, .ref h_sixteenths, .int h_keys, .ref h_keySteps, .int h_lent, .int h_rings, .ref h_on, .ref h_onMany, .int h_doors, .ref h_wanted, .ref h_openers, .ref h_seconds, .int h_turned, .int h_roundMany, .ref h_roundDoors])), (h_sixteenths, .inl (cA.1 0, 48, .inl nw0_133))] := hD
                  refine lv_iinc (v := (v_119 + 1)) (lv' := [(6, .int (v_119 + 1)), (0, .ref h), (1, .long x), (3, .int y), (4, .int k), (5, .int v_88)]) hx hb dX2_addFeature_100 hl (k := 5) rfl (z_ofi (by decide +kernel)) (by decide) rfl (fun ls hl => ?_)
                  refine lv_goto (tgt := 67) hx hb dX2_addFeature_103 (by decide) ?_
                  have hP := hP.sub (ws' := [(h, .inr (2, [.int x_12, .ref h_featureNames, .ref h_steps, .ref h_turnedFeatures, .ref h_sixteenths, .int h_keys, .ref h_keySteps, .int h_lent, .int h_rings, .ref h_on, .ref h_onMany, .int h_doors, .ref h_wanted, .ref h_openers, .ref h_seconds, .int h_turned, .int h_roundMany, .ref h_roundDoors])), (h_sixteenths, .inl (cA.1 0, 48, .inl nw0_133)), (h_featureNames, .inl (cA.1 1, 3, .inr (.inl nw0_1))), (h_steps, .inl (cA.1 0, 3, .inl nw0_4)), (h_turnedFeatures, .inl (cA.1 0, 3, .inl nw0_9))]) [3, 4, 0, 1, 2] rfl
                  have hD := hD.sub (ws' := [(h, .inr (2, [.int x_12, .ref h_featureNames, .ref h_steps, .ref h_turnedFeatures, .ref h_sixteenths, .int h_keys, .ref h_keySteps, .int h_lent, .int h_rings, .ref h_on, .ref h_onMany, .int h_doors, .ref h_wanted, .ref h_openers, .ref h_seconds, .int h_turned, .int h_roundMany, .ref h_roundDoors])), (h_sixteenths, .inl (cA.1 0, 48, .inl nw0_133)), (h_featureNames, .inl (cA.1 1, 3, .inr (.inl nw0_1))), (h_steps, .inl (cA.1 0, 3, .inl nw0_4)), (h_turnedFeatures, .inl (cA.1 0, 3, .inl nw0_9))]) [3, 4, 0, 1, 2] (by decide) rfl
                  exact ih_123 (v_119 + 1) nw0_133 H locs ls (z_up hmu_hlp_121 (by omega) trivial) (z_upc hi_122 (by omega) trivial) hP hD hS (lv_sub hl [1, 2, 3, 4, 5, 0] rfl)
          exact hlp_121 _ 0 g_89 _ _ _ (Nat.lt_succ_self _) (by first | decide +kernel | omega) hP hD hS (lv_sub hl [1, 2, 3, 4, 5, 0] rfl)
    exact hlp_90 _ 0 c_h_sixteenths _ _ _ (Nat.lt_succ_self _) (by first | decide +kernel | omega) hP hD hS (lv_sub hl [1, 2, 3, 4, 0] rfl)
  · skip
    refine lv_iconst (v := 1) hx hb dX2_addFeature_37 (by decide) ?_
    refine lv_goto (tgt := 42) hx hb dX2_addFeature_38 (by decide) ?_
    refine z_callSNv (As := [.ref h_turnedFeatures, .int h_features, .int 1]) (rest := []) (wr := [(h, .inr (2, [.int h_features, .ref h_featureNames, .ref h_steps, .ref h_turnedFeatures, .ref h_sixteenths, .int h_keys, .ref h_keySteps, .int h_lent, .int h_rings, .ref h_on, .ref h_onMany, .int h_doors, .ref h_wanted, .ref h_openers, .ref h_seconds, .int h_turned, .int h_roundMany, .ref h_roundDoors])), (h_sixteenths, .inl (cA.1 0, 48, .inl c_h_sixteenths)), (h_featureNames, .inl (cA.1 1, 3, .inr (.inl nw0_1))), (h_steps, .inl (cA.1 0, 3, .inl nw0_4))]) ⟨hx, hb, hml, hown, hts⟩ hK hE hT hP hD hS hA (d_keepAt_3 l G cA h_turnedFeatures c_h_turnedFeatures h_features 1) lk_RX2_126 ⟨rfl, rfl⟩ ⟨Nat.le_of_ble_eq_true rfl, Nat.le_of_ble_eq_true rfl⟩ [1] [0, 2, 3, 4] rfl rfl (by decide) rfl hl.1 rfl (lv_room (Nat.le_of_ble_eq_true rfl)) dX2_addFeature_42 ⟨Nat.le_of_ble_eq_true rfl, Nat.le_of_ble_eq_true rfl⟩ (fun u_139 H locs hw hP hD hS => ?_)
    obtain ⟨nw0_137, rfl⟩ : ∃ z, z = u_139 := ⟨_, rfl⟩
    have hP : va_P G vwCl [(h, .inr (2, [.int h_features, .ref h_featureNames, .ref h_steps, .ref h_turnedFeatures, .ref h_sixteenths, .int h_keys, .ref h_keySteps, .int h_lent, .int h_rings, .ref h_on, .ref h_onMany, .int h_doors, .ref h_wanted, .ref h_openers, .ref h_seconds, .int h_turned, .int h_roundMany, .ref h_roundDoors])), (h_sixteenths, .inl (cA.1 0, 48, .inl c_h_sixteenths)), (h_featureNames, .inl (cA.1 1, 3, .inr (.inl nw0_1))), (h_steps, .inl (cA.1 0, 3, .inl nw0_4)), (h_turnedFeatures, .inl (cA.1 0, 3, .inl nw0_137))] H := hP
    have hD : va_D A [(h, .inr (2, [.int h_features, .ref h_featureNames, .ref h_steps, .ref h_turnedFeatures, .ref h_sixteenths, .int h_keys, .ref h_keySteps, .int h_lent, .int h_rings, .ref h_on, .ref h_onMany, .int h_doors, .ref h_wanted, .ref h_openers, .ref h_seconds, .int h_turned, .int h_roundMany, .ref h_roundDoors])), (h_sixteenths, .inl (cA.1 0, 48, .inl c_h_sixteenths)), (h_featureNames, .inl (cA.1 1, 3, .inr (.inl nw0_1))), (h_steps, .inl (cA.1 0, 3, .inl nw0_4)), (h_turnedFeatures, .inl (cA.1 0, 3, .inl nw0_137))] := hD
    have hx_nw0_137 := hw
    refine lv_aload_n hx hb dX2_addFeature_45 rfl (lv_at hl 0 rfl) ?_
    refine lv_dup hx hb dX2_addFeature_46 rfl ?_
    refine va_get (D := G) (ci := 2) (v := .int h_features) (C := RX2) (T := TX2) (N := 18) hx hb hts inT2 hown hK hP 0 rfl rfl 0 (by decide) (hts _ tw_265) (fun _ h9 => h9) rfl dX2_addFeature_47 ?_
    refine lv_iconst (v := 1) hx hb dX2_addFeature_50 (by decide) ?_
    refine lv_iadd hx hb dX2_addFeature_51 ?_
    refine lv_topi (fun x_140 he_x_140 => ?_)
    have hq_x_140 : x_140.toInt = h_features.toInt + 1 := by rw [he_x_140]; exact z_addI (K := 1) (by decide +kernel) (by omega) (by omega)
    refine va_put (D := G) (ci := 2) (v := .int x_140) (ty := .int) (C := RX2) (T := TX2) (N := 18) hx hb hts inT2 tyX2 tyX2_ok nmX2 hown hK hP hD hS 0 rfl rfl 0 (by decide) (hts _ tw_265) (fun _ h9 => h9) rfl (tyX2_ok 0 (by decide)) rfl rfl (Nat.le_of_ble_eq_true rfl) dX2_addFeature_52 (fun H locs hP hD hS => ?_)
    have hP : va_P G vwCl [(h, .inr (2, [.int x_140, .ref h_featureNames, .ref h_steps, .ref h_turnedFeatures, .ref h_sixteenths, .int h_keys, .ref h_keySteps, .int h_lent, .int h_rings, .ref h_on, .ref h_onMany, .int h_doors, .ref h_wanted, .ref h_openers, .ref h_seconds, .int h_turned, .int h_roundMany, .ref h_roundDoors])), (h_sixteenths, .inl (cA.1 0, 48, .inl c_h_sixteenths)), (h_featureNames, .inl (cA.1 1, 3, .inr (.inl nw0_1))), (h_steps, .inl (cA.1 0, 3, .inl nw0_4)), (h_turnedFeatures, .inl (cA.1 0, 3, .inl nw0_137))] H := hP
    have hD : va_D A [(h, .inr (2, [.int x_140, .ref h_featureNames, .ref h_steps, .ref h_turnedFeatures, .ref h_sixteenths, .int h_keys, .ref h_keySteps, .int h_lent, .int h_rings, .ref h_on, .ref h_onMany, .int h_doors, .ref h_wanted, .ref h_openers, .ref h_seconds, .int h_turned, .int h_roundMany, .ref h_roundDoors])), (h_sixteenths, .inl (cA.1 0, 48, .inl c_h_sixteenths)), (h_featureNames, .inl (cA.1 1, 3, .inr (.inl nw0_1))), (h_steps, .inl (cA.1 0, 3, .inl nw0_4)), (h_turnedFeatures, .inl (cA.1 0, 3, .inl nw0_137))] := hD
    refine lv_iconst (v := 0) hx hb dX2_addFeature_55 (by decide) ?_
    refine lv_istore (lv' := [(5, .int 0), (0, .ref h), (1, .long x), (3, .int y), (4, .int k)]) hx hb dX2_addFeature_56 hl (by decide) rfl (fun ls hl => ?_)
    have hlp_218 : ∀ (n : Nat) (v_216 : Int32) (g_217 : Nat → Int32) (H : Heap) (locs : List Loc) (ls : Array Slot), (2147483647 - v_216.toInt).toNat < n → (0 ≤ v_216.toInt) → va_P G vwCl [(h, .inr (2, [.int x_140, .ref h_featureNames, .ref h_steps, .ref h_turnedFeatures, .ref h_sixteenths, .int h_keys, .ref h_keySteps, .int h_lent, .int h_rings, .ref h_on, .ref h_onMany, .int h_doors, .ref h_wanted, .ref h_openers, .ref h_seconds, .int h_turned, .int h_roundMany, .ref h_roundDoors])), (h_sixteenths, .inl (cA.1 0, 48, .inl g_217)), (h_featureNames, .inl (cA.1 1, 3, .inr (.inl nw0_1))), (h_steps, .inl (cA.1 0, 3, .inl nw0_4)), (h_turnedFeatures, .inl (cA.1 0, 3, .inl nw0_137))] H → va_D A [(h, .inr (2, [.int x_140, .ref h_featureNames, .ref h_steps, .ref h_turnedFeatures, .ref h_sixteenths, .int h_keys, .ref h_keySteps, .int h_lent, .int h_rings, .ref h_on, .ref h_onMany, .int h_doors, .ref h_wanted, .ref h_openers, .ref h_seconds, .int h_turned, .int h_roundMany, .ref h_roundDoors])), (h_sixteenths, .inl (cA.1 0, 48, .inl g_217)), (h_featureNames, .inl (cA.1 1, 3, .inr (.inl nw0_1))), (h_steps, .inl (cA.1 0, 3, .inl nw0_4)), (h_turnedFeatures, .inl (cA.1 0, 3, .inl nw0_137))] → va_S A s.heap H locs → lv_has ls 7 [(0, .ref h), (1, .long x), (3, .int y), (4, .int k), (5, .int v_216)] → W p l e ({ frames := 2, cells := 0, slots := 0, locals := 46 }) s m args below meth c H locs 0 0 Q (F0 m 58 ls []) := by
      intro n
      induction n with
      | zero =>
        intro v_216 g_217 H locs ls hmu_hlp_218 hi_219 hP hD hS hl
        exact absurd hmu_hlp_218 (Nat.not_lt_zero _)
      | succ n ih_220 =>
        intro v_216 g_217 H locs ls hmu_hlp_218 hi_219 hP hD hS hl
        refine lv_iload hx hb dX2_addFeature_58 (lv_at hl 4 rfl) ?_
        refine lv_iconst (v := 4) hx hb dX2_addFeature_60 (by decide) ?_
        refine lv_icmp_ge (tgt := 112) hx hb dX2_addFeature_61 (by decide) (fun c_221 => ?_) (fun c_221 => ?_)
        · have b_222 := z_b1 c_221 (K := 4) (by decide +kernel)
          exact hret _ _ _ _ _ (x_140, nw0_1, nw0_4, nw0_137, g_217) [0, 2, 3, 4, 1] hP hD hS rfl (by decide) dX2_addFeature_112 (by show 0 ≤ x_140.toInt ∧ x_140.toInt ≤ 3; omega)
        · have b_223 := z_b2 c_221 (K := 4) (by decide +kernel)
          refine lv_iconst (v := 0) hx hb dX2_addFeature_64 (by decide) ?_
          refine lv_istore (lv' := [(6, .int 0), (0, .ref h), (1, .long x), (3, .int y), (4, .int k), (5, .int v_216)]) hx hb dX2_addFeature_65 hl (by decide) rfl (fun ls hl => ?_)
          have hlp_249 : ∀ (n : Nat) (v_247 : Int32) (g_248 : Nat → Int32) (H : Heap) (locs : List Loc) (ls : Array Slot), (2147483647 - v_247.toInt).toNat < n → (0 ≤ v_247.toInt) → va_P G vwCl [(h, .inr (2, [.int x_140, .ref h_featureNames, .ref h_steps, .ref h_turnedFeatures, .ref h_sixteenths, .int h_keys, .ref h_keySteps, .int h_lent, .int h_rings, .ref h_on, .ref h_onMany, .int h_doors, .ref h_wanted, .ref h_openers, .ref h_seconds, .int h_turned, .int h_roundMany, .ref h_roundDoors])), (h_sixteenths, .inl (cA.1 0, 48, .inl g_248)), (h_featureNames, .inl (cA.1 1, 3, .inr (.inl nw0_1))), (h_steps, .inl (cA.1 0, 3, .inl nw0_4)), (h_turnedFeatures, .inl (cA.1 0, 3, .inl nw0_137))] H → va_D A [(h, .inr (2, [.int x_140, .ref h_featureNames, .ref h_steps, .ref h_turnedFeatures, .ref h_sixteenths, .int h_keys, .ref h_keySteps, .int h_lent, .int h_rings, .ref h_on, .ref h_onMany, .int h_doors, .ref h_wanted, .ref h_openers, .ref h_seconds, .int h_turned, .int h_roundMany, .ref h_roundDoors])), (h_sixteenths, .inl (cA.1 0, 48, .inl g_248)), (h_featureNames, .inl (cA.1 1, 3, .inr (.inl nw0_1))), (h_steps, .inl (cA.1 0, 3, .inl nw0_4)), (h_turnedFeatures, .inl (cA.1 0, 3, .inl nw0_137))] → va_S A s.heap H locs → lv_has ls 7 [(0, .ref h), (1, .long x), (3, .int y), (4, .int k), (5, .int v_216), (6, .int v_247)] → W p l e ({ frames := 2, cells := 0, slots := 0, locals := 46 }) s m args below meth c H locs 0 0 Q (F0 m 67 ls []) := by
            intro n
            induction n with
            | zero =>
              intro v_247 g_248 H locs ls hmu_hlp_249 hi_250 hP hD hS hl
              exact absurd hmu_hlp_249 (Nat.not_lt_zero _)
            | succ n ih_251 =>
              intro v_247 g_248 H locs ls hmu_hlp_249 hi_250 hP hD hS hl
              refine lv_iload hx hb dX2_addFeature_67 (lv_at hl 5 rfl) ?_
              refine lv_iconst (v := 4) hx hb dX2_addFeature_69 (by decide) ?_
              refine lv_icmp_ge (tgt := 106) hx hb dX2_addFeature_70 (by decide) (fun c_252 => ?_) (fun c_252 => ?_)
              · have b_253 := z_b1 c_252 (K := 4) (by decide +kernel)
                refine lv_iinc (v := (v_216 + 1)) (lv' := [(5, .int (v_216 + 1)), (0, .ref h), (1, .long x), (3, .int y), (4, .int k), (6, .int v_247)]) hx hb dX2_addFeature_106 hl (k := 4) rfl (z_ofi (by decide +kernel)) (by decide) rfl (fun ls hl => ?_)
                refine lv_goto (tgt := 58) hx hb dX2_addFeature_109 (by decide) ?_
                exact ih_220 (v_216 + 1) g_248 H locs ls (z_up hmu_hlp_218 (by omega) trivial) (z_upc hi_219 (by omega) trivial) hP hD hS (lv_sub hl [1, 2, 3, 4, 0] rfl)
              · have b_254 := z_b2 c_252 (K := 4) (by decide +kernel)
                refine lv_aload_n hx hb dX2_addFeature_73 rfl (lv_at hl 0 rfl) ?_
                refine lv_aload_n hx hb dX2_addFeature_74 rfl (lv_at hl 0 rfl) ?_
                refine va_get (D := G) (ci := 2) (v := .int x_140) (C := RX2) (T := TX2) (N := 18) hx hb hts inT2 hown hK hP 0 rfl rfl 0 (by decide) (hts _ tw_265) (fun _ h9 => h9) rfl dX2_addFeature_75 ?_
                refine lv_iconst (v := 1) hx hb dX2_addFeature_78 (by decide) ?_
                refine lv_isub hx hb dX2_addFeature_79 ?_
                refine lv_iload hx hb dX2_addFeature_80 (lv_at hl 4 rfl) ?_
                refine lv_iload hx hb dX2_addFeature_82 (lv_at hl 5 rfl) ?_
                refine lv_iload hx hb dX2_addFeature_84 (lv_at hl 4 rfl) ?_
                refine lv_iload hx hb dX2_addFeature_86 (lv_at hl 5 rfl) ?_
                refine lv_icmp_ne (tgt := 96) hx hb dX2_addFeature_88 (by decide) (fun c_255 => ?_) (fun c_255 => ?_)
                · skip
                  refine lv_iconst (v := 0) hx hb dX2_addFeature_96 (by decide) ?_
                  refine z_callVv (As := [.int (x_140 - 1), .int v_216, .int v_247, .int 0]) (rest := []) (wr := [(h_featureNames, .inl (cA.1 1, 3, .inr (.inl nw0_1))), (h_steps, .inl (cA.1 0, 3, .inl nw0_4)), (h_turnedFeatures, .inl (cA.1 0, 3, .inl nw0_137))]) ⟨hx, hb, hml, hown, hts⟩ hK hE hT hP hD hS hA (d_H_setFeltAs l G cA h x_140 h_featureNames h_steps h_turnedFeatures h_sixteenths h_keys h_keySteps h_lent h_rings h_on h_onMany h_doors h_wanted h_openers h_seconds h_turned h_roundMany h_roundDoors g_248 (x_140 - 1) v_216 v_247 0 (by omega)) lk_RX2_141 ⟨rfl, rfl⟩ ⟨Nat.le_of_ble_eq_true rfl, Nat.le_of_ble_eq_true rfl⟩ 2 rfl rfl rfl [0, 1] [2, 3, 4] rfl rfl (by decide) rfl hl.1 rfl (lv_room (Nat.le_of_ble_eq_true rfl)) dX2_addFeature_97 ⟨Nat.le_of_ble_eq_true rfl, Nat.le_of_ble_eq_true rfl⟩ (fun u_259 H locs hw hP hD hS => ?_)
                  obtain ⟨nw0_257, rfl⟩ : ∃ z, z = u_259 := ⟨_, rfl⟩
                  have hP : va_P G vwCl [(h_featureNames, .inl (cA.1 1, 3, .inr (.inl nw0_1))), (h_steps, .inl (cA.1 0, 3, .inl nw0_4)), (h_turnedFeatures, .inl (cA.1 0, 3, .inl nw0_137)), (h, .inr (2, [.int x_140, .ref h_featureNames, .ref h_steps, .ref h_turnedFeatures, .ref h_sixteenths, .int h_keys, .ref h_keySteps, .int h_lent, .int h_rings, .ref h_on, .ref h_onMany, .int h_doors, .ref h_wanted, .ref h_openers, .ref h_seconds, .int h_turned, .int h_roundMany, .ref h_roundDoors])), (h_sixteenths, .inl (cA.1 0, 48, .inl nw0_257))] H := hP
                  have hD : va_D A [(h_featureNames, .inl (cA.1 1, 3, .inr (.inl nw0_1))), (h_steps, .inl (cA.1 0, 3, .inl nw0_4)), (h_turnedFeatures, .inl (cA.1 0, 3, .inl nw0_137)), (h, .inr (2, [.int x_140, .ref h_featureNames, .ref h_steps, .ref h_turnedFeatures, .ref h_sixteenths, .int h_keys, .ref h_keySteps, .int h_lent, .int h_rings, .ref h_on, .ref h_onMany, .int h_doors, .ref h_wanted, .ref h_openers, .ref h_seconds, .int h_turned, .int h_roundMany, .ref h_roundDoors])), (h_sixteenths, .inl (cA.1 0, 48, .inl nw0_257))] := hD
                  refine lv_iinc (v := (v_247 + 1)) (lv' := [(6, .int (v_247 + 1)), (0, .ref h), (1, .long x), (3, .int y), (4, .int k), (5, .int v_216)]) hx hb dX2_addFeature_100 hl (k := 5) rfl (z_ofi (by decide +kernel)) (by decide) rfl (fun ls hl => ?_)
                  refine lv_goto (tgt := 67) hx hb dX2_addFeature_103 (by decide) ?_
                  have hP := hP.sub (ws' := [(h, .inr (2, [.int x_140, .ref h_featureNames, .ref h_steps, .ref h_turnedFeatures, .ref h_sixteenths, .int h_keys, .ref h_keySteps, .int h_lent, .int h_rings, .ref h_on, .ref h_onMany, .int h_doors, .ref h_wanted, .ref h_openers, .ref h_seconds, .int h_turned, .int h_roundMany, .ref h_roundDoors])), (h_sixteenths, .inl (cA.1 0, 48, .inl nw0_257)), (h_featureNames, .inl (cA.1 1, 3, .inr (.inl nw0_1))), (h_steps, .inl (cA.1 0, 3, .inl nw0_4)), (h_turnedFeatures, .inl (cA.1 0, 3, .inl nw0_137))]) [3, 4, 0, 1, 2] rfl
                  have hD := hD.sub (ws' := [(h, .inr (2, [.int x_140, .ref h_featureNames, .ref h_steps, .ref h_turnedFeatures, .ref h_sixteenths, .int h_keys, .ref h_keySteps, .int h_lent, .int h_rings, .ref h_on, .ref h_onMany, .int h_doors, .ref h_wanted, .ref h_openers, .ref h_seconds, .int h_turned, .int h_roundMany, .ref h_roundDoors])), (h_sixteenths, .inl (cA.1 0, 48, .inl nw0_257)), (h_featureNames, .inl (cA.1 1, 3, .inr (.inl nw0_1))), (h_steps, .inl (cA.1 0, 3, .inl nw0_4)), (h_turnedFeatures, .inl (cA.1 0, 3, .inl nw0_137))]) [3, 4, 0, 1, 2] (by decide) rfl
                  exact ih_251 (v_247 + 1) nw0_257 H locs ls (z_up hmu_hlp_249 (by omega) trivial) (z_upc hi_250 (by omega) trivial) hP hD hS (lv_sub hl [1, 2, 3, 4, 5, 0] rfl)
                · skip
                  refine lv_bipush (v := 16) hx hb dX2_addFeature_91 (by decide) ?_
                  refine lv_goto (tgt := 97) hx hb dX2_addFeature_93 (by decide) ?_
                  refine z_callVv (As := [.int (x_140 - 1), .int v_216, .int v_247, .int 16]) (rest := []) (wr := [(h_featureNames, .inl (cA.1 1, 3, .inr (.inl nw0_1))), (h_steps, .inl (cA.1 0, 3, .inl nw0_4)), (h_turnedFeatures, .inl (cA.1 0, 3, .inl nw0_137))]) ⟨hx, hb, hml, hown, hts⟩ hK hE hT hP hD hS hA (d_H_setFeltAs l G cA h x_140 h_featureNames h_steps h_turnedFeatures h_sixteenths h_keys h_keySteps h_lent h_rings h_on h_onMany h_doors h_wanted h_openers h_seconds h_turned h_roundMany h_roundDoors g_248 (x_140 - 1) v_216 v_247 16 (by omega)) lk_RX2_141 ⟨rfl, rfl⟩ ⟨Nat.le_of_ble_eq_true rfl, Nat.le_of_ble_eq_true rfl⟩ 2 rfl rfl rfl [0, 1] [2, 3, 4] rfl rfl (by decide) rfl hl.1 rfl (lv_room (Nat.le_of_ble_eq_true rfl)) dX2_addFeature_97 ⟨Nat.le_of_ble_eq_true rfl, Nat.le_of_ble_eq_true rfl⟩ (fun u_263 H locs hw hP hD hS => ?_)
                  obtain ⟨nw0_261, rfl⟩ : ∃ z, z = u_263 := ⟨_, rfl⟩
                  have hP : va_P G vwCl [(h_featureNames, .inl (cA.1 1, 3, .inr (.inl nw0_1))), (h_steps, .inl (cA.1 0, 3, .inl nw0_4)), (h_turnedFeatures, .inl (cA.1 0, 3, .inl nw0_137)), (h, .inr (2, [.int x_140, .ref h_featureNames, .ref h_steps, .ref h_turnedFeatures, .ref h_sixteenths, .int h_keys, .ref h_keySteps, .int h_lent, .int h_rings, .ref h_on, .ref h_onMany, .int h_doors, .ref h_wanted, .ref h_openers, .ref h_seconds, .int h_turned, .int h_roundMany, .ref h_roundDoors])), (h_sixteenths, .inl (cA.1 0, 48, .inl nw0_261))] H := hP
                  have hD : va_D A [(h_featureNames, .inl (cA.1 1, 3, .inr (.inl nw0_1))), (h_steps, .inl (cA.1 0, 3, .inl nw0_4)), (h_turnedFeatures, .inl (cA.1 0, 3, .inl nw0_137)), (h, .inr (2, [.int x_140, .ref h_featureNames, .ref h_steps, .ref h_turnedFeatures, .ref h_sixteenths, .int h_keys, .ref h_keySteps, .int h_lent, .int h_rings, .ref h_on, .ref h_onMany, .int h_doors, .ref h_wanted, .ref h_openers, .ref h_seconds, .int h_turned, .int h_roundMany, .ref h_roundDoors])), (h_sixteenths, .inl (cA.1 0, 48, .inl nw0_261))] := hD
                  refine lv_iinc (v := (v_247 + 1)) (lv' := [(6, .int (v_247 + 1)), (0, .ref h), (1, .long x), (3, .int y), (4, .int k), (5, .int v_216)]) hx hb dX2_addFeature_100 hl (k := 5) rfl (z_ofi (by decide +kernel)) (by decide) rfl (fun ls hl => ?_)
                  refine lv_goto (tgt := 67) hx hb dX2_addFeature_103 (by decide) ?_
                  have hP := hP.sub (ws' := [(h, .inr (2, [.int x_140, .ref h_featureNames, .ref h_steps, .ref h_turnedFeatures, .ref h_sixteenths, .int h_keys, .ref h_keySteps, .int h_lent, .int h_rings, .ref h_on, .ref h_onMany, .int h_doors, .ref h_wanted, .ref h_openers, .ref h_seconds, .int h_turned, .int h_roundMany, .ref h_roundDoors])), (h_sixteenths, .inl (cA.1 0, 48, .inl nw0_261)), (h_featureNames, .inl (cA.1 1, 3, .inr (.inl nw0_1))), (h_steps, .inl (cA.1 0, 3, .inl nw0_4)), (h_turnedFeatures, .inl (cA.1 0, 3, .inl nw0_137))]) [3, 4, 0, 1, 2] rfl
                  have hD := hD.sub (ws' := [(h, .inr (2, [.int x_140, .ref h_featureNames, .ref h_steps, .ref h_turnedFeatures, .ref h_sixteenths, .int h_keys, .ref h_keySteps, .int h_lent, .int h_rings, .ref h_on, .ref h_onMany, .int h_doors, .ref h_wanted, .ref h_openers, .ref h_seconds, .int h_turned, .int h_roundMany, .ref h_roundDoors])), (h_sixteenths, .inl (cA.1 0, 48, .inl nw0_261)), (h_featureNames, .inl (cA.1 1, 3, .inr (.inl nw0_1))), (h_steps, .inl (cA.1 0, 3, .inl nw0_4)), (h_turnedFeatures, .inl (cA.1 0, 3, .inl nw0_137))]) [3, 4, 0, 1, 2] (by decide) rfl
                  exact ih_251 (v_247 + 1) nw0_261 H locs ls (z_up hmu_hlp_249 (by omega) trivial) (z_upc hi_250 (by omega) trivial) hP hD hS (lv_sub hl [1, 2, 3, 4, 5, 0] rfl)
          exact hlp_249 _ 0 g_217 _ _ _ (Nat.lt_succ_self _) (by first | decide +kernel | omega) hP hD hS (lv_sub hl [1, 2, 3, 4, 5, 0] rfl)
    exact hlp_218 _ 0 c_h_sixteenths _ _ _ (Nat.lt_succ_self _) (by first | decide +kernel | omega) hP hD hS (lv_sub hl [1, 2, 3, 4, 0] rfl)
set_option maxHeartbeats 4000000 in
set_option maxRecDepth 100000 in
theorem d_H_setLent (l : Launch) (G : va_G) (cA : zCA) (h : Nat) (h_features : Int32) (h_featureNames : Nat) (h_steps : Nat) (h_turnedFeatures : Nat) (h_sixteenths : Nat) (h_keys : Int32) (h_keySteps : Nat) (h_lent : Int32) (h_rings : Int32) (h_on : Nat) (h_onMany : Nat) (h_doors : Int32) (h_wanted : Nat) (h_openers : Nat) (h_seconds : Nat) (h_turned : Int32) (h_roundMany : Int32) (h_roundDoors : Nat) (x : Int32) (y : Int32) (hm_h_features : 0 ≤ h_features.toInt ∧ h_features.toInt ≤ 3) : zCv l yX2_setLent cX2_setLent 3 none ({ frames := 1, cells := 0, slots := 0, locals := 21 }) G cA [.ref h, .int x, .int y] [(h, .inr (2, [.int h_features, .ref h_featureNames, .ref h_steps, .ref h_turnedFeatures, .ref h_sixteenths, .int h_keys, .ref h_keySteps, .int h_lent, .int h_rings, .ref h_on, .ref h_onMany, .int h_doors, .ref h_wanted, .ref h_openers, .ref h_seconds, .int h_turned, .int h_roundMany, .ref h_roundDoors]))] (S := Int32) (fun (u : Int32) => True) (fun (u : Int32) => [(h, .inr (2, [.int h_features, .ref h_featureNames, .ref h_steps, .ref h_turnedFeatures, .ref h_sixteenths, .int h_keys, .ref h_keySteps, .int u, .int h_rings, .ref h_on, .ref h_onMany, .int h_doors, .ref h_wanted, .ref h_openers, .ref h_seconds, .int h_turned, .int h_roundMany, .ref h_roundDoors]))]) 0 0 := by
  refine z_start2v (own := RX2) (by decide) (Nat.le_of_ble_eq_true rfl) rfl ?_
  intro p e s m args below meth c A ls Q hx hb hml hts hown hK hE hT hP hD hS hA hl hret
  have hl : lv_has ls 3 [(0, .ref h), (1, .int x), (2, .int y)] := hl
  refine lv_aload_n hx hb dX2_setLent_0 rfl (lv_at hl 0 rfl) ?_
  refine lv_iload_n hx hb dX2_setLent_1 rfl (lv_at hl 1 rfl) ?_
  refine z_callVi (As := [.int x]) (rest := []) (wr := []) ⟨hx, hb, hml, hown, hts⟩ hK hE hT hP hD hS hA (d_H_hasKey l G cA h h_features h_featureNames h_steps h_turnedFeatures h_sixteenths h_keys h_keySteps h_lent h_rings h_on h_onMany h_doors h_wanted h_openers h_seconds h_turned h_roundMany h_roundDoors x (by omega)) lk_RX2_97 ⟨rfl, rfl⟩ ⟨Nat.le_of_ble_eq_true rfl, Nat.le_of_ble_eq_true rfl⟩ 2 rfl rfl rfl [0] [] rfl rfl (by decide) rfl hl.1 rfl (lv_room (Nat.le_of_ble_eq_true rfl)) dX2_setLent_2 ⟨Nat.le_of_ble_eq_true rfl, Nat.le_of_ble_eq_true rfl⟩ (fun r_1 u_2 H locs hw hP hD hS => ?_)
  have hP : va_P G vwCl [(h, .inr (2, [.int h_features, .ref h_featureNames, .ref h_steps, .ref h_turnedFeatures, .ref h_sixteenths, .int h_keys, .ref h_keySteps, .int h_lent, .int h_rings, .ref h_on, .ref h_onMany, .int h_doors, .ref h_wanted, .ref h_openers, .ref h_seconds, .int h_turned, .int h_roundMany, .ref h_roundDoors]))] H := hP
  have hD : va_D A [(h, .inr (2, [.int h_features, .ref h_featureNames, .ref h_steps, .ref h_turnedFeatures, .ref h_sixteenths, .int h_keys, .ref h_keySteps, .int h_lent, .int h_rings, .ref h_on, .ref h_onMany, .int h_doors, .ref h_wanted, .ref h_openers, .ref h_seconds, .int h_turned, .int h_roundMany, .ref h_roundDoors]))] := hD
  have hz_r_1 := hw
  refine lv_if_ne (tgt := 9) hx hb dX2_setLent_5 (by decide) (fun c_3 => ?_) (fun c_3 => ?_)
  · skip
    refine lv_aload_n hx hb dX2_setLent_9 rfl (lv_at hl 0 rfl) ?_
    refine lv_iload_n hx hb dX2_setLent_10 rfl (lv_at hl 2 rfl) ?_
    refine lv_if_eq (tgt := 25) hx hb dX2_setLent_11 (by decide) (fun c_5 => ?_) (fun c_5 => ?_)
    · skip
      refine lv_aload_n hx hb dX2_setLent_25 rfl (lv_at hl 0 rfl) ?_
      refine va_get (D := G) (ci := 2) (v := .int h_lent) (C := RX2) (T := TX2) (N := 18) hx hb hts inT2 hown hK hP 0 rfl rfl 7 (by decide) (hts _ tw_278) (fun _ h9 => h9) rfl dX2_setLent_26 ?_
      refine lv_iconst (v := 1) hx hb dX2_setLent_29 (by decide) ?_
      refine lv_iload_n hx hb dX2_setLent_30 rfl (lv_at hl 1 rfl) ?_
      refine lv_ishl hx hb dX2_setLent_31 ?_
      refine lv_topi (fun x_7 _ => ?_)
      refine lv_iconst (v := (-1)) hx hb dX2_setLent_32 (by decide) ?_
      refine lv_ixor hx hb dX2_setLent_33 ?_
      refine lv_topi (fun x_8 _ => ?_)
      refine lv_iand hx hb dX2_setLent_34 ?_
      refine lv_topi (fun x_9 _ => ?_)
      refine va_put (D := G) (ci := 2) (v := .int x_9) (ty := .int) (C := RX2) (T := TX2) (N := 18) hx hb hts inT2 tyX2 tyX2_ok nmX2 hown hK hP hD hS 0 rfl rfl 7 (by decide) (hts _ tw_278) (fun _ h9 => h9) rfl (tyX2_ok 7 (by decide)) rfl rfl (Nat.le_of_ble_eq_true rfl) dX2_setLent_35 (fun H locs hP hD hS => ?_)
      have hP : va_P G vwCl [(h, .inr (2, [.int h_features, .ref h_featureNames, .ref h_steps, .ref h_turnedFeatures, .ref h_sixteenths, .int h_keys, .ref h_keySteps, .int x_9, .int h_rings, .ref h_on, .ref h_onMany, .int h_doors, .ref h_wanted, .ref h_openers, .ref h_seconds, .int h_turned, .int h_roundMany, .ref h_roundDoors]))] H := hP
      have hD : va_D A [(h, .inr (2, [.int h_features, .ref h_featureNames, .ref h_steps, .ref h_turnedFeatures, .ref h_sixteenths, .int h_keys, .ref h_keySteps, .int x_9, .int h_rings, .ref h_on, .ref h_onMany, .int h_doors, .ref h_wanted, .ref h_openers, .ref h_seconds, .int h_turned, .int h_roundMany, .ref h_roundDoors]))] := hD
      exact hret _ _ _ _ _ x_9 [0] hP hD hS rfl (by decide) dX2_setLent_38 trivial
    · skip
      refine lv_aload_n hx hb dX2_setLent_14 rfl (lv_at hl 0 rfl) ?_
      refine va_get (D := G) (ci := 2) (v := .int h_lent) (C := RX2) (T := TX2) (N := 18) hx hb hts inT2 hown hK hP 0 rfl rfl 7 (by decide) (hts _ tw_278) (fun _ h9 => h9) rfl dX2_setLent_15 ?_
      refine lv_iconst (v := 1) hx hb dX2_setLent_18 (by decide) ?_
      refine lv_iload_n hx hb dX2_setLent_19 rfl (lv_at hl 1 rfl) ?_
      refine lv_ishl hx hb dX2_setLent_20 ?_
      refine lv_topi (fun x_11 _ => ?_)
      refine lv_ior hx hb dX2_setLent_21 ?_
      refine lv_topi (fun x_12 _ => ?_)
      refine lv_goto (tgt := 35) hx hb dX2_setLent_22 (by decide) ?_
      refine va_put (D := G) (ci := 2) (v := .int x_12) (ty := .int) (C := RX2) (T := TX2) (N := 18) hx hb hts inT2 tyX2 tyX2_ok nmX2 hown hK hP hD hS 0 rfl rfl 7 (by decide) (hts _ tw_278) (fun _ h9 => h9) rfl (tyX2_ok 7 (by decide)) rfl rfl (Nat.le_of_ble_eq_true rfl) dX2_setLent_35 (fun H locs hP hD hS => ?_)
      have hP : va_P G vwCl [(h, .inr (2, [.int h_features, .ref h_featureNames, .ref h_steps, .ref h_turnedFeatures, .ref h_sixteenths, .int h_keys, .ref h_keySteps, .int x_12, .int h_rings, .ref h_on, .ref h_onMany, .int h_doors, .ref h_wanted, .ref h_openers, .ref h_seconds, .int h_turned, .int h_roundMany, .ref h_roundDoors]))] H := hP
      have hD : va_D A [(h, .inr (2, [.int h_features, .ref h_featureNames, .ref h_steps, .ref h_turnedFeatures, .ref h_sixteenths, .int h_keys, .ref h_keySteps, .int x_12, .int h_rings, .ref h_on, .ref h_onMany, .int h_doors, .ref h_wanted, .ref h_openers, .ref h_seconds, .int h_turned, .int h_roundMany, .ref h_roundDoors]))] := hD
      exact hret _ _ _ _ _ x_12 [0] hP hD hS rfl (by decide) dX2_setLent_38 trivial
  · skip
    exact hret _ _ _ _ _ h_lent [0] hP hD hS rfl (by decide) dX2_setLent_8 trivial
set_option maxHeartbeats 4000000 in
set_option maxRecDepth 100000 in
theorem d_H_addRing (l : Launch) (G : va_G) (cA : zCA) (h : Nat) (h_features : Int32) (h_featureNames : Nat) (h_steps : Nat) (h_turnedFeatures : Nat) (h_sixteenths : Nat) (h_keys : Int32) (h_keySteps : Nat) (h_lent : Int32) (h_rings : Int32) (h_on : Nat) (h_onMany : Nat) (h_doors : Int32) (h_wanted : Nat) (h_openers : Nat) (h_seconds : Nat) (h_turned : Int32) (h_roundMany : Int32) (h_roundDoors : Nat) (c_h_onMany : Nat → Int32) (hm_h_features : 0 ≤ h_features.toInt ∧ h_features.toInt ≤ 3) (hO_c_h_onMany : zOM c_h_onMany) : zCv l yX2_addRing cX2_addRing 1 none ({ frames := 1, cells := 0, slots := 0, locals := 22 }) G cA [.ref h] [(h, .inr (2, [.int h_features, .ref h_featureNames, .ref h_steps, .ref h_turnedFeatures, .ref h_sixteenths, .int h_keys, .ref h_keySteps, .int h_lent, .int h_rings, .ref h_on, .ref h_onMany, .int h_doors, .ref h_wanted, .ref h_openers, .ref h_seconds, .int h_turned, .int h_roundMany, .ref h_roundDoors])), (h_onMany, .inl (cA.1 0, 3, .inl c_h_onMany))] (S := Int32 × (Nat → Int32)) (fun (u : Int32 × (Nat → Int32)) => zOM u.2) (fun (u : Int32 × (Nat → Int32)) => [(h, .inr (2, [.int h_features, .ref h_featureNames, .ref h_steps, .ref h_turnedFeatures, .ref h_sixteenths, .int h_keys, .ref h_keySteps, .int h_lent, .int u.1, .ref h_on, .ref h_onMany, .int h_doors, .ref h_wanted, .ref h_openers, .ref h_seconds, .int h_turned, .int h_roundMany, .ref h_roundDoors])), (h_onMany, .inl (cA.1 0, 3, .inl u.2))]) 0 0 := by
  refine z_start2v (own := RX2) (by decide) (Nat.le_of_ble_eq_true rfl) rfl ?_
  intro p e s m args below meth c A ls Q hx hb hml hts hown hK hE hT hP hD hS hA hl hret
  have hl : lv_has ls 1 [(0, .ref h)] := hl
  refine lv_aload_n hx hb dX2_addRing_0 rfl (lv_at hl 0 rfl) ?_
  refine va_get (D := G) (ci := 2) (v := .ref h_onMany) (C := RX2) (T := TX2) (N := 18) hx hb hts inT2 hown hK hP 0 rfl rfl 10 (by decide) (hts _ tw_284) (fun _ h9 => h9) rfl dX2_addRing_1 ?_
  refine lv_aload_n hx hb dX2_addRing_4 rfl (lv_at hl 0 rfl) ?_
  refine va_get (D := G) (ci := 2) (v := .int h_rings) (C := RX2) (T := TX2) (N := 18) hx hb hts inT2 hown hK hP 0 rfl rfl 8 (by decide) (hts _ tw_279) (fun _ h9 => h9) rfl dX2_addRing_5 ?_
  refine lv_iconst (v := 0) hx hb dX2_addRing_8 (by decide) ?_
  refine z_callSNv (As := [.ref h_onMany, .int h_rings, .int 0]) (rest := []) (wr := [(h, .inr (2, [.int h_features, .ref h_featureNames, .ref h_steps, .ref h_turnedFeatures, .ref h_sixteenths, .int h_keys, .ref h_keySteps, .int h_lent, .int h_rings, .ref h_on, .ref h_onMany, .int h_doors, .ref h_wanted, .ref h_openers, .ref h_seconds, .int h_turned, .int h_roundMany, .ref h_roundDoors]))]) ⟨hx, hb, hml, hown, hts⟩ hK hE hT hP hD hS hA (d_keepAt_3 l G cA h_onMany c_h_onMany h_rings 0) lk_RX2_126 ⟨rfl, rfl⟩ ⟨Nat.le_of_ble_eq_true rfl, Nat.le_of_ble_eq_true rfl⟩ [1] [0] rfl rfl (by decide) rfl hl.1 rfl (lv_room (Nat.le_of_ble_eq_true rfl)) dX2_addRing_9 ⟨Nat.le_of_ble_eq_true rfl, Nat.le_of_ble_eq_true rfl⟩ (fun u_3 H locs hw hP hD hS => ?_)
  obtain ⟨nw0_1, rfl⟩ : ∃ z, z = u_3 := ⟨_, rfl⟩
  have hP : va_P G vwCl [(h, .inr (2, [.int h_features, .ref h_featureNames, .ref h_steps, .ref h_turnedFeatures, .ref h_sixteenths, .int h_keys, .ref h_keySteps, .int h_lent, .int h_rings, .ref h_on, .ref h_onMany, .int h_doors, .ref h_wanted, .ref h_openers, .ref h_seconds, .int h_turned, .int h_roundMany, .ref h_roundDoors])), (h_onMany, .inl (cA.1 0, 3, .inl nw0_1))] H := hP
  have hD : va_D A [(h, .inr (2, [.int h_features, .ref h_featureNames, .ref h_steps, .ref h_turnedFeatures, .ref h_sixteenths, .int h_keys, .ref h_keySteps, .int h_lent, .int h_rings, .ref h_on, .ref h_onMany, .int h_doors, .ref h_wanted, .ref h_openers, .ref h_seconds, .int h_turned, .int h_roundMany, .ref h_roundDoors])), (h_onMany, .inl (cA.1 0, 3, .inl nw0_1))] := hD
  have hx_nw0_1 := hw
  have hO_nw0_1 := zOM_keep hO_c_h_onMany hx_nw0_1 (by decide +kernel)
  refine lv_aload_n hx hb dX2_addRing_12 rfl (lv_at hl 0 rfl) ?_
  refine lv_dup hx hb dX2_addRing_13 rfl ?_
  refine va_get (D := G) (ci := 2) (v := .int h_rings) (C := RX2) (T := TX2) (N := 18) hx hb hts inT2 hown hK hP 0 rfl rfl 8 (by decide) (hts _ tw_279) (fun _ h9 => h9) rfl dX2_addRing_14 ?_
  refine lv_iconst (v := 1) hx hb dX2_addRing_17 (by decide) ?_
  refine lv_iadd hx hb dX2_addRing_18 ?_
  refine va_put (D := G) (ci := 2) (v := .int (h_rings + 1)) (ty := .int) (C := RX2) (T := TX2) (N := 18) hx hb hts inT2 tyX2 tyX2_ok nmX2 hown hK hP hD hS 0 rfl rfl 8 (by decide) (hts _ tw_279) (fun _ h9 => h9) rfl (tyX2_ok 8 (by decide)) rfl rfl (Nat.le_of_ble_eq_true rfl) dX2_addRing_19 (fun H locs hP hD hS => ?_)
  have hP : va_P G vwCl [(h, .inr (2, [.int h_features, .ref h_featureNames, .ref h_steps, .ref h_turnedFeatures, .ref h_sixteenths, .int h_keys, .ref h_keySteps, .int h_lent, .int (h_rings + 1), .ref h_on, .ref h_onMany, .int h_doors, .ref h_wanted, .ref h_openers, .ref h_seconds, .int h_turned, .int h_roundMany, .ref h_roundDoors])), (h_onMany, .inl (cA.1 0, 3, .inl nw0_1))] H := hP
  have hD : va_D A [(h, .inr (2, [.int h_features, .ref h_featureNames, .ref h_steps, .ref h_turnedFeatures, .ref h_sixteenths, .int h_keys, .ref h_keySteps, .int h_lent, .int (h_rings + 1), .ref h_on, .ref h_onMany, .int h_doors, .ref h_wanted, .ref h_openers, .ref h_seconds, .int h_turned, .int h_roundMany, .ref h_roundDoors])), (h_onMany, .inl (cA.1 0, 3, .inl nw0_1))] := hD
  exact hret _ _ _ _ _ ((h_rings + 1), nw0_1) [0, 1] hP hD hS rfl (by decide) dX2_addRing_22 hO_nw0_1
set_option maxHeartbeats 4000000 in
set_option maxRecDepth 100000 in
theorem d_H_addDoor (l : Launch) (G : va_G) (cA : zCA) (h : Nat) (h_features : Int32) (h_featureNames : Nat) (h_steps : Nat) (h_turnedFeatures : Nat) (h_sixteenths : Nat) (h_keys : Int32) (h_keySteps : Nat) (h_lent : Int32) (h_rings : Int32) (h_on : Nat) (h_onMany : Nat) (h_doors : Int32) (h_wanted : Nat) (h_openers : Nat) (h_seconds : Nat) (h_turned : Int32) (h_roundMany : Int32) (h_roundDoors : Nat) (c_h_wanted : Nat → Int32) (c_h_openers : Nat → Int32) (x : Int32) (hm_h_features : 0 ≤ h_features.toInt ∧ h_features.toInt ≤ 3) : zCv l yX2_addDoor cX2_addDoor 2 none ({ frames := 1, cells := 0, slots := 0, locals := 22 }) G cA [.ref h, .int x] [(h, .inr (2, [.int h_features, .ref h_featureNames, .ref h_steps, .ref h_turnedFeatures, .ref h_sixteenths, .int h_keys, .ref h_keySteps, .int h_lent, .int h_rings, .ref h_on, .ref h_onMany, .int h_doors, .ref h_wanted, .ref h_openers, .ref h_seconds, .int h_turned, .int h_roundMany, .ref h_roundDoors])), (h_wanted, .inl (cA.1 0, 5, .inl c_h_wanted)), (h_openers, .inl (cA.1 0, 5, .inl c_h_openers))] (S := Int32 × (Nat → Int32) × (Nat → Int32)) (fun (u : Int32 × (Nat → Int32) × (Nat → Int32)) => True) (fun (u : Int32 × (Nat → Int32) × (Nat → Int32)) => [(h, .inr (2, [.int h_features, .ref h_featureNames, .ref h_steps, .ref h_turnedFeatures, .ref h_sixteenths, .int h_keys, .ref h_keySteps, .int h_lent, .int h_rings, .ref h_on, .ref h_onMany, .int u.1, .ref h_wanted, .ref h_openers, .ref h_seconds, .int h_turned, .int h_roundMany, .ref h_roundDoors])), (h_wanted, .inl (cA.1 0, 5, .inl u.2.1)), (h_openers, .inl (cA.1 0, 5, .inl u.2.2))]) 0 0 := by
  refine z_start2v (own := RX2) (by decide) (Nat.le_of_ble_eq_true rfl) rfl ?_
  intro p e s m args below meth c A ls Q hx hb hml hts hown hK hE hT hP hD hS hA hl hret
  have hl : lv_has ls 2 [(0, .ref h), (1, .int x)] := hl
  refine lv_aload_n hx hb dX2_addDoor_0 rfl (lv_at hl 0 rfl) ?_
  refine va_get (D := G) (ci := 2) (v := .ref h_wanted) (C := RX2) (T := TX2) (N := 18) hx hb hts inT2 hown hK hP 0 rfl rfl 12 (by decide) (hts _ tw_289) (fun _ h9 => h9) rfl dX2_addDoor_1 ?_
  refine lv_aload_n hx hb dX2_addDoor_4 rfl (lv_at hl 0 rfl) ?_
  refine va_get (D := G) (ci := 2) (v := .int h_doors) (C := RX2) (T := TX2) (N := 18) hx hb hts inT2 hown hK hP 0 rfl rfl 11 (by decide) (hts _ tw_285) (fun _ h9 => h9) rfl dX2_addDoor_5 ?_
  refine lv_iload_n hx hb dX2_addDoor_8 rfl (lv_at hl 1 rfl) ?_
  refine z_callSNv (As := [.ref h_wanted, .int h_doors, .int x]) (rest := []) (wr := [(h, .inr (2, [.int h_features, .ref h_featureNames, .ref h_steps, .ref h_turnedFeatures, .ref h_sixteenths, .int h_keys, .ref h_keySteps, .int h_lent, .int h_rings, .ref h_on, .ref h_onMany, .int h_doors, .ref h_wanted, .ref h_openers, .ref h_seconds, .int h_turned, .int h_roundMany, .ref h_roundDoors])), (h_openers, .inl (cA.1 0, 5, .inl c_h_openers))]) ⟨hx, hb, hml, hown, hts⟩ hK hE hT hP hD hS hA (d_keepAt_5 l G cA h_wanted c_h_wanted h_doors x) lk_RX2_126 ⟨rfl, rfl⟩ ⟨Nat.le_of_ble_eq_true rfl, Nat.le_of_ble_eq_true rfl⟩ [1] [0, 2] rfl rfl (by decide) rfl hl.1 rfl (lv_room (Nat.le_of_ble_eq_true rfl)) dX2_addDoor_9 ⟨Nat.le_of_ble_eq_true rfl, Nat.le_of_ble_eq_true rfl⟩ (fun u_3 H locs hw hP hD hS => ?_)
  obtain ⟨nw0_1, rfl⟩ : ∃ z, z = u_3 := ⟨_, rfl⟩
  have hP : va_P G vwCl [(h, .inr (2, [.int h_features, .ref h_featureNames, .ref h_steps, .ref h_turnedFeatures, .ref h_sixteenths, .int h_keys, .ref h_keySteps, .int h_lent, .int h_rings, .ref h_on, .ref h_onMany, .int h_doors, .ref h_wanted, .ref h_openers, .ref h_seconds, .int h_turned, .int h_roundMany, .ref h_roundDoors])), (h_openers, .inl (cA.1 0, 5, .inl c_h_openers)), (h_wanted, .inl (cA.1 0, 5, .inl nw0_1))] H := hP
  have hD : va_D A [(h, .inr (2, [.int h_features, .ref h_featureNames, .ref h_steps, .ref h_turnedFeatures, .ref h_sixteenths, .int h_keys, .ref h_keySteps, .int h_lent, .int h_rings, .ref h_on, .ref h_onMany, .int h_doors, .ref h_wanted, .ref h_openers, .ref h_seconds, .int h_turned, .int h_roundMany, .ref h_roundDoors])), (h_openers, .inl (cA.1 0, 5, .inl c_h_openers)), (h_wanted, .inl (cA.1 0, 5, .inl nw0_1))] := hD
  refine lv_aload_n hx hb dX2_addDoor_12 rfl (lv_at hl 0 rfl) ?_
  refine va_get (D := G) (ci := 2) (v := .ref h_openers) (C := RX2) (T := TX2) (N := 18) hx hb hts inT2 hown hK hP 0 rfl rfl 13 (by decide) (hts _ tw_290) (fun _ h9 => h9) rfl dX2_addDoor_13 ?_
  refine lv_aload_n hx hb dX2_addDoor_16 rfl (lv_at hl 0 rfl) ?_
  refine va_get (D := G) (ci := 2) (v := .int h_doors) (C := RX2) (T := TX2) (N := 18) hx hb hts inT2 hown hK hP 0 rfl rfl 11 (by decide) (hts _ tw_285) (fun _ h9 => h9) rfl dX2_addDoor_17 ?_
  refine lv_iconst (v := 0) hx hb dX2_addDoor_20 (by decide) ?_
  refine z_callSNv (As := [.ref h_openers, .int h_doors, .int 0]) (rest := []) (wr := [(h, .inr (2, [.int h_features, .ref h_featureNames, .ref h_steps, .ref h_turnedFeatures, .ref h_sixteenths, .int h_keys, .ref h_keySteps, .int h_lent, .int h_rings, .ref h_on, .ref h_onMany, .int h_doors, .ref h_wanted, .ref h_openers, .ref h_seconds, .int h_turned, .int h_roundMany, .ref h_roundDoors])), (h_wanted, .inl (cA.1 0, 5, .inl nw0_1))]) ⟨hx, hb, hml, hown, hts⟩ hK hE hT hP hD hS hA (d_keepAt_5 l G cA h_openers c_h_openers h_doors 0) lk_RX2_126 ⟨rfl, rfl⟩ ⟨Nat.le_of_ble_eq_true rfl, Nat.le_of_ble_eq_true rfl⟩ [1] [0, 2] rfl rfl (by decide) rfl hl.1 rfl (lv_room (Nat.le_of_ble_eq_true rfl)) dX2_addDoor_21 ⟨Nat.le_of_ble_eq_true rfl, Nat.le_of_ble_eq_true rfl⟩ (fun u_6 H locs hw hP hD hS => ?_)
  obtain ⟨nw0_4, rfl⟩ : ∃ z, z = u_6 := ⟨_, rfl⟩
  have hP : va_P G vwCl [(h, .inr (2, [.int h_features, .ref h_featureNames, .ref h_steps, .ref h_turnedFeatures, .ref h_sixteenths, .int h_keys, .ref h_keySteps, .int h_lent, .int h_rings, .ref h_on, .ref h_onMany, .int h_doors, .ref h_wanted, .ref h_openers, .ref h_seconds, .int h_turned, .int h_roundMany, .ref h_roundDoors])), (h_wanted, .inl (cA.1 0, 5, .inl nw0_1)), (h_openers, .inl (cA.1 0, 5, .inl nw0_4))] H := hP
  have hD : va_D A [(h, .inr (2, [.int h_features, .ref h_featureNames, .ref h_steps, .ref h_turnedFeatures, .ref h_sixteenths, .int h_keys, .ref h_keySteps, .int h_lent, .int h_rings, .ref h_on, .ref h_onMany, .int h_doors, .ref h_wanted, .ref h_openers, .ref h_seconds, .int h_turned, .int h_roundMany, .ref h_roundDoors])), (h_wanted, .inl (cA.1 0, 5, .inl nw0_1)), (h_openers, .inl (cA.1 0, 5, .inl nw0_4))] := hD
  refine lv_aload_n hx hb dX2_addDoor_24 rfl (lv_at hl 0 rfl) ?_
  refine lv_dup hx hb dX2_addDoor_25 rfl ?_
  refine va_get (D := G) (ci := 2) (v := .int h_doors) (C := RX2) (T := TX2) (N := 18) hx hb hts inT2 hown hK hP 0 rfl rfl 11 (by decide) (hts _ tw_285) (fun _ h9 => h9) rfl dX2_addDoor_26 ?_
  refine lv_iconst (v := 1) hx hb dX2_addDoor_29 (by decide) ?_
  refine lv_iadd hx hb dX2_addDoor_30 ?_
  refine va_put (D := G) (ci := 2) (v := .int (h_doors + 1)) (ty := .int) (C := RX2) (T := TX2) (N := 18) hx hb hts inT2 tyX2 tyX2_ok nmX2 hown hK hP hD hS 0 rfl rfl 11 (by decide) (hts _ tw_285) (fun _ h9 => h9) rfl (tyX2_ok 11 (by decide)) rfl rfl (Nat.le_of_ble_eq_true rfl) dX2_addDoor_31 (fun H locs hP hD hS => ?_)
  have hP : va_P G vwCl [(h, .inr (2, [.int h_features, .ref h_featureNames, .ref h_steps, .ref h_turnedFeatures, .ref h_sixteenths, .int h_keys, .ref h_keySteps, .int h_lent, .int h_rings, .ref h_on, .ref h_onMany, .int (h_doors + 1), .ref h_wanted, .ref h_openers, .ref h_seconds, .int h_turned, .int h_roundMany, .ref h_roundDoors])), (h_wanted, .inl (cA.1 0, 5, .inl nw0_1)), (h_openers, .inl (cA.1 0, 5, .inl nw0_4))] H := hP
  have hD : va_D A [(h, .inr (2, [.int h_features, .ref h_featureNames, .ref h_steps, .ref h_turnedFeatures, .ref h_sixteenths, .int h_keys, .ref h_keySteps, .int h_lent, .int h_rings, .ref h_on, .ref h_onMany, .int (h_doors + 1), .ref h_wanted, .ref h_openers, .ref h_seconds, .int h_turned, .int h_roundMany, .ref h_roundDoors])), (h_wanted, .inl (cA.1 0, 5, .inl nw0_1)), (h_openers, .inl (cA.1 0, 5, .inl nw0_4))] := hD
  exact hret _ _ _ _ _ ((h_doors + 1), nw0_1, nw0_4) [0, 1, 2] hP hD hS rfl (by decide) dX2_addDoor_34 trivial
set_option maxHeartbeats 4000000 in
set_option maxRecDepth 100000 in
theorem d_H_addOpener (l : Launch) (G : va_G) (cA : zCA) (h : Nat) (h_features : Int32) (h_featureNames : Nat) (h_steps : Nat) (h_turnedFeatures : Nat) (h_sixteenths : Nat) (h_keys : Int32) (h_keySteps : Nat) (h_lent : Int32) (h_rings : Int32) (h_on : Nat) (h_onMany : Nat) (h_doors : Int32) (h_wanted : Nat) (h_openers : Nat) (h_seconds : Nat) (h_turned : Int32) (h_roundMany : Int32) (h_roundDoors : Nat) (c_h_openers : Nat → Int32) (x : Int32) (y : Int32) (hm_h_features : 0 ≤ h_features.toInt ∧ h_features.toInt ≤ 3) : zCv l yX2_addOpener cX2_addOpener 3 none ({ frames := 2, cells := 0, slots := 0, locals := 42 }) G cA [.ref h, .int x, .int y] [(h, .inr (2, [.int h_features, .ref h_featureNames, .ref h_steps, .ref h_turnedFeatures, .ref h_sixteenths, .int h_keys, .ref h_keySteps, .int h_lent, .int h_rings, .ref h_on, .ref h_onMany, .int h_doors, .ref h_wanted, .ref h_openers, .ref h_seconds, .int h_turned, .int h_roundMany, .ref h_roundDoors])), (h_openers, .inl (cA.1 0, 5, .inl c_h_openers))] (S := (Nat → Int32)) (fun (u : (Nat → Int32)) => True) (fun (u : (Nat → Int32)) => [(h, .inr (2, [.int h_features, .ref h_featureNames, .ref h_steps, .ref h_turnedFeatures, .ref h_sixteenths, .int h_keys, .ref h_keySteps, .int h_lent, .int h_rings, .ref h_on, .ref h_onMany, .int h_doors, .ref h_wanted, .ref h_openers, .ref h_seconds, .int h_turned, .int h_roundMany, .ref h_roundDoors])), (h_openers, .inl (cA.1 0, 5, .inl u))]) 0 0 := by
  refine z_start2v (own := RX2) (by decide) (Nat.le_of_ble_eq_true rfl) rfl ?_
  intro p e s m args below meth c A ls Q hx hb hml hts hown hK hE hT hP hD hS hA hl hret
  have hl : lv_has ls 3 [(0, .ref h), (1, .int x), (2, .int y)] := hl
  refine lv_aload_n hx hb dX2_addOpener_0 rfl (lv_at hl 0 rfl) ?_
  refine va_get (D := G) (ci := 2) (v := .ref h_openers) (C := RX2) (T := TX2) (N := 18) hx hb hts inT2 hown hK hP 0 rfl rfl 13 (by decide) (hts _ tw_290) (fun _ h9 => h9) rfl dX2_addOpener_1 ?_
  refine lv_iload_n hx hb dX2_addOpener_4 rfl (lv_at hl 1 rfl) ?_
  refine lv_aload_n hx hb dX2_addOpener_5 rfl (lv_at hl 0 rfl) ?_
  refine lv_iload_n hx hb dX2_addOpener_6 rfl (lv_at hl 1 rfl) ?_
  refine z_callVi (As := [.int x]) (rest := [.int x, .ref h_openers]) (wr := []) ⟨hx, hb, hml, hown, hts⟩ hK hE hT hP hD hS hA (d_H_openersOf l G cA h h_features h_featureNames h_steps h_turnedFeatures h_sixteenths h_keys h_keySteps h_lent h_rings h_on h_onMany h_doors h_wanted h_openers h_seconds h_turned h_roundMany h_roundDoors c_h_openers x (by omega)) lk_RX2_145 ⟨rfl, rfl⟩ ⟨Nat.le_of_ble_eq_true rfl, Nat.le_of_ble_eq_true rfl⟩ 2 rfl rfl rfl [0, 1] [] rfl rfl (by decide) rfl hl.1 rfl (lv_room (Nat.le_of_ble_eq_true rfl)) dX2_addOpener_7 ⟨Nat.le_of_ble_eq_true rfl, Nat.le_of_ble_eq_true rfl⟩ (fun r_1 u_2 H locs hw hP hD hS => ?_)
  have hP : va_P G vwCl [(h, .inr (2, [.int h_features, .ref h_featureNames, .ref h_steps, .ref h_turnedFeatures, .ref h_sixteenths, .int h_keys, .ref h_keySteps, .int h_lent, .int h_rings, .ref h_on, .ref h_onMany, .int h_doors, .ref h_wanted, .ref h_openers, .ref h_seconds, .int h_turned, .int h_roundMany, .ref h_roundDoors])), (h_openers, .inl (cA.1 0, 5, .inl c_h_openers))] H := hP
  have hD : va_D A [(h, .inr (2, [.int h_features, .ref h_featureNames, .ref h_steps, .ref h_turnedFeatures, .ref h_sixteenths, .int h_keys, .ref h_keySteps, .int h_lent, .int h_rings, .ref h_on, .ref h_onMany, .int h_doors, .ref h_wanted, .ref h_openers, .ref h_seconds, .int h_turned, .int h_roundMany, .ref h_roundDoors])), (h_openers, .inl (cA.1 0, 5, .inl c_h_openers))] := hD
  refine lv_iconst (v := 1) hx hb dX2_addOpener_10 (by decide) ?_
  refine lv_iload_n hx hb dX2_addOpener_11 rfl (lv_at hl 2 rfl) ?_
  refine lv_ishl hx hb dX2_addOpener_12 ?_
  refine lv_topi (fun x_3 _ => ?_)
  refine lv_ior hx hb dX2_addOpener_13 ?_
  refine lv_topi (fun x_4 _ => ?_)
  refine z_callSNv (As := [.ref h_openers, .int x, .int x_4]) (rest := []) (wr := [(h, .inr (2, [.int h_features, .ref h_featureNames, .ref h_steps, .ref h_turnedFeatures, .ref h_sixteenths, .int h_keys, .ref h_keySteps, .int h_lent, .int h_rings, .ref h_on, .ref h_onMany, .int h_doors, .ref h_wanted, .ref h_openers, .ref h_seconds, .int h_turned, .int h_roundMany, .ref h_roundDoors]))]) ⟨hx, hb, hml, hown, hts⟩ hK hE hT hP hD hS hA (d_keepAt_5 l G cA h_openers c_h_openers x x_4) lk_RX2_126 ⟨rfl, rfl⟩ ⟨Nat.le_of_ble_eq_true rfl, Nat.le_of_ble_eq_true rfl⟩ [1] [0] rfl rfl (by decide) rfl hl.1 rfl (lv_room (Nat.le_of_ble_eq_true rfl)) dX2_addOpener_14 ⟨Nat.le_of_ble_eq_true rfl, Nat.le_of_ble_eq_true rfl⟩ (fun u_7 H locs hw hP hD hS => ?_)
  obtain ⟨nw0_5, rfl⟩ : ∃ z, z = u_7 := ⟨_, rfl⟩
  have hP : va_P G vwCl [(h, .inr (2, [.int h_features, .ref h_featureNames, .ref h_steps, .ref h_turnedFeatures, .ref h_sixteenths, .int h_keys, .ref h_keySteps, .int h_lent, .int h_rings, .ref h_on, .ref h_onMany, .int h_doors, .ref h_wanted, .ref h_openers, .ref h_seconds, .int h_turned, .int h_roundMany, .ref h_roundDoors])), (h_openers, .inl (cA.1 0, 5, .inl nw0_5))] H := hP
  have hD : va_D A [(h, .inr (2, [.int h_features, .ref h_featureNames, .ref h_steps, .ref h_turnedFeatures, .ref h_sixteenths, .int h_keys, .ref h_keySteps, .int h_lent, .int h_rings, .ref h_on, .ref h_onMany, .int h_doors, .ref h_wanted, .ref h_openers, .ref h_seconds, .int h_turned, .int h_roundMany, .ref h_roundDoors])), (h_openers, .inl (cA.1 0, 5, .inl nw0_5))] := hD
  exact hret _ _ _ _ _ nw0_5 [0, 1] hP hD hS rfl (by decide) dX2_addOpener_17 trivial
set_option maxHeartbeats 4000000 in
set_option maxRecDepth 100000 in
theorem d_H_addToRound (l : Launch) (G : va_G) (cA : zCA) (h : Nat) (h_features : Int32) (h_featureNames : Nat) (h_steps : Nat) (h_turnedFeatures : Nat) (h_sixteenths : Nat) (h_keys : Int32) (h_keySteps : Nat) (h_lent : Int32) (h_rings : Int32) (h_on : Nat) (h_onMany : Nat) (h_doors : Int32) (h_wanted : Nat) (h_openers : Nat) (h_seconds : Nat) (h_turned : Int32) (h_roundMany : Int32) (h_roundDoors : Nat) (c_h_roundDoors : Nat → Int32) (x : Int32) (hm_h_features : 0 ≤ h_features.toInt ∧ h_features.toInt ≤ 3) : zCv l yX2_addToRound cX2_addToRound 2 none ({ frames := 1, cells := 0, slots := 0, locals := 22 }) G cA [.ref h, .int x] [(h, .inr (2, [.int h_features, .ref h_featureNames, .ref h_steps, .ref h_turnedFeatures, .ref h_sixteenths, .int h_keys, .ref h_keySteps, .int h_lent, .int h_rings, .ref h_on, .ref h_onMany, .int h_doors, .ref h_wanted, .ref h_openers, .ref h_seconds, .int h_turned, .int h_roundMany, .ref h_roundDoors])), (h_roundDoors, .inl (cA.1 0, 12, .inl c_h_roundDoors))] (S := Int32 × (Nat → Int32)) (fun (u : Int32 × (Nat → Int32)) => True) (fun (u : Int32 × (Nat → Int32)) => [(h, .inr (2, [.int h_features, .ref h_featureNames, .ref h_steps, .ref h_turnedFeatures, .ref h_sixteenths, .int h_keys, .ref h_keySteps, .int h_lent, .int h_rings, .ref h_on, .ref h_onMany, .int h_doors, .ref h_wanted, .ref h_openers, .ref h_seconds, .int h_turned, .int u.1, .ref h_roundDoors])), (h_roundDoors, .inl (cA.1 0, 12, .inl u.2))]) 0 0 := by
  refine z_start2v (own := RX2) (by decide) (Nat.le_of_ble_eq_true rfl) rfl ?_
  intro p e s m args below meth c A ls Q hx hb hml hts hown hK hE hT hP hD hS hA hl hret
  have hl : lv_has ls 2 [(0, .ref h), (1, .int x)] := hl
  refine lv_aload_n hx hb dX2_addToRound_0 rfl (lv_at hl 0 rfl) ?_
  refine va_get (D := G) (ci := 2) (v := .ref h_roundDoors) (C := RX2) (T := TX2) (N := 18) hx hb hts inT2 hown hK hP 0 rfl rfl 17 (by decide) (hts _ tw_301) (fun _ h9 => h9) rfl dX2_addToRound_1 ?_
  refine lv_aload_n hx hb dX2_addToRound_4 rfl (lv_at hl 0 rfl) ?_
  refine va_get (D := G) (ci := 2) (v := .int h_roundMany) (C := RX2) (T := TX2) (N := 18) hx hb hts inT2 hown hK hP 0 rfl rfl 16 (by decide) (hts _ tw_297) (fun _ h9 => h9) rfl dX2_addToRound_5 ?_
  refine lv_iload_n hx hb dX2_addToRound_8 rfl (lv_at hl 1 rfl) ?_
  refine z_callSNv (As := [.ref h_roundDoors, .int h_roundMany, .int x]) (rest := []) (wr := [(h, .inr (2, [.int h_features, .ref h_featureNames, .ref h_steps, .ref h_turnedFeatures, .ref h_sixteenths, .int h_keys, .ref h_keySteps, .int h_lent, .int h_rings, .ref h_on, .ref h_onMany, .int h_doors, .ref h_wanted, .ref h_openers, .ref h_seconds, .int h_turned, .int h_roundMany, .ref h_roundDoors]))]) ⟨hx, hb, hml, hown, hts⟩ hK hE hT hP hD hS hA (d_keepAt_12 l G cA h_roundDoors c_h_roundDoors h_roundMany x) lk_RX2_126 ⟨rfl, rfl⟩ ⟨Nat.le_of_ble_eq_true rfl, Nat.le_of_ble_eq_true rfl⟩ [1] [0] rfl rfl (by decide) rfl hl.1 rfl (lv_room (Nat.le_of_ble_eq_true rfl)) dX2_addToRound_9 ⟨Nat.le_of_ble_eq_true rfl, Nat.le_of_ble_eq_true rfl⟩ (fun u_3 H locs hw hP hD hS => ?_)
  obtain ⟨nw0_1, rfl⟩ : ∃ z, z = u_3 := ⟨_, rfl⟩
  have hP : va_P G vwCl [(h, .inr (2, [.int h_features, .ref h_featureNames, .ref h_steps, .ref h_turnedFeatures, .ref h_sixteenths, .int h_keys, .ref h_keySteps, .int h_lent, .int h_rings, .ref h_on, .ref h_onMany, .int h_doors, .ref h_wanted, .ref h_openers, .ref h_seconds, .int h_turned, .int h_roundMany, .ref h_roundDoors])), (h_roundDoors, .inl (cA.1 0, 12, .inl nw0_1))] H := hP
  have hD : va_D A [(h, .inr (2, [.int h_features, .ref h_featureNames, .ref h_steps, .ref h_turnedFeatures, .ref h_sixteenths, .int h_keys, .ref h_keySteps, .int h_lent, .int h_rings, .ref h_on, .ref h_onMany, .int h_doors, .ref h_wanted, .ref h_openers, .ref h_seconds, .int h_turned, .int h_roundMany, .ref h_roundDoors])), (h_roundDoors, .inl (cA.1 0, 12, .inl nw0_1))] := hD
  refine lv_aload_n hx hb dX2_addToRound_12 rfl (lv_at hl 0 rfl) ?_
  refine lv_dup hx hb dX2_addToRound_13 rfl ?_
  refine va_get (D := G) (ci := 2) (v := .int h_roundMany) (C := RX2) (T := TX2) (N := 18) hx hb hts inT2 hown hK hP 0 rfl rfl 16 (by decide) (hts _ tw_297) (fun _ h9 => h9) rfl dX2_addToRound_14 ?_
  refine lv_iconst (v := 1) hx hb dX2_addToRound_17 (by decide) ?_
  refine lv_iadd hx hb dX2_addToRound_18 ?_
  refine va_put (D := G) (ci := 2) (v := .int (h_roundMany + 1)) (ty := .int) (C := RX2) (T := TX2) (N := 18) hx hb hts inT2 tyX2 tyX2_ok nmX2 hown hK hP hD hS 0 rfl rfl 16 (by decide) (hts _ tw_297) (fun _ h9 => h9) rfl (tyX2_ok 16 (by decide)) rfl rfl (Nat.le_of_ble_eq_true rfl) dX2_addToRound_19 (fun H locs hP hD hS => ?_)
  have hP : va_P G vwCl [(h, .inr (2, [.int h_features, .ref h_featureNames, .ref h_steps, .ref h_turnedFeatures, .ref h_sixteenths, .int h_keys, .ref h_keySteps, .int h_lent, .int h_rings, .ref h_on, .ref h_onMany, .int h_doors, .ref h_wanted, .ref h_openers, .ref h_seconds, .int h_turned, .int (h_roundMany + 1), .ref h_roundDoors])), (h_roundDoors, .inl (cA.1 0, 12, .inl nw0_1))] H := hP
  have hD : va_D A [(h, .inr (2, [.int h_features, .ref h_featureNames, .ref h_steps, .ref h_turnedFeatures, .ref h_sixteenths, .int h_keys, .ref h_keySteps, .int h_lent, .int h_rings, .ref h_on, .ref h_onMany, .int h_doors, .ref h_wanted, .ref h_openers, .ref h_seconds, .int h_turned, .int (h_roundMany + 1), .ref h_roundDoors])), (h_roundDoors, .inl (cA.1 0, 12, .inl nw0_1))] := hD
  exact hret _ _ _ _ _ ((h_roundMany + 1), nw0_1) [0, 1] hP hD hS rfl (by decide) dX2_addToRound_22 trivial
set_option maxHeartbeats 4000000 in
set_option maxRecDepth 100000 in
theorem d_H_layAt (l : Launch) (G : va_G) (cA : zCA) (h : Nat) (h_features : Int32) (h_featureNames : Nat) (h_steps : Nat) (h_turnedFeatures : Nat) (h_sixteenths : Nat) (h_keys : Int32) (h_keySteps : Nat) (h_lent : Int32) (h_rings : Int32) (h_on : Nat) (h_onMany : Nat) (h_doors : Int32) (h_wanted : Nat) (h_openers : Nat) (h_seconds : Nat) (h_turned : Int32) (h_roundMany : Int32) (h_roundDoors : Nat) (c_h_on : Nat → Int32) (c_h_onMany : Nat → Int32) (x : Int32) (y : Int32) (k : Int32) (hm_h_features : 0 ≤ h_features.toInt ∧ h_features.toInt ≤ 3) (hO_c_h_onMany : zOM c_h_onMany) : zCv l yX2_layAt cX2_layAt 4 none ({ frames := 2, cells := 0, slots := 0, locals := 42 }) G cA [.ref h, .int x, .int y, .int k] [(h, .inr (2, [.int h_features, .ref h_featureNames, .ref h_steps, .ref h_turnedFeatures, .ref h_sixteenths, .int h_keys, .ref h_keySteps, .int h_lent, .int h_rings, .ref h_on, .ref h_onMany, .int h_doors, .ref h_wanted, .ref h_openers, .ref h_seconds, .int h_turned, .int h_roundMany, .ref h_roundDoors])), (h_on, .inl (cA.1 0, 30, .inl c_h_on)), (h_onMany, .inl (cA.1 0, 3, .inl c_h_onMany))] (S := (Nat → Int32)) (fun (u : (Nat → Int32)) => True) (fun (u : (Nat → Int32)) => [(h, .inr (2, [.int h_features, .ref h_featureNames, .ref h_steps, .ref h_turnedFeatures, .ref h_sixteenths, .int h_keys, .ref h_keySteps, .int h_lent, .int h_rings, .ref h_on, .ref h_onMany, .int h_doors, .ref h_wanted, .ref h_openers, .ref h_seconds, .int h_turned, .int h_roundMany, .ref h_roundDoors])), (h_on, .inl (cA.1 0, 30, .inl u)), (h_onMany, .inl (cA.1 0, 3, .inl c_h_onMany))]) 0 0 := by
  refine z_start2v (own := RX2) (by decide) (Nat.le_of_ble_eq_true rfl) rfl ?_
  intro p e s m args below meth c A ls Q hx hb hml hts hown hK hE hT hP hD hS hA hl hret
  have hl : lv_has ls 4 [(0, .ref h), (1, .int x), (2, .int y), (3, .int k)] := hl
  refine lv_iload_n hx hb dX2_layAt_0 rfl (lv_at hl 2 rfl) ?_
  refine lv_if_lt (tgt := 27) hx hb dX2_layAt_1 (by decide) (fun c_1 => ?_) (fun c_1 => ?_)
  · have b_2 := z_b3 c_1 (K := 0) (by decide +kernel)
    exact hret _ _ _ _ _ c_h_on [0, 1, 2] hP hD hS rfl (by decide) dX2_layAt_27 trivial
  · have b_3 := z_b4 c_1 (K := 0) (by decide +kernel)
    refine lv_iload_n hx hb dX2_layAt_4 rfl (lv_at hl 2 rfl) ?_
    refine lv_aload_n hx hb dX2_layAt_5 rfl (lv_at hl 0 rfl) ?_
    refine lv_iload_n hx hb dX2_layAt_6 rfl (lv_at hl 1 rfl) ?_
    refine z_callVi (As := [.int x]) (rest := [.int y]) (wr := [(h_on, .inl (cA.1 0, 30, .inl c_h_on))]) ⟨hx, hb, hml, hown, hts⟩ hK hE hT hP hD hS hA (d_H_manyOn l G cA h h_features h_featureNames h_steps h_turnedFeatures h_sixteenths h_keys h_keySteps h_lent h_rings h_on h_onMany h_doors h_wanted h_openers h_seconds h_turned h_roundMany h_roundDoors c_h_onMany x (by omega) hO_c_h_onMany) lk_RX2_113 ⟨rfl, rfl⟩ ⟨Nat.le_of_ble_eq_true rfl, Nat.le_of_ble_eq_true rfl⟩ 2 rfl rfl rfl [0, 2] [1] rfl rfl (by decide) rfl hl.1 rfl (lv_room (Nat.le_of_ble_eq_true rfl)) dX2_layAt_7 ⟨Nat.le_of_ble_eq_true rfl, Nat.le_of_ble_eq_true rfl⟩ (fun r_4 u_5 H locs hw hP hD hS => ?_)
    have hP : va_P G vwCl [(h_on, .inl (cA.1 0, 30, .inl c_h_on)), (h, .inr (2, [.int h_features, .ref h_featureNames, .ref h_steps, .ref h_turnedFeatures, .ref h_sixteenths, .int h_keys, .ref h_keySteps, .int h_lent, .int h_rings, .ref h_on, .ref h_onMany, .int h_doors, .ref h_wanted, .ref h_openers, .ref h_seconds, .int h_turned, .int h_roundMany, .ref h_roundDoors])), (h_onMany, .inl (cA.1 0, 3, .inl c_h_onMany))] H := hP
    have hD : va_D A [(h_on, .inl (cA.1 0, 30, .inl c_h_on)), (h, .inr (2, [.int h_features, .ref h_featureNames, .ref h_steps, .ref h_turnedFeatures, .ref h_sixteenths, .int h_keys, .ref h_keySteps, .int h_lent, .int h_rings, .ref h_on, .ref h_onMany, .int h_doors, .ref h_wanted, .ref h_openers, .ref h_seconds, .int h_turned, .int h_roundMany, .ref h_roundDoors])), (h_onMany, .inl (cA.1 0, 3, .inl c_h_onMany))] := hD
    have hx_r_4 := hw
    refine lv_icmp_ge (tgt := 27) hx hb dX2_layAt_10 (by decide) (fun c_6 => ?_) (fun c_6 => ?_)
    · have b_7 := z_s1 c_6
      exact hret _ _ _ _ _ c_h_on [1, 0, 2] hP hD hS rfl (by decide) dX2_layAt_27 trivial
    · have b_8 := z_t2 c_6
      refine lv_aload_n hx hb dX2_layAt_13 rfl (lv_at hl 0 rfl) ?_
      refine va_get (D := G) (ci := 2) (v := .ref h_on) (C := RX2) (T := TX2) (N := 18) hx hb hts inT2 hown hK hP 1 rfl rfl 9 (by decide) (hts _ tw_283) (fun _ h9 => h9) rfl dX2_layAt_14 ?_
      refine lv_iload_n hx hb dX2_layAt_17 rfl (lv_at hl 1 rfl) ?_
      refine lv_bipush (v := 10) hx hb dX2_layAt_18 (by decide) ?_
      refine lv_imul hx hb dX2_layAt_20 ?_
      refine lv_topi (fun x_9 _ => ?_)
      refine lv_iload_n hx hb dX2_layAt_21 rfl (lv_at hl 2 rfl) ?_
      refine lv_iadd hx hb dX2_layAt_22 ?_
      refine lv_topi (fun x_10 _ => ?_)
      refine lv_iload_n hx hb dX2_layAt_23 rfl (lv_at hl 3 rfl) ?_
      refine z_callSNv (As := [.ref h_on, .int x_10, .int k]) (rest := []) (wr := [(h, .inr (2, [.int h_features, .ref h_featureNames, .ref h_steps, .ref h_turnedFeatures, .ref h_sixteenths, .int h_keys, .ref h_keySteps, .int h_lent, .int h_rings, .ref h_on, .ref h_onMany, .int h_doors, .ref h_wanted, .ref h_openers, .ref h_seconds, .int h_turned, .int h_roundMany, .ref h_roundDoors])), (h_onMany, .inl (cA.1 0, 3, .inl c_h_onMany))]) ⟨hx, hb, hml, hown, hts⟩ hK hE hT hP hD hS hA (d_keepAt_30 l G cA h_on c_h_on x_10 k) lk_RX2_126 ⟨rfl, rfl⟩ ⟨Nat.le_of_ble_eq_true rfl, Nat.le_of_ble_eq_true rfl⟩ [0] [1, 2] rfl rfl (by decide) rfl hl.1 rfl (lv_room (Nat.le_of_ble_eq_true rfl)) dX2_layAt_24 ⟨Nat.le_of_ble_eq_true rfl, Nat.le_of_ble_eq_true rfl⟩ (fun u_13 H locs hw hP hD hS => ?_)
      obtain ⟨nw0_11, rfl⟩ : ∃ z, z = u_13 := ⟨_, rfl⟩
      have hP : va_P G vwCl [(h, .inr (2, [.int h_features, .ref h_featureNames, .ref h_steps, .ref h_turnedFeatures, .ref h_sixteenths, .int h_keys, .ref h_keySteps, .int h_lent, .int h_rings, .ref h_on, .ref h_onMany, .int h_doors, .ref h_wanted, .ref h_openers, .ref h_seconds, .int h_turned, .int h_roundMany, .ref h_roundDoors])), (h_onMany, .inl (cA.1 0, 3, .inl c_h_onMany)), (h_on, .inl (cA.1 0, 30, .inl nw0_11))] H := hP
      have hD : va_D A [(h, .inr (2, [.int h_features, .ref h_featureNames, .ref h_steps, .ref h_turnedFeatures, .ref h_sixteenths, .int h_keys, .ref h_keySteps, .int h_lent, .int h_rings, .ref h_on, .ref h_onMany, .int h_doors, .ref h_wanted, .ref h_openers, .ref h_seconds, .int h_turned, .int h_roundMany, .ref h_roundDoors])), (h_onMany, .inl (cA.1 0, 3, .inl c_h_onMany)), (h_on, .inl (cA.1 0, 30, .inl nw0_11))] := hD
      exact hret _ _ _ _ _ nw0_11 [0, 2, 1] hP hD hS rfl (by decide) dX2_layAt_27 trivial
set_option maxHeartbeats 4000000 in
set_option maxRecDepth 100000 in
theorem d_H_putOn (l : Launch) (G : va_G) (cA : zCA) (h : Nat) (h_features : Int32) (h_featureNames : Nat) (h_steps : Nat) (h_turnedFeatures : Nat) (h_sixteenths : Nat) (h_keys : Int32) (h_keySteps : Nat) (h_lent : Int32) (h_rings : Int32) (h_on : Nat) (h_onMany : Nat) (h_doors : Int32) (h_wanted : Nat) (h_openers : Nat) (h_seconds : Nat) (h_turned : Int32) (h_roundMany : Int32) (h_roundDoors : Nat) (c_h_on : Nat → Int32) (c_h_onMany : Nat → Int32) (x : Int32) (y : Int32) (k : Int32) (hm_h_features : 0 ≤ h_features.toInt ∧ h_features.toInt ≤ 3) (hO_c_h_onMany : zOM c_h_onMany) : zCv l yX2_putOn cX2_putOn 6 none ({ frames := 3, cells := 0, slots := 0, locals := 65 }) G cA [.ref h, .int x, .int y, .int k] [(h, .inr (2, [.int h_features, .ref h_featureNames, .ref h_steps, .ref h_turnedFeatures, .ref h_sixteenths, .int h_keys, .ref h_keySteps, .int h_lent, .int h_rings, .ref h_on, .ref h_onMany, .int h_doors, .ref h_wanted, .ref h_openers, .ref h_seconds, .int h_turned, .int h_roundMany, .ref h_roundDoors])), (h_on, .inl (cA.1 0, 30, .inl c_h_on)), (h_onMany, .inl (cA.1 0, 3, .inl c_h_onMany))] (S := (Nat → Int32) × (Nat → Int32)) (fun (u : (Nat → Int32) × (Nat → Int32)) => zOM u.2) (fun (u : (Nat → Int32) × (Nat → Int32)) => [(h, .inr (2, [.int h_features, .ref h_featureNames, .ref h_steps, .ref h_turnedFeatures, .ref h_sixteenths, .int h_keys, .ref h_keySteps, .int h_lent, .int h_rings, .ref h_on, .ref h_onMany, .int h_doors, .ref h_wanted, .ref h_openers, .ref h_seconds, .int h_turned, .int h_roundMany, .ref h_roundDoors])), (h_on, .inl (cA.1 0, 30, .inl u.1)), (h_onMany, .inl (cA.1 0, 3, .inl u.2))]) 0 0 := by
  refine z_start2v (own := RX2) (by decide) (Nat.le_of_ble_eq_true rfl) rfl ?_
  intro p e s m args below meth c A ls Q hx hb hml hts hown hK hE hT hP hD hS hA hl hret
  have hl : lv_has ls 6 [(0, .ref h), (1, .int x), (2, .int y), (3, .int k)] := hl
  refine lv_aload_n hx hb dX2_putOn_0 rfl (lv_at hl 0 rfl) ?_
  refine lv_iload_n hx hb dX2_putOn_1 rfl (lv_at hl 2 rfl) ?_
  refine z_callVi (As := [.int y]) (rest := []) (wr := [(h_on, .inl (cA.1 0, 30, .inl c_h_on))]) ⟨hx, hb, hml, hown, hts⟩ hK hE hT hP hD hS hA (d_H_manyOn l G cA h h_features h_featureNames h_steps h_turnedFeatures h_sixteenths h_keys h_keySteps h_lent h_rings h_on h_onMany h_doors h_wanted h_openers h_seconds h_turned h_roundMany h_roundDoors c_h_onMany y (by omega) hO_c_h_onMany) lk_RX2_113 ⟨rfl, rfl⟩ ⟨Nat.le_of_ble_eq_true rfl, Nat.le_of_ble_eq_true rfl⟩ 2 rfl rfl rfl [0, 2] [1] rfl rfl (by decide) rfl hl.1 rfl (lv_room (Nat.le_of_ble_eq_true rfl)) dX2_putOn_2 ⟨Nat.le_of_ble_eq_true rfl, Nat.le_of_ble_eq_true rfl⟩ (fun r_1 u_2 H locs hw hP hD hS => ?_)
  have hP : va_P G vwCl [(h_on, .inl (cA.1 0, 30, .inl c_h_on)), (h, .inr (2, [.int h_features, .ref h_featureNames, .ref h_steps, .ref h_turnedFeatures, .ref h_sixteenths, .int h_keys, .ref h_keySteps, .int h_lent, .int h_rings, .ref h_on, .ref h_onMany, .int h_doors, .ref h_wanted, .ref h_openers, .ref h_seconds, .int h_turned, .int h_roundMany, .ref h_roundDoors])), (h_onMany, .inl (cA.1 0, 3, .inl c_h_onMany))] H := hP
  have hD : va_D A [(h_on, .inl (cA.1 0, 30, .inl c_h_on)), (h, .inr (2, [.int h_features, .ref h_featureNames, .ref h_steps, .ref h_turnedFeatures, .ref h_sixteenths, .int h_keys, .ref h_keySteps, .int h_lent, .int h_rings, .ref h_on, .ref h_onMany, .int h_doors, .ref h_wanted, .ref h_openers, .ref h_seconds, .int h_turned, .int h_roundMany, .ref h_roundDoors])), (h_onMany, .inl (cA.1 0, 3, .inl c_h_onMany))] := hD
  have hx_r_1 := hw
  refine lv_istore (lv' := [(4, .int r_1), (0, .ref h), (1, .int x), (2, .int y), (3, .int k)]) hx hb dX2_putOn_5 hl (by decide) rfl (fun ls hl => ?_)
  refine lv_aload_n hx hb dX2_putOn_7 rfl (lv_at hl 1 rfl) ?_
  refine lv_iload_n hx hb dX2_putOn_8 rfl (lv_at hl 3 rfl) ?_
  refine z_callVi (As := [.int y]) (rest := []) (wr := [(h_on, .inl (cA.1 0, 30, .inl c_h_on)), (h_onMany, .inl (cA.1 0, 3, .inl c_h_onMany))]) ⟨hx, hb, hml, hown, hts⟩ hK hE hT hP hD hS hA (d_H_hasRing l G cA h h_features h_featureNames h_steps h_turnedFeatures h_sixteenths h_keys h_keySteps h_lent h_rings h_on h_onMany h_doors h_wanted h_openers h_seconds h_turned h_roundMany h_roundDoors y (by omega)) lk_RX2_110 ⟨rfl, rfl⟩ ⟨Nat.le_of_ble_eq_true rfl, Nat.le_of_ble_eq_true rfl⟩ 2 rfl rfl rfl [1] [0, 2] rfl rfl (by decide) rfl hl.1 rfl (lv_room (Nat.le_of_ble_eq_true rfl)) dX2_putOn_9 ⟨Nat.le_of_ble_eq_true rfl, Nat.le_of_ble_eq_true rfl⟩ (fun r_3 u_4 H locs hw hP hD hS => ?_)
  have hP : va_P G vwCl [(h_on, .inl (cA.1 0, 30, .inl c_h_on)), (h_onMany, .inl (cA.1 0, 3, .inl c_h_onMany)), (h, .inr (2, [.int h_features, .ref h_featureNames, .ref h_steps, .ref h_turnedFeatures, .ref h_sixteenths, .int h_keys, .ref h_keySteps, .int h_lent, .int h_rings, .ref h_on, .ref h_onMany, .int h_doors, .ref h_wanted, .ref h_openers, .ref h_seconds, .int h_turned, .int h_roundMany, .ref h_roundDoors]))] H := hP
  have hD : va_D A [(h_on, .inl (cA.1 0, 30, .inl c_h_on)), (h_onMany, .inl (cA.1 0, 3, .inl c_h_onMany)), (h, .inr (2, [.int h_features, .ref h_featureNames, .ref h_steps, .ref h_turnedFeatures, .ref h_sixteenths, .int h_keys, .ref h_keySteps, .int h_lent, .int h_rings, .ref h_on, .ref h_onMany, .int h_doors, .ref h_wanted, .ref h_openers, .ref h_seconds, .int h_turned, .int h_roundMany, .ref h_roundDoors]))] := hD
  obtain ⟨hx_r_3, hz_r_3⟩ := hw
  refine lv_if_eq (tgt := 22) hx hb dX2_putOn_12 (by decide) (fun c_5 => ?_) (fun c_5 => ?_)
  · skip
    exact hret _ _ _ _ _ (c_h_on, c_h_onMany) [2, 0, 1] hP hD hS rfl (by decide) dX2_putOn_22 hO_c_h_onMany
  · skip
    refine lv_iload hx hb dX2_putOn_15 (lv_at hl 0 rfl) ?_
    refine lv_bipush (v := 10) hx hb dX2_putOn_17 (by decide) ?_
    refine lv_icmp_lt (tgt := 23) hx hb dX2_putOn_19 (by decide) (fun c_8 => ?_) (fun c_8 => ?_)
    · have b_9 := z_b3 c_8 (K := 10) (by decide +kernel)
      refine lv_aload_n hx hb dX2_putOn_23 rfl (lv_at hl 1 rfl) ?_
      refine va_get (D := G) (ci := 2) (v := .ref h_onMany) (C := RX2) (T := TX2) (N := 18) hx hb hts inT2 hown hK hP 2 rfl rfl 10 (by decide) (hts _ tw_284) (fun _ h9 => h9) rfl dX2_putOn_24 ?_
      refine lv_iload_n hx hb dX2_putOn_27 rfl (lv_at hl 3 rfl) ?_
      refine lv_iload hx hb dX2_putOn_28 (lv_at hl 0 rfl) ?_
      refine lv_iconst (v := 1) hx hb dX2_putOn_30 (by decide) ?_
      refine lv_iadd hx hb dX2_putOn_31 ?_
      refine z_callSNv (As := [.ref h_onMany, .int y, .int (r_1 + 1)]) (rest := []) (wr := [(h_on, .inl (cA.1 0, 30, .inl c_h_on)), (h, .inr (2, [.int h_features, .ref h_featureNames, .ref h_steps, .ref h_turnedFeatures, .ref h_sixteenths, .int h_keys, .ref h_keySteps, .int h_lent, .int h_rings, .ref h_on, .ref h_onMany, .int h_doors, .ref h_wanted, .ref h_openers, .ref h_seconds, .int h_turned, .int h_roundMany, .ref h_roundDoors]))]) ⟨hx, hb, hml, hown, hts⟩ hK hE hT hP hD hS hA (d_keepAt_3 l G cA h_onMany c_h_onMany y (r_1 + 1)) lk_RX2_126 ⟨rfl, rfl⟩ ⟨Nat.le_of_ble_eq_true rfl, Nat.le_of_ble_eq_true rfl⟩ [1] [0, 2] rfl rfl (by decide) rfl hl.1 rfl (lv_room (Nat.le_of_ble_eq_true rfl)) dX2_putOn_32 ⟨Nat.le_of_ble_eq_true rfl, Nat.le_of_ble_eq_true rfl⟩ (fun u_12 H locs hw hP hD hS => ?_)
      obtain ⟨nw0_10, rfl⟩ : ∃ z, z = u_12 := ⟨_, rfl⟩
      have hP : va_P G vwCl [(h_on, .inl (cA.1 0, 30, .inl c_h_on)), (h, .inr (2, [.int h_features, .ref h_featureNames, .ref h_steps, .ref h_turnedFeatures, .ref h_sixteenths, .int h_keys, .ref h_keySteps, .int h_lent, .int h_rings, .ref h_on, .ref h_onMany, .int h_doors, .ref h_wanted, .ref h_openers, .ref h_seconds, .int h_turned, .int h_roundMany, .ref h_roundDoors])), (h_onMany, .inl (cA.1 0, 3, .inl nw0_10))] H := hP
      have hD : va_D A [(h_on, .inl (cA.1 0, 30, .inl c_h_on)), (h, .inr (2, [.int h_features, .ref h_featureNames, .ref h_steps, .ref h_turnedFeatures, .ref h_sixteenths, .int h_keys, .ref h_keySteps, .int h_lent, .int h_rings, .ref h_on, .ref h_onMany, .int h_doors, .ref h_wanted, .ref h_openers, .ref h_seconds, .int h_turned, .int h_roundMany, .ref h_roundDoors])), (h_onMany, .inl (cA.1 0, 3, .inl nw0_10))] := hD
      have hx_nw0_10 := hw
      have hv_nw0_10 : (r_1 + 1).toInt = r_1.toInt + 1 := z_addI (K := 1) (by decide +kernel) (by omega) (by omega)
      have hO_nw0_10 := zOM_keep hO_c_h_onMany hx_nw0_10 (by omega)
      refine lv_iload hx hb dX2_putOn_35 (lv_at hl 0 rfl) ?_
      refine lv_istore (lv' := [(5, .int r_1), (4, .int r_1), (0, .ref h), (1, .int x), (2, .int y), (3, .int k)]) hx hb dX2_putOn_37 hl (by decide) rfl (fun ls hl => ?_)
      have hlp_33 : ∀ (n : Nat) (v_31 : Int32) (g_32 : Nat → Int32) (H : Heap) (locs : List Loc) (ls : Array Slot), (v_31.toInt + 2147483648).toNat < n → va_P G vwCl [(h_on, .inl (cA.1 0, 30, .inl g_32)), (h, .inr (2, [.int h_features, .ref h_featureNames, .ref h_steps, .ref h_turnedFeatures, .ref h_sixteenths, .int h_keys, .ref h_keySteps, .int h_lent, .int h_rings, .ref h_on, .ref h_onMany, .int h_doors, .ref h_wanted, .ref h_openers, .ref h_seconds, .int h_turned, .int h_roundMany, .ref h_roundDoors])), (h_onMany, .inl (cA.1 0, 3, .inl nw0_10))] H → va_D A [(h_on, .inl (cA.1 0, 30, .inl g_32)), (h, .inr (2, [.int h_features, .ref h_featureNames, .ref h_steps, .ref h_turnedFeatures, .ref h_sixteenths, .int h_keys, .ref h_keySteps, .int h_lent, .int h_rings, .ref h_on, .ref h_onMany, .int h_doors, .ref h_wanted, .ref h_openers, .ref h_seconds, .int h_turned, .int h_roundMany, .ref h_roundDoors])), (h_onMany, .inl (cA.1 0, 3, .inl nw0_10))] → va_S A s.heap H locs → lv_has ls 6 [(0, .ref h), (1, .int x), (2, .int y), (3, .int k), (4, .int r_1), (5, .int v_31)] → W p l e ({ frames := 3, cells := 0, slots := 0, locals := 65 }) s m args below meth c H locs 0 0 Q (F0 m 39 ls []) := by
        intro n
        induction n with
        | zero =>
          intro v_31 g_32 H locs ls hmu_hlp_33 hP hD hS hl
          exact absurd hmu_hlp_33 (Nat.not_lt_zero _)
        | succ n ih_34 =>
          intro v_31 g_32 H locs ls hmu_hlp_33 hP hD hS hl
          refine lv_iload hx hb dX2_putOn_39 (lv_at hl 5 rfl) ?_
          refine lv_iload_n hx hb dX2_putOn_41 rfl (lv_at hl 3 rfl) ?_
          refine lv_icmp_le (tgt := 67) hx hb dX2_putOn_42 (by decide) (fun c_35 => ?_) (fun c_35 => ?_)
          · have b_36 := z_s5 c_35
            refine lv_aload_n hx hb dX2_putOn_67 rfl (lv_at hl 0 rfl) ?_
            refine lv_iload_n hx hb dX2_putOn_68 rfl (lv_at hl 2 rfl) ?_
            refine lv_iload_n hx hb dX2_putOn_69 rfl (lv_at hl 3 rfl) ?_
            refine lv_iload_n hx hb dX2_putOn_70 rfl (lv_at hl 1 rfl) ?_
            refine z_callVv (As := [.int y, .int k, .int x]) (rest := []) (wr := []) ⟨hx, hb, hml, hown, hts⟩ hK hE hT hP hD hS hA (d_H_layAt l G cA h h_features h_featureNames h_steps h_turnedFeatures h_sixteenths h_keys h_keySteps h_lent h_rings h_on h_onMany h_doors h_wanted h_openers h_seconds h_turned h_roundMany h_roundDoors g_32 nw0_10 y k x (by omega) hO_nw0_10) lk_RX2_148 ⟨rfl, rfl⟩ ⟨Nat.le_of_ble_eq_true rfl, Nat.le_of_ble_eq_true rfl⟩ 2 rfl rfl rfl [1, 0, 2] [] rfl rfl (by decide) rfl hl.1 rfl (lv_room (Nat.le_of_ble_eq_true rfl)) dX2_putOn_71 ⟨Nat.le_of_ble_eq_true rfl, Nat.le_of_ble_eq_true rfl⟩ (fun u_39 H locs hw hP hD hS => ?_)
            obtain ⟨nw0_37, rfl⟩ : ∃ z, z = u_39 := ⟨_, rfl⟩
            have hP : va_P G vwCl [(h, .inr (2, [.int h_features, .ref h_featureNames, .ref h_steps, .ref h_turnedFeatures, .ref h_sixteenths, .int h_keys, .ref h_keySteps, .int h_lent, .int h_rings, .ref h_on, .ref h_onMany, .int h_doors, .ref h_wanted, .ref h_openers, .ref h_seconds, .int h_turned, .int h_roundMany, .ref h_roundDoors])), (h_on, .inl (cA.1 0, 30, .inl nw0_37)), (h_onMany, .inl (cA.1 0, 3, .inl nw0_10))] H := hP
            have hD : va_D A [(h, .inr (2, [.int h_features, .ref h_featureNames, .ref h_steps, .ref h_turnedFeatures, .ref h_sixteenths, .int h_keys, .ref h_keySteps, .int h_lent, .int h_rings, .ref h_on, .ref h_onMany, .int h_doors, .ref h_wanted, .ref h_openers, .ref h_seconds, .int h_turned, .int h_roundMany, .ref h_roundDoors])), (h_on, .inl (cA.1 0, 30, .inl nw0_37)), (h_onMany, .inl (cA.1 0, 3, .inl nw0_10))] := hD
            exact hret _ _ _ _ _ (nw0_37, nw0_10) [0, 1, 2] hP hD hS rfl (by decide) dX2_putOn_74 hO_nw0_10
          · have b_40 := z_t6 c_35
            refine lv_aload_n hx hb dX2_putOn_45 rfl (lv_at hl 0 rfl) ?_
            refine lv_iload_n hx hb dX2_putOn_46 rfl (lv_at hl 2 rfl) ?_
            refine lv_iload hx hb dX2_putOn_47 (lv_at hl 5 rfl) ?_
            refine lv_aload_n hx hb dX2_putOn_49 rfl (lv_at hl 0 rfl) ?_
            refine lv_iload_n hx hb dX2_putOn_50 rfl (lv_at hl 2 rfl) ?_
            refine lv_iload hx hb dX2_putOn_51 (lv_at hl 5 rfl) ?_
            refine lv_iconst (v := 1) hx hb dX2_putOn_53 (by decide) ?_
            refine lv_isub hx hb dX2_putOn_54 ?_
            refine z_callVi (As := [.int y, .int (v_31 - 1)]) (rest := [.int v_31, .int y, .ref h]) (wr := []) ⟨hx, hb, hml, hown, hts⟩ hK hE hT hP hD hS hA (d_H_keyOn l G cA h h_features h_featureNames h_steps h_turnedFeatures h_sixteenths h_keys h_keySteps h_lent h_rings h_on h_onMany h_doors h_wanted h_openers h_seconds h_turned h_roundMany h_roundDoors g_32 nw0_10 y (v_31 - 1) (by omega) hO_nw0_10) lk_RX2_116 ⟨rfl, rfl⟩ ⟨Nat.le_of_ble_eq_true rfl, Nat.le_of_ble_eq_true rfl⟩ 2 rfl rfl rfl [1, 0, 2] [] rfl rfl (by decide) rfl hl.1 rfl (lv_room (Nat.le_of_ble_eq_true rfl)) dX2_putOn_55 ⟨Nat.le_of_ble_eq_true rfl, Nat.le_of_ble_eq_true rfl⟩ (fun r_41 u_42 H locs hw hP hD hS => ?_)
            have hP : va_P G vwCl [(h, .inr (2, [.int h_features, .ref h_featureNames, .ref h_steps, .ref h_turnedFeatures, .ref h_sixteenths, .int h_keys, .ref h_keySteps, .int h_lent, .int h_rings, .ref h_on, .ref h_onMany, .int h_doors, .ref h_wanted, .ref h_openers, .ref h_seconds, .int h_turned, .int h_roundMany, .ref h_roundDoors])), (h_on, .inl (cA.1 0, 30, .inl g_32)), (h_onMany, .inl (cA.1 0, 3, .inl nw0_10))] H := hP
            have hD : va_D A [(h, .inr (2, [.int h_features, .ref h_featureNames, .ref h_steps, .ref h_turnedFeatures, .ref h_sixteenths, .int h_keys, .ref h_keySteps, .int h_lent, .int h_rings, .ref h_on, .ref h_onMany, .int h_doors, .ref h_wanted, .ref h_openers, .ref h_seconds, .int h_turned, .int h_roundMany, .ref h_roundDoors])), (h_on, .inl (cA.1 0, 30, .inl g_32)), (h_onMany, .inl (cA.1 0, 3, .inl nw0_10))] := hD
            refine z_callVv (As := [.int y, .int v_31, .int r_41]) (rest := []) (wr := []) ⟨hx, hb, hml, hown, hts⟩ hK hE hT hP hD hS hA (d_H_layAt l G cA h h_features h_featureNames h_steps h_turnedFeatures h_sixteenths h_keys h_keySteps h_lent h_rings h_on h_onMany h_doors h_wanted h_openers h_seconds h_turned h_roundMany h_roundDoors g_32 nw0_10 y v_31 r_41 (by omega) hO_nw0_10) lk_RX2_148 ⟨rfl, rfl⟩ ⟨Nat.le_of_ble_eq_true rfl, Nat.le_of_ble_eq_true rfl⟩ 2 rfl rfl rfl [0, 1, 2] [] rfl rfl (by decide) rfl hl.1 rfl (lv_room (Nat.le_of_ble_eq_true rfl)) dX2_putOn_58 ⟨Nat.le_of_ble_eq_true rfl, Nat.le_of_ble_eq_true rfl⟩ (fun u_45 H locs hw hP hD hS => ?_)
            obtain ⟨nw0_43, rfl⟩ : ∃ z, z = u_45 := ⟨_, rfl⟩
            have hP : va_P G vwCl [(h, .inr (2, [.int h_features, .ref h_featureNames, .ref h_steps, .ref h_turnedFeatures, .ref h_sixteenths, .int h_keys, .ref h_keySteps, .int h_lent, .int h_rings, .ref h_on, .ref h_onMany, .int h_doors, .ref h_wanted, .ref h_openers, .ref h_seconds, .int h_turned, .int h_roundMany, .ref h_roundDoors])), (h_on, .inl (cA.1 0, 30, .inl nw0_43)), (h_onMany, .inl (cA.1 0, 3, .inl nw0_10))] H := hP
            have hD : va_D A [(h, .inr (2, [.int h_features, .ref h_featureNames, .ref h_steps, .ref h_turnedFeatures, .ref h_sixteenths, .int h_keys, .ref h_keySteps, .int h_lent, .int h_rings, .ref h_on, .ref h_onMany, .int h_doors, .ref h_wanted, .ref h_openers, .ref h_seconds, .int h_turned, .int h_roundMany, .ref h_roundDoors])), (h_on, .inl (cA.1 0, 30, .inl nw0_43)), (h_onMany, .inl (cA.1 0, 3, .inl nw0_10))] := hD
            refine lv_iinc (v := (v_31 + (-1))) (lv' := [(5, .int (v_31 + (-1))), (0, .ref h), (1, .int x), (2, .int y), (3, .int k), (4, .int r_1)]) hx hb dX2_putOn_61 hl (k := 5) rfl (z_ofi (by decide +kernel)) (by decide) rfl (fun ls hl => ?_)
            refine lv_goto (tgt := 39) hx hb dX2_putOn_64 (by decide) ?_
            have hP := hP.sub (ws' := [(h_on, .inl (cA.1 0, 30, .inl nw0_43)), (h, .inr (2, [.int h_features, .ref h_featureNames, .ref h_steps, .ref h_turnedFeatures, .ref h_sixteenths, .int h_keys, .ref h_keySteps, .int h_lent, .int h_rings, .ref h_on, .ref h_onMany, .int h_doors, .ref h_wanted, .ref h_openers, .ref h_seconds, .int h_turned, .int h_roundMany, .ref h_roundDoors])), (h_onMany, .inl (cA.1 0, 3, .inl nw0_10))]) [1, 0, 2] rfl
            have hD := hD.sub (ws' := [(h_on, .inl (cA.1 0, 30, .inl nw0_43)), (h, .inr (2, [.int h_features, .ref h_featureNames, .ref h_steps, .ref h_turnedFeatures, .ref h_sixteenths, .int h_keys, .ref h_keySteps, .int h_lent, .int h_rings, .ref h_on, .ref h_onMany, .int h_doors, .ref h_wanted, .ref h_openers, .ref h_seconds, .int h_turned, .int h_roundMany, .ref h_roundDoors])), (h_onMany, .inl (cA.1 0, 3, .inl nw0_10))]) [1, 0, 2] (by decide) rfl
            exact ih_34 (v_31 + (-1)) nw0_43 H locs ls (z_dn hmu_hlp_33 (by omega) trivial) hP hD hS (lv_sub hl [1, 2, 3, 4, 5, 0] rfl)
      exact hlp_33 _ r_1 c_h_on _ _ _ (Nat.lt_succ_self _) hP hD hS (lv_sub hl [2, 3, 4, 5, 1, 0] rfl)
    · have b_46 := z_b4 c_8 (K := 10) (by decide +kernel)
      exact hret _ _ _ _ _ (c_h_on, c_h_onMany) [2, 0, 1] hP hD hS rfl (by decide) dX2_putOn_22 hO_c_h_onMany
set_option maxHeartbeats 4000000 in
set_option maxRecDepth 100000 in
theorem d_H_takeOff (l : Launch) (G : va_G) (cA : zCA) (h : Nat) (h_features : Int32) (h_featureNames : Nat) (h_steps : Nat) (h_turnedFeatures : Nat) (h_sixteenths : Nat) (h_keys : Int32) (h_keySteps : Nat) (h_lent : Int32) (h_rings : Int32) (h_on : Nat) (h_onMany : Nat) (h_doors : Int32) (h_wanted : Nat) (h_openers : Nat) (h_seconds : Nat) (h_turned : Int32) (h_roundMany : Int32) (h_roundDoors : Nat) (c_h_on : Nat → Int32) (c_h_onMany : Nat → Int32) (x : Int32) (y : Int32) (hm_h_features : 0 ≤ h_features.toInt ∧ h_features.toInt ≤ 3) (hO_c_h_onMany : zOM c_h_onMany) : zCv l yX2_takeOff cX2_takeOff 6 none ({ frames := 4, cells := 0, slots := 0, locals := 87 }) G cA [.ref h, .int x, .int y] [(h, .inr (2, [.int h_features, .ref h_featureNames, .ref h_steps, .ref h_turnedFeatures, .ref h_sixteenths, .int h_keys, .ref h_keySteps, .int h_lent, .int h_rings, .ref h_on, .ref h_onMany, .int h_doors, .ref h_wanted, .ref h_openers, .ref h_seconds, .int h_turned, .int h_roundMany, .ref h_roundDoors])), (h_on, .inl (cA.1 0, 30, .inl c_h_on)), (h_onMany, .inl (cA.1 0, 3, .inl c_h_onMany))] (S := (Nat → Int32) × (Nat → Int32)) (fun (u : (Nat → Int32) × (Nat → Int32)) => zOM u.2) (fun (u : (Nat → Int32) × (Nat → Int32)) => [(h, .inr (2, [.int h_features, .ref h_featureNames, .ref h_steps, .ref h_turnedFeatures, .ref h_sixteenths, .int h_keys, .ref h_keySteps, .int h_lent, .int h_rings, .ref h_on, .ref h_onMany, .int h_doors, .ref h_wanted, .ref h_openers, .ref h_seconds, .int h_turned, .int h_roundMany, .ref h_roundDoors])), (h_on, .inl (cA.1 0, 30, .inl u.1)), (h_onMany, .inl (cA.1 0, 3, .inl u.2))]) 0 0 := by
  refine z_start2v (own := RX2) (by decide) (Nat.le_of_ble_eq_true rfl) rfl ?_
  intro p e s m args below meth c A ls Q hx hb hml hts hown hK hE hT hP hD hS hA hl hret
  have hl : lv_has ls 6 [(0, .ref h), (1, .int x), (2, .int y)] := hl
  refine lv_aload_n hx hb dX2_takeOff_0 rfl (lv_at hl 0 rfl) ?_
  refine lv_iload_n hx hb dX2_takeOff_1 rfl (lv_at hl 2 rfl) ?_
  refine lv_iload_n hx hb dX2_takeOff_2 rfl (lv_at hl 1 rfl) ?_
  refine z_callVi (As := [.int y, .int x]) (rest := []) (wr := []) ⟨hx, hb, hml, hown, hts⟩ hK hE hT hP hD hS hA (d_H_placeOn l G cA h h_features h_featureNames h_steps h_turnedFeatures h_sixteenths h_keys h_keySteps h_lent h_rings h_on h_onMany h_doors h_wanted h_openers h_seconds h_turned h_roundMany h_roundDoors c_h_on c_h_onMany y x (by omega) hO_c_h_onMany) lk_RX2_120 ⟨rfl, rfl⟩ ⟨Nat.le_of_ble_eq_true rfl, Nat.le_of_ble_eq_true rfl⟩ 2 rfl rfl rfl [0, 1, 2] [] rfl rfl (by decide) rfl hl.1 rfl (lv_room (Nat.le_of_ble_eq_true rfl)) dX2_takeOff_3 ⟨Nat.le_of_ble_eq_true rfl, Nat.le_of_ble_eq_true rfl⟩ (fun r_1 u_2 H locs hw hP hD hS => ?_)
  have hP : va_P G vwCl [(h, .inr (2, [.int h_features, .ref h_featureNames, .ref h_steps, .ref h_turnedFeatures, .ref h_sixteenths, .int h_keys, .ref h_keySteps, .int h_lent, .int h_rings, .ref h_on, .ref h_onMany, .int h_doors, .ref h_wanted, .ref h_openers, .ref h_seconds, .int h_turned, .int h_roundMany, .ref h_roundDoors])), (h_on, .inl (cA.1 0, 30, .inl c_h_on)), (h_onMany, .inl (cA.1 0, 3, .inl c_h_onMany))] H := hP
  have hD : va_D A [(h, .inr (2, [.int h_features, .ref h_featureNames, .ref h_steps, .ref h_turnedFeatures, .ref h_sixteenths, .int h_keys, .ref h_keySteps, .int h_lent, .int h_rings, .ref h_on, .ref h_onMany, .int h_doors, .ref h_wanted, .ref h_openers, .ref h_seconds, .int h_turned, .int h_roundMany, .ref h_roundDoors])), (h_on, .inl (cA.1 0, 30, .inl c_h_on)), (h_onMany, .inl (cA.1 0, 3, .inl c_h_onMany))] := hD
  have hx_r_1 := hw
  refine lv_istore_n (lv' := [(3, .int r_1), (0, .ref h), (1, .int x), (2, .int y)]) hx hb dX2_takeOff_6 rfl hl (by decide) rfl (fun ls hl => ?_)
  refine lv_iload_n hx hb dX2_takeOff_7 rfl (lv_at hl 0 rfl) ?_
  refine lv_iconst (v := (-1)) hx hb dX2_takeOff_8 (by decide) ?_
  refine lv_icmp_ne (tgt := 13) hx hb dX2_takeOff_9 (by decide) (fun c_3 => ?_) (fun c_3 => ?_)
  · have b_4 : r_1.toInt ≠ (-1) := fun h9 => c_3 (Int32.toInt_inj.mp (h9.trans (by decide +kernel)))
    refine lv_aload_n hx hb dX2_takeOff_13 rfl (lv_at hl 1 rfl) ?_
    refine lv_iload_n hx hb dX2_takeOff_14 rfl (lv_at hl 3 rfl) ?_
    refine z_callVi (As := [.int y]) (rest := []) (wr := [(h_on, .inl (cA.1 0, 30, .inl c_h_on))]) ⟨hx, hb, hml, hown, hts⟩ hK hE hT hP hD hS hA (d_H_manyOn l G cA h h_features h_featureNames h_steps h_turnedFeatures h_sixteenths h_keys h_keySteps h_lent h_rings h_on h_onMany h_doors h_wanted h_openers h_seconds h_turned h_roundMany h_roundDoors c_h_onMany y (by omega) hO_c_h_onMany) lk_RX2_113 ⟨rfl, rfl⟩ ⟨Nat.le_of_ble_eq_true rfl, Nat.le_of_ble_eq_true rfl⟩ 2 rfl rfl rfl [0, 2] [1] rfl rfl (by decide) rfl hl.1 rfl (lv_room (Nat.le_of_ble_eq_true rfl)) dX2_takeOff_15 ⟨Nat.le_of_ble_eq_true rfl, Nat.le_of_ble_eq_true rfl⟩ (fun r_5 u_6 H locs hw hP hD hS => ?_)
    have hP : va_P G vwCl [(h_on, .inl (cA.1 0, 30, .inl c_h_on)), (h, .inr (2, [.int h_features, .ref h_featureNames, .ref h_steps, .ref h_turnedFeatures, .ref h_sixteenths, .int h_keys, .ref h_keySteps, .int h_lent, .int h_rings, .ref h_on, .ref h_onMany, .int h_doors, .ref h_wanted, .ref h_openers, .ref h_seconds, .int h_turned, .int h_roundMany, .ref h_roundDoors])), (h_onMany, .inl (cA.1 0, 3, .inl c_h_onMany))] H := hP
    have hD : va_D A [(h_on, .inl (cA.1 0, 30, .inl c_h_on)), (h, .inr (2, [.int h_features, .ref h_featureNames, .ref h_steps, .ref h_turnedFeatures, .ref h_sixteenths, .int h_keys, .ref h_keySteps, .int h_lent, .int h_rings, .ref h_on, .ref h_onMany, .int h_doors, .ref h_wanted, .ref h_openers, .ref h_seconds, .int h_turned, .int h_roundMany, .ref h_roundDoors])), (h_onMany, .inl (cA.1 0, 3, .inl c_h_onMany))] := hD
    have hx_r_5 := hw
    refine lv_iconst (v := 1) hx hb dX2_takeOff_18 (by decide) ?_
    refine lv_isub hx hb dX2_takeOff_19 ?_
    refine lv_istore (lv' := [(4, .int (r_5 - 1)), (3, .int r_1), (0, .ref h), (1, .int x), (2, .int y)]) hx hb dX2_takeOff_20 hl (by decide) rfl (fun ls hl => ?_)
    refine lv_iload_n hx hb dX2_takeOff_22 rfl (lv_at hl 1 rfl) ?_
    refine lv_istore (lv' := [(5, .int r_1), (4, .int (r_5 - 1)), (3, .int r_1), (0, .ref h), (1, .int x), (2, .int y)]) hx hb dX2_takeOff_23 hl (by decide) rfl (fun ls hl => ?_)
    have hlp_27 : ∀ (n : Nat) (v_25 : Int32) (g_26 : Nat → Int32) (H : Heap) (locs : List Loc) (ls : Array Slot), (2147483647 - v_25.toInt).toNat < n → va_P G vwCl [(h_on, .inl (cA.1 0, 30, .inl g_26)), (h, .inr (2, [.int h_features, .ref h_featureNames, .ref h_steps, .ref h_turnedFeatures, .ref h_sixteenths, .int h_keys, .ref h_keySteps, .int h_lent, .int h_rings, .ref h_on, .ref h_onMany, .int h_doors, .ref h_wanted, .ref h_openers, .ref h_seconds, .int h_turned, .int h_roundMany, .ref h_roundDoors])), (h_onMany, .inl (cA.1 0, 3, .inl c_h_onMany))] H → va_D A [(h_on, .inl (cA.1 0, 30, .inl g_26)), (h, .inr (2, [.int h_features, .ref h_featureNames, .ref h_steps, .ref h_turnedFeatures, .ref h_sixteenths, .int h_keys, .ref h_keySteps, .int h_lent, .int h_rings, .ref h_on, .ref h_onMany, .int h_doors, .ref h_wanted, .ref h_openers, .ref h_seconds, .int h_turned, .int h_roundMany, .ref h_roundDoors])), (h_onMany, .inl (cA.1 0, 3, .inl c_h_onMany))] → va_S A s.heap H locs → lv_has ls 6 [(0, .ref h), (1, .int x), (2, .int y), (3, .int r_1), (4, .int (r_5 - 1)), (5, .int v_25)] → W p l e ({ frames := 4, cells := 0, slots := 0, locals := 87 }) s m args below meth c H locs 0 0 Q (F0 m 25 ls []) := by
      intro n
      induction n with
      | zero =>
        intro v_25 g_26 H locs ls hmu_hlp_27 hP hD hS hl
        exact absurd hmu_hlp_27 (Nat.not_lt_zero _)
      | succ n ih_28 =>
        intro v_25 g_26 H locs ls hmu_hlp_27 hP hD hS hl
        refine lv_iload hx hb dX2_takeOff_25 (lv_at hl 5 rfl) ?_
        refine lv_iload hx hb dX2_takeOff_27 (lv_at hl 4 rfl) ?_
        refine lv_icmp_ge (tgt := 54) hx hb dX2_takeOff_29 (by decide) (fun c_29 => ?_) (fun c_29 => ?_)
        · have b_30 := z_s1 c_29
          refine lv_aload_n hx hb dX2_takeOff_54 rfl (lv_at hl 0 rfl) ?_
          refine va_get (D := G) (ci := 2) (v := .ref h_onMany) (C := RX2) (T := TX2) (N := 18) hx hb hts inT2 hown hK hP 1 rfl rfl 10 (by decide) (hts _ tw_284) (fun _ h9 => h9) rfl dX2_takeOff_55 ?_
          refine lv_iload_n hx hb dX2_takeOff_58 rfl (lv_at hl 2 rfl) ?_
          refine lv_iload hx hb dX2_takeOff_59 (lv_at hl 4 rfl) ?_
          refine z_callSNv (As := [.ref h_onMany, .int y, .int (r_5 - 1)]) (rest := []) (wr := [(h_on, .inl (cA.1 0, 30, .inl g_26)), (h, .inr (2, [.int h_features, .ref h_featureNames, .ref h_steps, .ref h_turnedFeatures, .ref h_sixteenths, .int h_keys, .ref h_keySteps, .int h_lent, .int h_rings, .ref h_on, .ref h_onMany, .int h_doors, .ref h_wanted, .ref h_openers, .ref h_seconds, .int h_turned, .int h_roundMany, .ref h_roundDoors]))]) ⟨hx, hb, hml, hown, hts⟩ hK hE hT hP hD hS hA (d_keepAt_3 l G cA h_onMany c_h_onMany y (r_5 - 1)) lk_RX2_126 ⟨rfl, rfl⟩ ⟨Nat.le_of_ble_eq_true rfl, Nat.le_of_ble_eq_true rfl⟩ [2] [0, 1] rfl rfl (by decide) rfl hl.1 rfl (lv_room (Nat.le_of_ble_eq_true rfl)) dX2_takeOff_61 ⟨Nat.le_of_ble_eq_true rfl, Nat.le_of_ble_eq_true rfl⟩ (fun u_33 H locs hw hP hD hS => ?_)
          obtain ⟨nw0_31, rfl⟩ : ∃ z, z = u_33 := ⟨_, rfl⟩
          have hP : va_P G vwCl [(h_on, .inl (cA.1 0, 30, .inl g_26)), (h, .inr (2, [.int h_features, .ref h_featureNames, .ref h_steps, .ref h_turnedFeatures, .ref h_sixteenths, .int h_keys, .ref h_keySteps, .int h_lent, .int h_rings, .ref h_on, .ref h_onMany, .int h_doors, .ref h_wanted, .ref h_openers, .ref h_seconds, .int h_turned, .int h_roundMany, .ref h_roundDoors])), (h_onMany, .inl (cA.1 0, 3, .inl nw0_31))] H := hP
          have hD : va_D A [(h_on, .inl (cA.1 0, 30, .inl g_26)), (h, .inr (2, [.int h_features, .ref h_featureNames, .ref h_steps, .ref h_turnedFeatures, .ref h_sixteenths, .int h_keys, .ref h_keySteps, .int h_lent, .int h_rings, .ref h_on, .ref h_onMany, .int h_doors, .ref h_wanted, .ref h_openers, .ref h_seconds, .int h_turned, .int h_roundMany, .ref h_roundDoors])), (h_onMany, .inl (cA.1 0, 3, .inl nw0_31))] := hD
          have hx_nw0_31 := hw
          have hv_nw0_31 : (r_5 - 1).toInt = r_5.toInt - 1 := z_subI (K := 1) (by decide +kernel) (by omega) (by omega)
          have hO_nw0_31 := zOM_keep hO_c_h_onMany hx_nw0_31 (by omega)
          exact hret _ _ _ _ _ (g_26, nw0_31) [1, 0, 2] hP hD hS rfl (by decide) dX2_takeOff_64 hO_nw0_31
        · have b_34 := z_t2 c_29
          refine lv_aload_n hx hb dX2_takeOff_32 rfl (lv_at hl 0 rfl) ?_
          refine lv_iload_n hx hb dX2_takeOff_33 rfl (lv_at hl 2 rfl) ?_
          refine lv_iload hx hb dX2_takeOff_34 (lv_at hl 5 rfl) ?_
          refine lv_aload_n hx hb dX2_takeOff_36 rfl (lv_at hl 0 rfl) ?_
          refine lv_iload_n hx hb dX2_takeOff_37 rfl (lv_at hl 2 rfl) ?_
          refine lv_iload hx hb dX2_takeOff_38 (lv_at hl 5 rfl) ?_
          refine lv_iconst (v := 1) hx hb dX2_takeOff_40 (by decide) ?_
          refine lv_iadd hx hb dX2_takeOff_41 ?_
          refine z_callVi (As := [.int y, .int (v_25 + 1)]) (rest := [.int v_25, .int y, .ref h]) (wr := []) ⟨hx, hb, hml, hown, hts⟩ hK hE hT hP hD hS hA (d_H_keyOn l G cA h h_features h_featureNames h_steps h_turnedFeatures h_sixteenths h_keys h_keySteps h_lent h_rings h_on h_onMany h_doors h_wanted h_openers h_seconds h_turned h_roundMany h_roundDoors g_26 c_h_onMany y (v_25 + 1) (by omega) hO_c_h_onMany) lk_RX2_116 ⟨rfl, rfl⟩ ⟨Nat.le_of_ble_eq_true rfl, Nat.le_of_ble_eq_true rfl⟩ 2 rfl rfl rfl [1, 0, 2] [] rfl rfl (by decide) rfl hl.1 rfl (lv_room (Nat.le_of_ble_eq_true rfl)) dX2_takeOff_42 ⟨Nat.le_of_ble_eq_true rfl, Nat.le_of_ble_eq_true rfl⟩ (fun r_35 u_36 H locs hw hP hD hS => ?_)
          have hP : va_P G vwCl [(h, .inr (2, [.int h_features, .ref h_featureNames, .ref h_steps, .ref h_turnedFeatures, .ref h_sixteenths, .int h_keys, .ref h_keySteps, .int h_lent, .int h_rings, .ref h_on, .ref h_onMany, .int h_doors, .ref h_wanted, .ref h_openers, .ref h_seconds, .int h_turned, .int h_roundMany, .ref h_roundDoors])), (h_on, .inl (cA.1 0, 30, .inl g_26)), (h_onMany, .inl (cA.1 0, 3, .inl c_h_onMany))] H := hP
          have hD : va_D A [(h, .inr (2, [.int h_features, .ref h_featureNames, .ref h_steps, .ref h_turnedFeatures, .ref h_sixteenths, .int h_keys, .ref h_keySteps, .int h_lent, .int h_rings, .ref h_on, .ref h_onMany, .int h_doors, .ref h_wanted, .ref h_openers, .ref h_seconds, .int h_turned, .int h_roundMany, .ref h_roundDoors])), (h_on, .inl (cA.1 0, 30, .inl g_26)), (h_onMany, .inl (cA.1 0, 3, .inl c_h_onMany))] := hD
          refine z_callVv (As := [.int y, .int v_25, .int r_35]) (rest := []) (wr := []) ⟨hx, hb, hml, hown, hts⟩ hK hE hT hP hD hS hA (d_H_layAt l G cA h h_features h_featureNames h_steps h_turnedFeatures h_sixteenths h_keys h_keySteps h_lent h_rings h_on h_onMany h_doors h_wanted h_openers h_seconds h_turned h_roundMany h_roundDoors g_26 c_h_onMany y v_25 r_35 (by omega) hO_c_h_onMany) lk_RX2_148 ⟨rfl, rfl⟩ ⟨Nat.le_of_ble_eq_true rfl, Nat.le_of_ble_eq_true rfl⟩ 2 rfl rfl rfl [0, 1, 2] [] rfl rfl (by decide) rfl hl.1 rfl (lv_room (Nat.le_of_ble_eq_true rfl)) dX2_takeOff_45 ⟨Nat.le_of_ble_eq_true rfl, Nat.le_of_ble_eq_true rfl⟩ (fun u_39 H locs hw hP hD hS => ?_)
          obtain ⟨nw0_37, rfl⟩ : ∃ z, z = u_39 := ⟨_, rfl⟩
          have hP : va_P G vwCl [(h, .inr (2, [.int h_features, .ref h_featureNames, .ref h_steps, .ref h_turnedFeatures, .ref h_sixteenths, .int h_keys, .ref h_keySteps, .int h_lent, .int h_rings, .ref h_on, .ref h_onMany, .int h_doors, .ref h_wanted, .ref h_openers, .ref h_seconds, .int h_turned, .int h_roundMany, .ref h_roundDoors])), (h_on, .inl (cA.1 0, 30, .inl nw0_37)), (h_onMany, .inl (cA.1 0, 3, .inl c_h_onMany))] H := hP
          have hD : va_D A [(h, .inr (2, [.int h_features, .ref h_featureNames, .ref h_steps, .ref h_turnedFeatures, .ref h_sixteenths, .int h_keys, .ref h_keySteps, .int h_lent, .int h_rings, .ref h_on, .ref h_onMany, .int h_doors, .ref h_wanted, .ref h_openers, .ref h_seconds, .int h_turned, .int h_roundMany, .ref h_roundDoors])), (h_on, .inl (cA.1 0, 30, .inl nw0_37)), (h_onMany, .inl (cA.1 0, 3, .inl c_h_onMany))] := hD
          refine lv_iinc (v := (v_25 + 1)) (lv' := [(5, .int (v_25 + 1)), (0, .ref h), (1, .int x), (2, .int y), (3, .int r_1), (4, .int (r_5 - 1))]) hx hb dX2_takeOff_48 hl (k := 5) rfl (z_ofi (by decide +kernel)) (by decide) rfl (fun ls hl => ?_)
          refine lv_goto (tgt := 25) hx hb dX2_takeOff_51 (by decide) ?_
          have hP := hP.sub (ws' := [(h_on, .inl (cA.1 0, 30, .inl nw0_37)), (h, .inr (2, [.int h_features, .ref h_featureNames, .ref h_steps, .ref h_turnedFeatures, .ref h_sixteenths, .int h_keys, .ref h_keySteps, .int h_lent, .int h_rings, .ref h_on, .ref h_onMany, .int h_doors, .ref h_wanted, .ref h_openers, .ref h_seconds, .int h_turned, .int h_roundMany, .ref h_roundDoors])), (h_onMany, .inl (cA.1 0, 3, .inl c_h_onMany))]) [1, 0, 2] rfl
          have hD := hD.sub (ws' := [(h_on, .inl (cA.1 0, 30, .inl nw0_37)), (h, .inr (2, [.int h_features, .ref h_featureNames, .ref h_steps, .ref h_turnedFeatures, .ref h_sixteenths, .int h_keys, .ref h_keySteps, .int h_lent, .int h_rings, .ref h_on, .ref h_onMany, .int h_doors, .ref h_wanted, .ref h_openers, .ref h_seconds, .int h_turned, .int h_roundMany, .ref h_roundDoors])), (h_onMany, .inl (cA.1 0, 3, .inl c_h_onMany))]) [1, 0, 2] (by decide) rfl
          exact ih_28 (v_25 + 1) nw0_37 H locs ls (z_up hmu_hlp_27 (by omega) trivial) hP hD hS (lv_sub hl [1, 2, 3, 4, 5, 0] rfl)
    exact hlp_27 _ r_1 c_h_on _ _ _ (Nat.lt_succ_self _) hP hD hS (lv_sub hl [3, 4, 5, 2, 1, 0] rfl)
  · skip
    exact hret _ _ _ _ _ (c_h_on, c_h_onMany) [0, 1, 2] hP hD hS rfl (by decide) dX2_takeOff_12 hO_c_h_onMany
set_option maxHeartbeats 4000000 in
set_option maxRecDepth 100000 in
theorem d_Pre_checkIndex_n (l : Launch) (G : va_G) (cA : zCA) (j : Int32) (n : Int32) (hj0 : 0 ≤ j.toInt) (hj1 : j.toInt < n.toInt) : zCi l yJ3_checkIndex_8e157 cJ3_checkIndex_8e157 3 (some .int) ({ frames := 0, cells := 0, slots := 0, locals := 0 }) G cA [.int j, .int n, .null] [] (S := Unit) (fun (r : Int32) (u : Unit) => True) (fun (u : Unit) => []) 0 0 := by
  refine z_start2i (own := RJ3) (by decide) (Nat.le_of_ble_eq_true rfl) rfl ?_
  intro p e s m args below meth c A ls Q hx hb hml hts hown hK hE hT hP hD hS hA hl hret
  have hl : lv_has ls 3 [(0, .int j), (1, .int n), (2, .null)] := hl
  refine lv_iload_n hx hb dJ3_checkIndex_8e157_0 rfl (lv_at hl 0 rfl) ?_
  refine lv_if_lt (tgt := 9) hx hb dJ3_checkIndex_8e157_1 (by decide) (fun h9 => absurd h9 (fun h8 => absurd (z_b3 h8 (K := 0) (by decide +kernel)) (by omega))) (fun _ => ?_)
  refine lv_iload_n hx hb dJ3_checkIndex_8e157_4 rfl (lv_at hl 0 rfl) ?_
  refine lv_iload_n hx hb dJ3_checkIndex_8e157_5 rfl (lv_at hl 1 rfl) ?_
  refine lv_icmp_lt (tgt := 16) hx hb dJ3_checkIndex_8e157_6 (by decide) (fun _ => ?_) (fun h9 => absurd (Int32.lt_iff_toInt_lt.mpr (by omega)) h9)
  refine lv_iload_n hx hb dJ3_checkIndex_8e157_16 rfl (lv_at hl 0 rfl) ?_
  exact hret _ _ _ _ _ _ () [] hP hD hS rfl (by decide) dJ3_checkIndex_8e157_17 trivial
set_option maxHeartbeats 4000000 in
set_option maxRecDepth 100000 in
theorem d_Pre_checkIndex_r (l : Launch) (G : va_G) (cA : zCA) (j : Int32) (n : Int32) (t9 : Nat) (hj0 : 0 ≤ j.toInt) (hj1 : j.toInt < n.toInt) : zCi l yJ3_checkIndex_8e157 cJ3_checkIndex_8e157 3 (some .int) ({ frames := 0, cells := 0, slots := 0, locals := 0 }) G cA [.int j, .int n, .ref t9] [] (S := Unit) (fun (r : Int32) (u : Unit) => True) (fun (u : Unit) => []) 0 0 := by
  refine z_start2i (own := RJ3) (by decide) (Nat.le_of_ble_eq_true rfl) rfl ?_
  intro p e s m args below meth c A ls Q hx hb hml hts hown hK hE hT hP hD hS hA hl hret
  have hl : lv_has ls 3 [(0, .int j), (1, .int n), (2, .ref t9)] := hl
  refine lv_iload_n hx hb dJ3_checkIndex_8e157_0 rfl (lv_at hl 0 rfl) ?_
  refine lv_if_lt (tgt := 9) hx hb dJ3_checkIndex_8e157_1 (by decide) (fun h9 => absurd h9 (fun h8 => absurd (z_b3 h8 (K := 0) (by decide +kernel)) (by omega))) (fun _ => ?_)
  refine lv_iload_n hx hb dJ3_checkIndex_8e157_4 rfl (lv_at hl 0 rfl) ?_
  refine lv_iload_n hx hb dJ3_checkIndex_8e157_5 rfl (lv_at hl 1 rfl) ?_
  refine lv_icmp_lt (tgt := 16) hx hb dJ3_checkIndex_8e157_6 (by decide) (fun _ => ?_) (fun h9 => absurd (Int32.lt_iff_toInt_lt.mpr (by omega)) h9)
  refine lv_iload_n hx hb dJ3_checkIndex_8e157_16 rfl (lv_at hl 0 rfl) ?_
  exact hret _ _ _ _ _ _ () [] hP hD hS rfl (by decide) dJ3_checkIndex_8e157_17 trivial
set_option maxHeartbeats 4000000 in
set_option maxRecDepth 100000 in
theorem d_St_checkIndex (l : Launch) (G : va_G) (cA : zCA) (j : Int32) (n : Int32) (hj0 : 0 ≤ j.toInt) (hj1 : j.toInt < n.toInt) : zCv l yJ0_checkIndex_df160 cJ0_checkIndex_df160 2 none ({ frames := 1, cells := 0, slots := 0, locals := 22 }) G cA [.int j, .int n] [] (S := Unit) (fun (u : Unit) => True) (fun (u : Unit) => []) 0 0 := by
  refine z_start2v (own := RJ0) (by decide) (Nat.le_of_ble_eq_true rfl) rfl ?_
  intro p e s m args below meth c A ls Q hx hb hml hts hown hK hE hT hP hD hS hA hl hret
  have hl : lv_has ls 2 [(0, .int j), (1, .int n)] := hl
  refine lv_iload_n hx hb dJ0_checkIndex_df160_0 rfl (lv_at hl 0 rfl) ?_
  refine lv_iload_n hx hb dJ0_checkIndex_df160_1 rfl (lv_at hl 1 rfl) ?_
  rcases hT.2.2 with hZ | ⟨t9, hZ⟩
  · refine va_gets hx hb hZ hS hown (hts _ tw_892) (fun _ h9 => h9) dJ0_checkIndex_df160_2 ?_
    refine z_callSi (As := [.int j, .int n, .null]) (rest := []) (wr := []) ⟨hx, hb, hml, hown, hts⟩ hK hE hT hP hD hS hA (d_Pre_checkIndex_n l G cA j n hj0 hj1) lk_RJ0_1059 ⟨rfl, rfl⟩ ⟨Nat.le_of_ble_eq_true rfl, Nat.le_of_ble_eq_true rfl⟩ [] [] rfl rfl (by decide) rfl hl.1 rfl (lv_room (Nat.le_of_ble_eq_true rfl)) dJ0_checkIndex_df160_5 ⟨Nat.le_of_ble_eq_true rfl, Nat.le_of_ble_eq_true rfl⟩ (fun r_1 u_2 H locs hw hP hD hS => ?_)
    have hP : va_P G vwCl [] H := hP
    have hD : va_D A [] := hD
    refine lv_pop hx hb dJ0_checkIndex_df160_8 rfl ?_
    exact hret _ _ _ _ _ () [] hP hD hS rfl (by decide) dJ0_checkIndex_df160_9 trivial
  · refine va_gets hx hb hZ hS hown (hts _ tw_892) (fun _ h9 => h9) dJ0_checkIndex_df160_2 ?_
    refine z_callSi (As := [.int j, .int n, .ref t9]) (rest := []) (wr := []) ⟨hx, hb, hml, hown, hts⟩ hK hE hT hP hD hS hA (d_Pre_checkIndex_r l G cA j n t9 hj0 hj1) lk_RJ0_1059 ⟨rfl, rfl⟩ ⟨Nat.le_of_ble_eq_true rfl, Nat.le_of_ble_eq_true rfl⟩ [] [] rfl rfl (by decide) rfl hl.1 rfl (lv_room (Nat.le_of_ble_eq_true rfl)) dJ0_checkIndex_df160_5 ⟨Nat.le_of_ble_eq_true rfl, Nat.le_of_ble_eq_true rfl⟩ (fun r_3 u_4 H locs hw hP hD hS => ?_)
    have hP : va_P G vwCl [] H := hP
    have hD : va_D A [] := hD
    refine lv_pop hx hb dJ0_checkIndex_df160_8 rfl ?_
    exact hret _ _ _ _ _ () [] hP hD hS rfl (by decide) dJ0_checkIndex_df160_9 trivial
set_option maxHeartbeats 4000000 in
set_option maxRecDepth 100000 in
theorem d_St_coder (l : Launch) (G : va_G) (cA : zCA) (i : Nat) (hi_i : i < 42) : zCi l yJ0_coder_7d493 cJ0_coder_7d493 1 (some .byte) ({ frames := 0, cells := 0, slots := 0, locals := 0 }) G cA [.ref (cA.2.1 i)] [] (S := Unit) (fun (r : Int32) (u : Unit) => r = 0) (fun (u : Unit) => []) 0 0 := by
  refine z_start2b (own := RJ0) (by decide) (Nat.le_of_ble_eq_true rfl) rfl ?_
  intro p e s m args below meth c A ls Q hx hb hml hts hown hK hE hT hP hD hS hA hl hret
  have hl : lv_has ls 1 [(0, .ref (cA.2.1 i))] := hl
  refine va_gets hx hb hT.2.1 hS hown (hts _ tw_876) (fun _ h9 => h9) dJ0_coder_7d493_0 ?_
  refine lv_if_eq (tgt := 13) hx hb dJ0_coder_7d493_3 (by decide) (fun h9 => absurd h9 (by decide +kernel)) (fun _ => ?_)
  refine lv_aload_n hx hb dJ0_coder_7d493_6 rfl (lv_at hl 0 rfl) ?_
  refine vk_getf hx hb (hT.1 i hi_i).2.2.1 hS hown (hts _ tw_2743) (fun _ h9 => h9) dJ0_coder_7d493_7 ?_
  refine lv_goto (tgt := 14) hx hb dJ0_coder_7d493_10 (by decide) ?_
  exact hret _ _ _ _ _ _ () [] hP hD hS rfl (by decide) dJ0_coder_7d493_14 (by decide +kernel) rfl
set_option maxHeartbeats 4000000 in
set_option maxRecDepth 100000 in
theorem d_St_isLatin1 (l : Launch) (G : va_G) (cA : zCA) (i : Nat) (hi_i : i < 42) : zCi l yJ0_isLatin1_aae02 cJ0_isLatin1_aae02 1 (some .boolean) ({ frames := 0, cells := 0, slots := 0, locals := 0 }) G cA [.ref (cA.2.1 i)] [] (S := Unit) (fun (r : Int32) (u : Unit) => (r = 1) ∧ (r = 0 ∨ r = 1)) (fun (u : Unit) => []) 0 0 := by
  refine z_start2z (own := RJ0) (by decide) (Nat.le_of_ble_eq_true rfl) rfl ?_
  intro p e s m args below meth c A ls Q hx hb hml hts hown hK hE hT hP hD hS hA hl hret
  have hl : lv_has ls 1 [(0, .ref (cA.2.1 i))] := hl
  refine va_gets hx hb hT.2.1 hS hown (hts _ tw_876) (fun _ h9 => h9) dJ0_isLatin1_aae02_0 ?_
  refine lv_if_eq (tgt := 17) hx hb dJ0_isLatin1_aae02_3 (by decide) (fun h9 => absurd h9 (by decide +kernel)) (fun _ => ?_)
  refine lv_aload_n hx hb dJ0_isLatin1_aae02_6 rfl (lv_at hl 0 rfl) ?_
  refine vk_getf hx hb (hT.1 i hi_i).2.2.1 hS hown (hts _ tw_2743) (fun _ h9 => h9) dJ0_isLatin1_aae02_7 ?_
  refine lv_if_ne (tgt := 17) hx hb dJ0_isLatin1_aae02_10 (by decide) (fun h9 => absurd (by decide +kernel) h9) (fun _ => ?_)
  refine lv_iconst (v := 1) hx hb dJ0_isLatin1_aae02_13 (by decide) ?_
  refine lv_goto (tgt := 18) hx hb dJ0_isLatin1_aae02_14 (by decide) ?_
  exact hret _ _ _ _ _ _ () [] hP hD hS rfl (by decide) dJ0_isLatin1_aae02_18 (Or.inr rfl) ⟨rfl, (Or.inr rfl)⟩
set_option maxHeartbeats 4000000 in
set_option maxRecDepth 100000 in
theorem d_St_length (l : Launch) (G : va_G) (cA : zCA) (i : Nat) (hi_i : i < 42) : zCi l yJ0_length_8abf5 cJ0_length_8abf5 1 (some .int) ({ frames := 1, cells := 0, slots := 0, locals := 20 }) G cA [.ref (cA.2.1 i)] [] (S := Unit) (fun (r : Int32) (u : Unit) => r = nI (zlb i).length) (fun (u : Unit) => []) 0 0 := by
  refine z_start2i (own := RJ0) (by decide) (Nat.le_of_ble_eq_true rfl) rfl ?_
  intro p e s m args below meth c A ls Q hx hb hml hts hown hK hE hT hP hD hS hA hl hret
  have hl : lv_has ls 1 [(0, .ref (cA.2.1 i))] := hl
  refine lv_aload_n hx hb dJ0_length_8abf5_0 rfl (lv_at hl 0 rfl) ?_
  refine vk_getf hx hb (hT.1 i hi_i).2.2.2.1 hS hown (hts _ tw_2742) (fun _ h9 => h9) dJ0_length_8abf5_1 ?_
  refine va_tlen (v := nI (zlb i).length) hx hb (hT.1 i hi_i).2.2.2.2 hS rfl dJ0_length_8abf5_4 ?_
  have hln_k_1 := zlb_nI hi_i
  refine lv_aload_n hx hb dJ0_length_8abf5_5 rfl (lv_at hl 0 rfl) ?_
  refine z_callWi (As := []) (rest := [.int (nI (zlb i).length)]) (wr := []) ⟨hx, hb, hml, hown, hts⟩ hK hE hT hP hD hS hA (d_St_coder l G cA i hi_i) lk_RJ0_335 ⟨rfl, rfl⟩ ⟨Nat.le_of_ble_eq_true rfl, Nat.le_of_ble_eq_true rfl⟩ (z_rc hT hi_i hS) [] [] rfl rfl (by decide) rfl hl.1 rfl (lv_room (Nat.le_of_ble_eq_true rfl)) dJ0_length_8abf5_6 ⟨Nat.le_of_ble_eq_true rfl, Nat.le_of_ble_eq_true rfl⟩ (fun r_2 u_3 H locs hw hP hD hS => ?_)
  have hP : va_P G vwCl [] H := hP
  have hD : va_D A [] := hD
  obtain rfl : r_2 = 0 := hw
  refine lv_ishr hx hb dJ0_length_8abf5_9 ?_
  refine z_topi (y := (nI (zlb i).length)) (z_shr0 _) ?_
  exact hret _ _ _ _ _ _ () [] hP hD hS rfl (by decide) dJ0_length_8abf5_10 rfl
set_option maxHeartbeats 4000000 in
set_option maxRecDepth 100000 in
theorem d_SL_charAt (l : Launch) (G : va_G) (cA : zCA) (i : Nat) (j : Int32) (hi_i : i < 42) (hj0 : 0 ≤ j.toInt) (hj1 : j.toInt < ((zlb i).length : Int)) : zCi l yJ1_charAt_3b067 cJ1_charAt_3b067 2 (some .char) ({ frames := 2, cells := 0, slots := 0, locals := 43 }) G cA [.ref (cA.2.2 i), .int j] [] (S := Unit) (fun (r : Int32) (u : Unit) => narrow .char (.int r) = .int r) (fun (u : Unit) => []) 0 0 := by
  refine z_start2c (own := RJ1) (by decide) (Nat.le_of_ble_eq_true rfl) rfl ?_
  intro p e s m args below meth c A ls Q hx hb hml hts hown hK hE hT hP hD hS hA hl hret
  have hl : lv_has ls 2 [(0, .ref (cA.2.2 i)), (1, .int j)] := hl
  refine lv_iload_n hx hb dJ1_charAt_3b067_0 rfl (lv_at hl 1 rfl) ?_
  refine lv_aload_n hx hb dJ1_charAt_3b067_1 rfl (lv_at hl 0 rfl) ?_
  refine va_tlen (v := nI (zlb i).length) hx hb (hT.1 i hi_i).2.2.2.2 hS rfl dJ1_charAt_3b067_2 ?_
  have hln_k_1 := zlb_nI hi_i
  refine z_callSv (As := [.int j, .int (nI (zlb i).length)]) (rest := []) (wr := []) ⟨hx, hb, hml, hown, hts⟩ hK hE hT hP hD hS hA (d_St_checkIndex l G cA j (nI (zlb i).length) (by omega) (by omega)) lk_RJ1_9 ⟨rfl, rfl⟩ ⟨Nat.le_of_ble_eq_true rfl, Nat.le_of_ble_eq_true rfl⟩ [] [] rfl rfl (by decide) rfl hl.1 rfl (lv_room (Nat.le_of_ble_eq_true rfl)) dJ1_charAt_3b067_3 ⟨Nat.le_of_ble_eq_true rfl, Nat.le_of_ble_eq_true rfl⟩ (fun u_3 H locs hw hP hD hS => ?_)
  have hP : va_P G vwCl [] H := hP
  have hD : va_D A [] := hD
  refine lv_aload_n hx hb dJ1_charAt_3b067_6 rfl (lv_at hl 0 rfl) ?_
  refine lv_iload_n hx hb dJ1_charAt_3b067_7 rfl (lv_at hl 1 rfl) ?_
  refine va_tb hx hb (hT.1 i hi_i).2.2.2.2 hS (z_inN (by omega) (by omega)) rfl dJ1_charAt_3b067_8 ?_
  refine lv_topi (fun x_4 _ => ?_)
  refine lv_sipush (v := 255) hx hb dJ1_charAt_3b067_9 (by decide) ?_
  refine lv_iand hx hb dJ1_charAt_3b067_12 ?_
  refine lv_topi (fun x_5 _ => ?_)
  refine lv_i2c (v := ((x_5 : Int32).toUInt32 % 65536).toInt32) hx hb dJ1_charAt_3b067_13 rfl ?_
  obtain ⟨x_6, hc_x_6, he_x_6⟩ : ∃ z : Int32, narrow .char (.int z) = .int z ∧ ((x_5 : Int32).toUInt32 % 65536).toInt32 = z := ⟨_, pk_nc _, rfl⟩
  refine z_topi he_x_6 ?_
  exact hret _ _ _ _ _ _ () [] hP hD hS rfl (by decide) dJ1_charAt_3b067_14 hc_x_6 hc_x_6
set_option maxHeartbeats 4000000 in
set_option maxRecDepth 100000 in
theorem d_St_charAt (l : Launch) (G : va_G) (cA : zCA) (i : Nat) (j : Int32) (hi_i : i < 42) (hj0 : 0 ≤ j.toInt) (hj1 : j.toInt < ((zlb i).length : Int)) : zCi l yJ0_charAt_5068e cJ0_charAt_5068e 2 (some .char) ({ frames := 3, cells := 0, slots := 0, locals := 64 }) G cA [.ref (cA.2.1 i), .int j] [] (S := Unit) (fun (r : Int32) (u : Unit) => narrow .char (.int r) = .int r) (fun (u : Unit) => []) 0 0 := by
  refine z_start2c (own := RJ0) (by decide) (Nat.le_of_ble_eq_true rfl) rfl ?_
  intro p e s m args below meth c A ls Q hx hb hml hts hown hK hE hT hP hD hS hA hl hret
  have hl : lv_has ls 2 [(0, .ref (cA.2.1 i)), (1, .int j)] := hl
  refine lv_aload_n hx hb dJ0_charAt_5068e_0 rfl (lv_at hl 0 rfl) ?_
  refine z_callWi (As := []) (rest := []) (wr := []) ⟨hx, hb, hml, hown, hts⟩ hK hE hT hP hD hS hA (d_St_isLatin1 l G cA i hi_i) lk_RJ0_492 ⟨rfl, rfl⟩ ⟨Nat.le_of_ble_eq_true rfl, Nat.le_of_ble_eq_true rfl⟩ (z_rc hT hi_i hS) [] [] rfl rfl (by decide) rfl hl.1 rfl (lv_room (Nat.le_of_ble_eq_true rfl)) dJ0_charAt_5068e_1 ⟨Nat.le_of_ble_eq_true rfl, Nat.le_of_ble_eq_true rfl⟩ (fun r_1 u_2 H locs hw hP hD hS => ?_)
  have hP : va_P G vwCl [] H := hP
  have hD : va_D A [] := hD
  obtain rfl : r_1 = 1 := hw.1
  refine lv_if_eq (tgt := 16) hx hb dJ0_charAt_5068e_4 (by decide) (fun h9 => absurd h9 (by decide +kernel)) (fun _ => ?_)
  refine lv_aload_n hx hb dJ0_charAt_5068e_7 rfl (lv_at hl 0 rfl) ?_
  refine vk_getf hx hb (hT.1 i hi_i).2.2.2.1 hS hown (hts _ tw_2742) (fun _ h9 => h9) dJ0_charAt_5068e_8 ?_
  refine lv_iload_n hx hb dJ0_charAt_5068e_11 rfl (lv_at hl 1 rfl) ?_
  refine z_callSi (As := [.ref (cA.2.2 i), .int j]) (rest := []) (wr := []) ⟨hx, hb, hml, hown, hts⟩ hK hE hT hP hD hS hA (d_SL_charAt l G cA i j hi_i (by omega) (by omega)) lk_RJ0_495 ⟨rfl, rfl⟩ ⟨Nat.le_of_ble_eq_true rfl, Nat.le_of_ble_eq_true rfl⟩ [] [] rfl rfl (by decide) rfl hl.1 rfl (lv_room (Nat.le_of_ble_eq_true rfl)) dJ0_charAt_5068e_12 ⟨Nat.le_of_ble_eq_true rfl, Nat.le_of_ble_eq_true rfl⟩ (fun r_3 u_4 H locs hw hP hD hS => ?_)
  have hP : va_P G vwCl [] H := hP
  have hD : va_D A [] := hD
  have hc_r_3 := hw
  exact hret _ _ _ _ _ _ () [] hP hD hS rfl (by decide) dJ0_charAt_5068e_15 hc_r_3 hc_r_3
set_option maxHeartbeats 4000000 in
set_option maxRecDepth 100000 in
theorem d_fill_i (l : Launch) (G : va_G) (cA : zCA) (a : Nat) (c_a : Nat → Int32) (i1 : Int32) : zCv l yJ7_fill_53178 cJ7_fill_53178 4 none ({ frames := 0, cells := 0, slots := 0, locals := 0 }) G cA [.ref a, .int i1] [(a, .inl (cA.1 0, 3, .inl c_a))] (S := (Nat → Int32)) (fun (u : (Nat → Int32)) => True) (fun (u : (Nat → Int32)) => [(a, .inl (cA.1 0, 3, .inl u))]) 0 0 := by
  refine z_start2v (own := RJ7) (by decide) (Nat.le_of_ble_eq_true rfl) rfl ?_
  intro p e s m args below meth c A ls Q hx hb hml hts hown hK hE hT hP hD hS hA hl hret
  have hl : lv_has ls 4 [(0, .ref a), (1, .int i1)] := hl
  refine lv_iconst (v := 0) hx hb dJ7_fill_53178_0 (by decide) ?_
  refine lv_istore_n (lv' := [(2, .int 0), (0, .ref a), (1, .int i1)]) hx hb dJ7_fill_53178_1 rfl hl (by decide) rfl (fun ls hl => ?_)
  refine lv_aload_n hx hb dJ7_fill_53178_2 rfl (lv_at hl 1 rfl) ?_
  refine va_alen (v := 3) hx hb hK hP 0 0 rfl rfl (show Int32.ofNat 3 = 3 by decide +kernel) dJ7_fill_53178_3 ?_
  refine lv_istore_n (lv' := [(3, .int 3), (2, .int 0), (0, .ref a), (1, .int i1)]) hx hb dJ7_fill_53178_4 rfl hl (by decide) rfl (fun ls hl => ?_)
  have hlp_10 : ∀ (n : Nat) (v_8 : Int32) (g_9 : Nat → Int32) (H : Heap) (locs : List Loc) (ls : Array Slot), (2147483647 - v_8.toInt).toNat < n → (0 ≤ v_8.toInt) → va_P G vwCl [(a, .inl (cA.1 0, 3, .inl g_9))] H → va_D A [(a, .inl (cA.1 0, 3, .inl g_9))] → va_S A s.heap H locs → lv_has ls 4 [(0, .ref a), (1, .int i1), (2, .int v_8), (3, .int 3)] → W p l e ({ frames := 0, cells := 0, slots := 0, locals := 0 }) s m args below meth c H locs 0 0 Q (F0 m 5 ls []) := by
    intro n
    induction n with
    | zero =>
      intro v_8 g_9 H locs ls hmu_hlp_10 hi_11 hP hD hS hl
      exact absurd hmu_hlp_10 (Nat.not_lt_zero _)
    | succ n ih_12 =>
      intro v_8 g_9 H locs ls hmu_hlp_10 hi_11 hP hD hS hl
      refine lv_iload_n hx hb dJ7_fill_53178_5 rfl (lv_at hl 2 rfl) ?_
      refine lv_iload_n hx hb dJ7_fill_53178_6 rfl (lv_at hl 3 rfl) ?_
      refine lv_icmp_ge (tgt := 20) hx hb dJ7_fill_53178_7 (by decide) (fun c_13 => ?_) (fun c_13 => ?_)
      · have b_14 := z_b1 c_13 (K := 3) (by decide +kernel)
        exact hret _ _ _ _ _ g_9 [0] hP hD hS rfl (by decide) dJ7_fill_53178_20 trivial
      · have b_15 := z_b2 c_13 (K := 3) (by decide +kernel)
        refine lv_aload_n hx hb dJ7_fill_53178_10 rfl (lv_at hl 0 rfl) ?_
        refine lv_iload_n hx hb dJ7_fill_53178_11 rfl (lv_at hl 2 rfl) ?_
        refine lv_iload_n hx hb dJ7_fill_53178_12 rfl (lv_at hl 1 rfl) ?_
        refine va_iast hx hb hK hP hD hS 0 0 rfl rfl (z_inN (by omega) (by omega)) dJ7_fill_53178_13 (fun H locs hP hD hS => ?_)
        have hP : va_P G vwCl [(a, .inl (cA.1 0, 3, .inl (upd g_9 (v_8 : Int32).toNatClampNeg i1)))] H := hP
        have hD : va_D A [(a, .inl (cA.1 0, 3, .inl (upd g_9 (v_8 : Int32).toNatClampNeg i1)))] := hD
        generalize hg_g_16 : (upd g_9 (v_8 : Int32).toNatClampNeg i1) = g_16 at hP hD
        refine lv_iinc (v := (v_8 + 1)) (lv' := [(2, .int (v_8 + 1)), (0, .ref a), (1, .int i1), (3, .int 3)]) hx hb dJ7_fill_53178_14 hl (k := 2) rfl (z_ofi (by decide +kernel)) (by decide) rfl (fun ls hl => ?_)
        refine lv_goto (tgt := 5) hx hb dJ7_fill_53178_17 (by decide) ?_
        exact ih_12 (v_8 + 1) g_16 H locs ls (z_up hmu_hlp_10 (by omega) trivial) (z_upc hi_11 (by omega) trivial) hP hD hS (lv_sub hl [1, 2, 0, 3] rfl)
  exact hlp_10 _ 0 c_a _ _ _ (Nat.lt_succ_self _) (by first | decide +kernel | omega) hP hD hS (lv_sub hl [2, 3, 1, 0] rfl)
set_option maxHeartbeats 40000000 in
set_option maxRecDepth 100000 in
theorem d_fill_l (l : Launch) (G : va_G) (cA : zCA) (a : Nat) (c_a : Nat → Int64) (l1 : Int64) : zCv l yJ7_fill_d0a16 cJ7_fill_d0a16 5 none ({ frames := 0, cells := 0, slots := 0, locals := 0 }) G cA [.ref a, .long l1] [(a, .inl (cA.1 1, 60, .inr (.inl c_a)))] (S := (Nat → Int64)) (fun (u : (Nat → Int64)) => (u = (F_fill_l c_a l1)) ∧ (True)) (fun (u : (Nat → Int64)) => [(a, .inl (cA.1 1, 60, .inr (.inl u)))]) 0 0 := by
  refine z_start2v (own := RJ7) (by decide) (Nat.le_of_ble_eq_true rfl) rfl ?_
  intro p e s m args below meth c A ls Q hx hb hml hts hown hK hE hT hP hD hS hA hl hret
  have hl : lv_has ls 5 [(0, .ref a), (1, .long l1)] := hl
  refine lv_iconst (v := 0) hx hb dJ7_fill_d0a16_0 (by decide) ?_
  refine lv_istore_n (lv' := [(3, .int 0), (0, .ref a), (1, .long l1)]) hx hb dJ7_fill_d0a16_1 rfl hl (by decide) rfl (fun ls hl => ?_)
  refine lv_aload_n hx hb dJ7_fill_d0a16_2 rfl (lv_at hl 1 rfl) ?_
  refine va_alen (v := 60) hx hb hK hP 0 1 rfl rfl (show Int32.ofNat 60 = 60 by decide +kernel) dJ7_fill_d0a16_3 ?_
  refine lv_istore (lv' := [(4, .int 60), (3, .int 0), (0, .ref a), (1, .long l1)]) hx hb dJ7_fill_d0a16_4 hl (by decide) rfl (fun ls hl => ?_)
  have hlp_14 : ∀ (n_L6a : Nat) (v_8 : Int32) (g_9 : Nat → Int64) (H : Heap) (locs : List Loc) (ls : Array Slot), (2147483647 - v_8.toInt).toNat < n_L6a → (0 ≤ v_8.toInt) → (F_fill_l c_a l1 = F_fill_l_L6a l1 n_L6a v_8 g_9) → va_P G vwCl [(a, .inl (cA.1 1, 60, .inr (.inl g_9)))] H → va_D A [(a, .inl (cA.1 1, 60, .inr (.inl g_9)))] → va_S A s.heap H locs → lv_has ls 5 [(0, .ref a), (1, .long l1), (3, .int v_8), (4, .int 60)] → W p l e ({ frames := 0, cells := 0, slots := 0, locals := 0 }) s m args below meth c H locs 0 0 Q (F0 m 6 ls []) := by
    intro n_L6a
    induction n_L6a with
    | zero =>
      intro v_8 g_9 H locs ls hmu_hlp_14 hi_15 hF_L6a hP hD hS hl
      exact absurd hmu_hlp_14 (Nat.not_lt_zero _)
    | succ n_L6a ih_16 =>
      intro v_8 g_9 H locs ls hmu_hlp_14 hi_15 hF_L6a hP hD hS hl
      refine lv_iload_n hx hb dJ7_fill_d0a16_6 rfl (lv_at hl 2 rfl) ?_
      refine lv_iload hx hb dJ7_fill_d0a16_7 (lv_at hl 3 rfl) ?_
      refine lv_icmp_ge (tgt := 22) hx hb dJ7_fill_d0a16_9 (by decide) (fun c_17 => ?_) (fun c_17 => ?_)
      · have b_18 := z_b1 c_17 (K := 60) (by decide +kernel)
        have hX_19 : F_fill_l c_a l1 = (g_9 : (Nat → Int64)) := by
          refine hF_L6a.trans ?_
          refine (F_fill_l_L6a_s ..).trans ?_
          refine (if_pos c_17).trans ?_
          exact rfl
        exact hret _ _ _ _ _ g_9 [0] hP hD hS rfl (by decide) dJ7_fill_d0a16_22 ⟨(congrArg (fun z9 => z9) hX_19).symm, trivial⟩
      · have b_20 := z_b2 c_17 (K := 60) (by decide +kernel)
        refine lv_aload_n hx hb dJ7_fill_d0a16_12 rfl (lv_at hl 0 rfl) ?_
        refine lv_iload_n hx hb dJ7_fill_d0a16_13 rfl (lv_at hl 2 rfl) ?_
        refine lv_lload_n hx hb dJ7_fill_d0a16_14 rfl (lv_at hl 1 rfl) ?_
        refine va_last hx hb hK hP hD hS 0 1 rfl rfl (z_inN (by omega) (by omega)) dJ7_fill_d0a16_15 (fun H locs hP hD hS => ?_)
        have hP : va_P G vwCl [(a, .inl (cA.1 1, 60, .inr (.inl (vp_updL g_9 (v_8 : Int32).toNatClampNeg l1))))] H := hP
        have hD : va_D A [(a, .inl (cA.1 1, 60, .inr (.inl (vp_updL g_9 (v_8 : Int32).toNatClampNeg l1))))] := hD
        generalize hg_g_21 : (vp_updL g_9 (v_8 : Int32).toNatClampNeg l1) = g_21 at hP hD
        refine lv_iinc (v := (v_8 + 1)) (lv' := [(3, .int (v_8 + 1)), (0, .ref a), (1, .long l1), (4, .int 60)]) hx hb dJ7_fill_d0a16_16 hl (k := 2) rfl (z_ofi (by decide +kernel)) (by decide) rfl (fun ls hl => ?_)
        refine lv_goto (tgt := 6) hx hb dJ7_fill_d0a16_19 (by decide) ?_
        have hX_22 : F_fill_l c_a l1 = F_fill_l_L6a l1 n_L6a (v_8 + 1) g_21 := by
          refine hF_L6a.trans ?_
          refine (F_fill_l_L6a_s ..).trans ?_
          refine (if_neg c_17).trans ?_
          try (extract_lets -merge -useContext +onlyGivenNames y9; have e9 : g_21 = y9 := (by first | exact hg_g_21 | exact hg_g_21.symm); clear_value y9; subst e9)
          exact rfl
        exact ih_16 (v_8 + 1) g_21 H locs ls (z_up hmu_hlp_14 (by omega) trivial) (z_upc hi_15 (by omega) trivial) hX_22 hP hD hS (lv_sub hl [1, 2, 0, 3] rfl)
  have hX_23 : F_fill_l c_a l1 = F_fill_l_L6a l1 ((2147483647 - (0 : Int32).toInt).toNat + 1) (0 : Int32) c_a := by
    refine (F_fill_l_s ..).trans ?_
    exact rfl
  exact hlp_14 ((2147483647 - (0 : Int32).toInt).toNat + 1) 0 c_a _ _ _ (Nat.lt_succ_self _) (by first | decide +kernel | omega) hX_23 hP hD hS (lv_sub hl [2, 3, 1, 0] rfl)
set_option maxHeartbeats 4000000 in
set_option maxRecDepth 100000 in
theorem d_ja_min (l : Launch) (G : va_G) (cA : zCA) (i1 : Int32) (i2 : Int32) : zCi l yJ9_min_7cf53 cJ9_min_7cf53 2 (some .int) ({ frames := 0, cells := 0, slots := 0, locals := 0 }) G cA [.int i1, .int i2] [] (S := Unit) (fun (r : Int32) (u : Unit) => r.toInt ≤ i1.toInt ∧ r.toInt ≤ i2.toInt) (fun (u : Unit) => []) 0 0 := by
  refine z_startFi (own := RJ9) (by decide +kernel) (Nat.le_of_ble_eq_true rfl) rfl ?_
  intro p e s m args below meth c A ls Q hx hb hml hts hown hK hE hT hP hD hS hA hl hret
  have hl : lv_has ls 2 [(0, .int i1), (1, .int i2)] := hl
  refine lv_iload_n hx hb dJ9_min_7cf53_0 rfl (lv_at hl 0 rfl) ?_
  refine lv_iload_n hx hb dJ9_min_7cf53_1 rfl (lv_at hl 1 rfl) ?_
  refine lv_icmp_gt (tgt := 9) hx hb dJ9_min_7cf53_2 (by decide) (fun c_1 => ?_) (fun c_1 => ?_)
  · have b_2 := z_t7 c_1
    refine lv_iload_n hx hb dJ9_min_7cf53_9 rfl (lv_at hl 1 rfl) ?_
    exact hret _ _ _ _ _ _ () [] hP hD hS rfl (by decide) dJ9_min_7cf53_10 (by omega)
  · have b_3 := z_s8 c_1
    refine lv_iload_n hx hb dJ9_min_7cf53_5 rfl (lv_at hl 0 rfl) ?_
    refine lv_goto (tgt := 10) hx hb dJ9_min_7cf53_6 (by decide) ?_
    exact hret _ _ _ _ _ _ () [] hP hD hS rfl (by decide) dJ9_min_7cf53_10 (by omega)
set_option maxHeartbeats 4000000 in
set_option maxRecDepth 100000 in
theorem d_ja_max (l : Launch) (G : va_G) (cA : zCA) (l1 : Int64) (l2 : Int64) : zCl l yJ9_max_f86c9 cJ9_max_f86c9 4 (some .long) ({ frames := 0, cells := 0, slots := 0, locals := 0 }) G cA [.long l1, .long l2] [] (S := Unit) (fun (r : Int64) (u : Unit) => True) (fun (u : Unit) => []) 0 0 := by
  refine z_startFl (own := RJ9) (by decide +kernel) (Nat.le_of_ble_eq_true rfl) rfl ?_
  intro p e s m args below meth c A ls Q hx hb hml hts hown hK hE hT hP hD hS hA hl hret
  have hl : lv_has ls 4 [(0, .long l1), (2, .long l2)] := hl
  refine lv_lload_n hx hb dJ9_max_f86c9_0 rfl (lv_at hl 0 rfl) ?_
  refine lv_lload_n hx hb dJ9_max_f86c9_1 rfl (lv_at hl 1 rfl) ?_
  refine W.lcmp hx hb dJ9_max_f86c9_2 ?_
  refine lv_if_lt (tgt := 10) hx hb dJ9_max_f86c9_3 (by decide) (fun c_1 => ?_) (fun c_1 => ?_)
  · have b_2 := z_b3 c_1 (K := 0) (by decide +kernel)
    refine lv_lload_n hx hb dJ9_max_f86c9_10 rfl (lv_at hl 1 rfl) ?_
    exact hret _ _ _ _ _ _ () [] hP hD hS rfl (by decide) dJ9_max_f86c9_11 trivial
  · have b_3 := z_b4 c_1 (K := 0) (by decide +kernel)
    refine lv_lload_n hx hb dJ9_max_f86c9_6 rfl (lv_at hl 0 rfl) ?_
    refine lv_goto (tgt := 11) hx hb dJ9_max_f86c9_7 (by decide) ?_
    exact hret _ _ _ _ _ _ () [] hP hD hS rfl (by decide) dJ9_max_f86c9_11 trivial
set_option maxHeartbeats 4000000 in
set_option maxRecDepth 100000 in
theorem d_ja_abs (l : Launch) (G : va_G) (cA : zCA) (l1 : Int64) : zCl l yJ9_abs_067f4 cJ9_abs_067f4 2 (some .long) ({ frames := 0, cells := 0, slots := 0, locals := 0 }) G cA [.long l1] [] (S := Unit) (fun (r : Int64) (u : Unit) => True) (fun (u : Unit) => []) 0 0 := by
  refine z_startFl (own := RJ9) (by decide +kernel) (Nat.le_of_ble_eq_true rfl) rfl ?_
  intro p e s m args below meth c A ls Q hx hb hml hts hown hK hE hT hP hD hS hA hl hret
  have hl : lv_has ls 2 [(0, .long l1)] := hl
  refine lv_lload_n hx hb dJ9_abs_067f4_0 rfl (lv_at hl 0 rfl) ?_
  refine lv_lconst (v := 0) hx hb dJ9_abs_067f4_1 (by decide) ?_
  refine W.lcmp hx hb dJ9_abs_067f4_2 ?_
  refine lv_if_ge (tgt := 11) hx hb dJ9_abs_067f4_3 (by decide) (fun c_1 => ?_) (fun c_1 => ?_)
  · have b_2 := z_b1 c_1 (K := 0) (by decide +kernel)
    refine lv_lload_n hx hb dJ9_abs_067f4_11 rfl (lv_at hl 0 rfl) ?_
    exact hret _ _ _ _ _ _ () [] hP hD hS rfl (by decide) dJ9_abs_067f4_12 trivial
  · have b_3 := z_b2 c_1 (K := 0) (by decide +kernel)
    refine lv_lload_n hx hb dJ9_abs_067f4_6 rfl (lv_at hl 0 rfl) ?_
    refine lv_lneg hx hb dJ9_abs_067f4_7 ?_
    refine lv_topl (fun x_4 _ => ?_)
    refine lv_goto (tgt := 12) hx hb dJ9_abs_067f4_8 (by decide) ?_
    exact hret _ _ _ _ _ _ () [] hP hD hS rfl (by decide) dJ9_abs_067f4_12 trivial
set_option maxHeartbeats 4000000 in
set_option maxRecDepth 100000 in
theorem d_ja_floorMod (l : Launch) (G : va_G) (cA : zCA) (i1 : Int32) (i2 : Int32) (hn0 : i2.toInt ≠ 0) : zCi l yJ9_floorMod_7cf53 cJ9_floorMod_7cf53 3 (some .int) ({ frames := 0, cells := 0, slots := 0, locals := 0 }) G cA [.int i1, .int i2] [] (S := Unit) (fun (r : Int32) (u : Unit) => True) (fun (u : Unit) => []) 0 0 := by
  refine z_startFi (own := RJ9) (by decide +kernel) (Nat.le_of_ble_eq_true rfl) rfl ?_
  intro p e s m args below meth c A ls Q hx hb hml hts hown hK hE hT hP hD hS hA hl hret
  have hl : lv_has ls 3 [(0, .int i1), (1, .int i2)] := hl
  refine lv_iload_n hx hb dJ9_floorMod_7cf53_0 rfl (lv_at hl 0 rfl) ?_
  refine lv_iload_n hx hb dJ9_floorMod_7cf53_1 rfl (lv_at hl 1 rfl) ?_
  refine lv_irem hx hb dJ9_floorMod_7cf53_2 (z_nz (by omega)) ?_
  refine lv_topi (fun x_1 _ => ?_)
  refine lv_istore_n (lv' := [(2, .int x_1), (0, .int i1), (1, .int i2)]) hx hb dJ9_floorMod_7cf53_3 rfl hl (by decide) rfl (fun ls hl => ?_)
  refine lv_iload_n hx hb dJ9_floorMod_7cf53_4 rfl (lv_at hl 1 rfl) ?_
  refine lv_iload_n hx hb dJ9_floorMod_7cf53_5 rfl (lv_at hl 2 rfl) ?_
  refine lv_ixor hx hb dJ9_floorMod_7cf53_6 ?_
  refine lv_topi (fun x_2 _ => ?_)
  refine lv_if_ge (tgt := 18) hx hb dJ9_floorMod_7cf53_7 (by decide) (fun c_3 => ?_) (fun c_3 => ?_)
  · have b_4 := z_b1 c_3 (K := 0) (by decide +kernel)
    refine lv_iload_n hx hb dJ9_floorMod_7cf53_18 rfl (lv_at hl 0 rfl) ?_
    exact hret _ _ _ _ _ _ () [] hP hD hS rfl (by decide) dJ9_floorMod_7cf53_19 trivial
  · have b_5 := z_b2 c_3 (K := 0) (by decide +kernel)
    refine lv_iload_n hx hb dJ9_floorMod_7cf53_10 rfl (lv_at hl 0 rfl) ?_
    refine lv_if_eq (tgt := 18) hx hb dJ9_floorMod_7cf53_11 (by decide) (fun c_6 => ?_) (fun c_6 => ?_)
    · skip
      refine lv_iload_n hx hb dJ9_floorMod_7cf53_18 rfl (lv_at hl 0 rfl) ?_
      exact hret _ _ _ _ _ _ () [] hP hD hS rfl (by decide) dJ9_floorMod_7cf53_19 trivial
    · skip
      refine lv_iload_n hx hb dJ9_floorMod_7cf53_14 rfl (lv_at hl 0 rfl) ?_
      refine lv_iload_n hx hb dJ9_floorMod_7cf53_15 rfl (lv_at hl 2 rfl) ?_
      refine lv_iadd hx hb dJ9_floorMod_7cf53_16 ?_
      refine lv_topi (fun x_9 _ => ?_)
      exact hret _ _ _ _ _ _ () [] hP hD hS rfl (by decide) dJ9_floorMod_7cf53_17 trivial
set_option maxHeartbeats 4000000 in
set_option maxRecDepth 100000 in
theorem d_Da_inRing (l : Launch) (G : va_G) (cA : zCA) (i1 : Int32) (i2 : Int32) : zCi l yX11_inRing cX11_inRing 2 (some .int) ({ frames := 1, cells := 0, slots := 0, locals := 22 }) G cA [.int i1, .int i2] [] (S := Unit) (fun (r : Int32) (u : Unit) => True) (fun (u : Unit) => []) 0 0 := by
  refine z_start2i (own := RX11) (by decide) (Nat.le_of_ble_eq_true rfl) rfl ?_
  intro p e s m args below meth c A ls Q hx hb hml hts hown hK hE hT hP hD hS hA hl hret
  have hl : lv_has ls 2 [(0, .int i1), (1, .int i2)] := hl
  refine lv_iload_n hx hb dX11_inRing_0 rfl (lv_at hl 1 rfl) ?_
  refine lv_if_le (tgt := 12) hx hb dX11_inRing_1 (by decide) (fun c_1 => ?_) (fun c_1 => ?_)
  · have b_2 := z_b5 c_1 (K := 0) (by decide +kernel)
    refine lv_iconst (v := 0) hx hb dX11_inRing_12 (by decide) ?_
    exact hret _ _ _ _ _ _ () [] hP hD hS rfl (by decide) dX11_inRing_13 trivial
  · have b_3 := z_b6 c_1 (K := 0) (by decide +kernel)
    refine lv_iload_n hx hb dX11_inRing_4 rfl (lv_at hl 0 rfl) ?_
    refine lv_iload_n hx hb dX11_inRing_5 rfl (lv_at hl 1 rfl) ?_
    refine z_callSi (As := [.int i1, .int i2]) (rest := []) (wr := []) ⟨hx, hb, hml, hown, hts⟩ hK hE hT hP hD hS hA (d_ja_floorMod l G cA i1 i2 (by omega)) lk_RX11_465 ⟨rfl, rfl⟩ ⟨Nat.le_of_ble_eq_true rfl, Nat.le_of_ble_eq_true rfl⟩ [] [] rfl rfl (by decide) rfl hl.1 rfl (lv_room (Nat.le_of_ble_eq_true rfl)) dX11_inRing_6 ⟨Nat.le_of_ble_eq_true rfl, Nat.le_of_ble_eq_true rfl⟩ (fun r_4 u_5 H locs hw hP hD hS => ?_)
    have hP : va_P G vwCl [] H := hP
    have hD : va_D A [] := hD
    refine lv_goto (tgt := 13) hx hb dX11_inRing_9 (by decide) ?_
    exact hret _ _ _ _ _ _ () [] hP hD hS rfl (by decide) dX11_inRing_13 trivial
set_option maxHeartbeats 4000000 in
set_option maxRecDepth 100000 in
theorem d_ja_bitCount (l : Launch) (G : va_G) (cA : zCA) (k : Int32) : zCi l yJ6_bitCount_0f7a4 cJ6_bitCount_0f7a4 1 (some .int) ({ frames := 0, cells := 0, slots := 0, locals := 0 }) G cA [.int k] [] (S := Unit) (fun (r : Int32) (u : Unit) => True) (fun (u : Unit) => []) 0 0 := by
  refine z_start2i (own := RJ6) (by decide) (Nat.le_of_ble_eq_true rfl) rfl ?_
  intro p e s m args below meth c A ls Q hx hb hml hts hown hK hE hT hP hD hS hA hl hret
  have hl : lv_has ls 1 [(0, .int k)] := hl
  refine lv_iload_n hx hb dJ6_bitCount_0f7a4_0 rfl (lv_at hl 0 rfl) ?_
  refine lv_iload_n hx hb dJ6_bitCount_0f7a4_1 rfl (lv_at hl 0 rfl) ?_
  refine lv_iconst (v := 1) hx hb dJ6_bitCount_0f7a4_2 (by decide) ?_
  refine lv_iushr hx hb dJ6_bitCount_0f7a4_3 rfl ?_
  refine lv_topi (fun x_1 _ => ?_)
  refine lv_ldcw (v := 1431655765) hx hb hown (hts _ tw_1692) dJ6_bitCount_0f7a4_4 ?_
  refine lv_iand hx hb dJ6_bitCount_0f7a4_7 ?_
  refine lv_topi (fun x_2 _ => ?_)
  refine lv_isub hx hb dJ6_bitCount_0f7a4_8 ?_
  refine lv_topi (fun x_3 _ => ?_)
  refine lv_istore_n (lv' := [(0, .int x_3)]) hx hb dJ6_bitCount_0f7a4_9 rfl hl (by decide) rfl (fun ls hl => ?_)
  refine lv_iload_n hx hb dJ6_bitCount_0f7a4_10 rfl (lv_at hl 0 rfl) ?_
  refine lv_ldcw (v := 858993459) hx hb hown (hts _ tw_1693) dJ6_bitCount_0f7a4_11 ?_
  refine lv_iand hx hb dJ6_bitCount_0f7a4_14 ?_
  refine lv_topi (fun x_4 _ => ?_)
  refine lv_iload_n hx hb dJ6_bitCount_0f7a4_15 rfl (lv_at hl 0 rfl) ?_
  refine lv_iconst (v := 2) hx hb dJ6_bitCount_0f7a4_16 (by decide) ?_
  refine lv_iushr hx hb dJ6_bitCount_0f7a4_17 rfl ?_
  refine lv_topi (fun x_5 _ => ?_)
  refine lv_ldcw (v := 858993459) hx hb hown (hts _ tw_1693) dJ6_bitCount_0f7a4_18 ?_
  refine lv_iand hx hb dJ6_bitCount_0f7a4_21 ?_
  refine lv_topi (fun x_6 _ => ?_)
  refine lv_iadd hx hb dJ6_bitCount_0f7a4_22 ?_
  refine lv_topi (fun x_7 _ => ?_)
  refine lv_istore_n (lv' := [(0, .int x_7)]) hx hb dJ6_bitCount_0f7a4_23 rfl hl (by decide) rfl (fun ls hl => ?_)
  refine lv_iload_n hx hb dJ6_bitCount_0f7a4_24 rfl (lv_at hl 0 rfl) ?_
  refine lv_iload_n hx hb dJ6_bitCount_0f7a4_25 rfl (lv_at hl 0 rfl) ?_
  refine lv_iconst (v := 4) hx hb dJ6_bitCount_0f7a4_26 (by decide) ?_
  refine lv_iushr hx hb dJ6_bitCount_0f7a4_27 rfl ?_
  refine lv_topi (fun x_8 _ => ?_)
  refine lv_iadd hx hb dJ6_bitCount_0f7a4_28 ?_
  refine lv_topi (fun x_9 _ => ?_)
  refine lv_ldcw (v := 252645135) hx hb hown (hts _ tw_1694) dJ6_bitCount_0f7a4_29 ?_
  refine lv_iand hx hb dJ6_bitCount_0f7a4_32 ?_
  refine lv_topi (fun x_10 _ => ?_)
  refine lv_istore_n (lv' := [(0, .int x_10)]) hx hb dJ6_bitCount_0f7a4_33 rfl hl (by decide) rfl (fun ls hl => ?_)
  refine lv_iload_n hx hb dJ6_bitCount_0f7a4_34 rfl (lv_at hl 0 rfl) ?_
  refine lv_iload_n hx hb dJ6_bitCount_0f7a4_35 rfl (lv_at hl 0 rfl) ?_
  refine lv_bipush (v := 8) hx hb dJ6_bitCount_0f7a4_36 (by decide) ?_
  refine lv_iushr hx hb dJ6_bitCount_0f7a4_38 rfl ?_
  refine lv_topi (fun x_11 _ => ?_)
  refine lv_iadd hx hb dJ6_bitCount_0f7a4_39 ?_
  refine lv_topi (fun x_12 _ => ?_)
  refine lv_istore_n (lv' := [(0, .int x_12)]) hx hb dJ6_bitCount_0f7a4_40 rfl hl (by decide) rfl (fun ls hl => ?_)
  refine lv_iload_n hx hb dJ6_bitCount_0f7a4_41 rfl (lv_at hl 0 rfl) ?_
  refine lv_iload_n hx hb dJ6_bitCount_0f7a4_42 rfl (lv_at hl 0 rfl) ?_
  refine lv_bipush (v := 16) hx hb dJ6_bitCount_0f7a4_43 (by decide) ?_
  refine lv_iushr hx hb dJ6_bitCount_0f7a4_45 rfl ?_
  refine lv_topi (fun x_13 _ => ?_)
  refine lv_iadd hx hb dJ6_bitCount_0f7a4_46 ?_
  refine lv_topi (fun x_14 _ => ?_)
  refine lv_istore_n (lv' := [(0, .int x_14)]) hx hb dJ6_bitCount_0f7a4_47 rfl hl (by decide) rfl (fun ls hl => ?_)
  refine lv_iload_n hx hb dJ6_bitCount_0f7a4_48 rfl (lv_at hl 0 rfl) ?_
  refine lv_bipush (v := 63) hx hb dJ6_bitCount_0f7a4_49 (by decide) ?_
  refine lv_iand hx hb dJ6_bitCount_0f7a4_51 ?_
  refine lv_topi (fun x_15 _ => ?_)
  exact hret _ _ _ _ _ _ () [] hP hD hS rfl (by decide) dJ6_bitCount_0f7a4_52 trivial
set_option maxHeartbeats 4000000 in
set_option maxRecDepth 100000 in
theorem d_Te_byteAt (l : Launch) (G : va_G) (cA : zCA) (t : Nat) (tape : Nat) (t_fed : Int32) (t_length : Int32) (t_kind : Int32) (t_start : Int32) (t_end : Int32) (t_number : Int32) (t_sign : Int32) (t_letters : Int64) (t_fault : Int32) (t_faultPlace : Int32) (c_tape : Nat → Int32) (k : Int32) : zCi l yX8_byteAt cX8_byteAt 2 (some .int) ({ frames := 0, cells := 0, slots := 0, locals := 0 }) G cA [.ref t, .int k] [(t, .inr (8, [.ref tape, .int t_fed, .int t_length, .int t_kind, .int t_start, .int t_end, .int t_number, .int t_sign, .long t_letters, .int t_fault, .int t_faultPlace])), (tape, .inl (cA.1 2, 900, .inl c_tape))] (S := Unit) (fun (r : Int32) (u : Unit) => True) (fun (u : Unit) => [(t, .inr (8, [.ref tape, .int t_fed, .int t_length, .int t_kind, .int t_start, .int t_end, .int t_number, .int t_sign, .long t_letters, .int t_fault, .int t_faultPlace])), (tape, .inl (cA.1 2, 900, .inl c_tape))]) 0 0 := by
  refine z_start2i (own := RX8) (by decide) (Nat.le_of_ble_eq_true rfl) rfl ?_
  intro p e s m args below meth c A ls Q hx hb hml hts hown hK hE hT hP hD hS hA hl hret
  have hl : lv_has ls 2 [(0, .ref t), (1, .int k)] := hl
  refine lv_iload_n hx hb dX8_byteAt_0 rfl (lv_at hl 1 rfl) ?_
  refine lv_if_lt (tgt := 32) hx hb dX8_byteAt_1 (by decide) (fun c_1 => ?_) (fun c_1 => ?_)
  · have b_2 := z_b3 c_1 (K := 0) (by decide +kernel)
    refine lv_iconst (v := (-1)) hx hb dX8_byteAt_32 (by decide) ?_
    exact hret _ _ _ _ _ _ () [0, 1] hP hD hS rfl (by decide) dX8_byteAt_33 trivial
  · have b_3 := z_b4 c_1 (K := 0) (by decide +kernel)
    refine lv_iload_n hx hb dX8_byteAt_4 rfl (lv_at hl 1 rfl) ?_
    refine lv_aload_n hx hb dX8_byteAt_5 rfl (lv_at hl 0 rfl) ?_
    refine va_get (D := G) (ci := 8) (v := .int t_length) (C := RX8) (T := TX8) (N := 11) hx hb hts inT8 hown hK hP 0 rfl rfl 2 (by decide) (hts _ tw_208) (fun _ h9 => h9) rfl dX8_byteAt_6 ?_
    refine lv_icmp_ge (tgt := 32) hx hb dX8_byteAt_9 (by decide) (fun c_4 => ?_) (fun c_4 => ?_)
    · have b_5 := z_s1 c_4
      refine lv_iconst (v := (-1)) hx hb dX8_byteAt_32 (by decide) ?_
      exact hret _ _ _ _ _ _ () [0, 1] hP hD hS rfl (by decide) dX8_byteAt_33 trivial
    · have b_6 := z_t2 c_4
      refine lv_iload_n hx hb dX8_byteAt_12 rfl (lv_at hl 1 rfl) ?_
      refine lv_sipush (v := 900) hx hb dX8_byteAt_13 (by decide) ?_
      refine lv_icmp_ge (tgt := 32) hx hb dX8_byteAt_16 (by decide) (fun c_7 => ?_) (fun c_7 => ?_)
      · have b_8 := z_b1 c_7 (K := 900) (by decide +kernel)
        refine lv_iconst (v := (-1)) hx hb dX8_byteAt_32 (by decide) ?_
        exact hret _ _ _ _ _ _ () [0, 1] hP hD hS rfl (by decide) dX8_byteAt_33 trivial
      · have b_9 := z_b2 c_7 (K := 900) (by decide +kernel)
        refine lv_aload_n hx hb dX8_byteAt_19 rfl (lv_at hl 0 rfl) ?_
        refine va_get (D := G) (ci := 8) (v := .ref tape) (C := RX8) (T := TX8) (N := 11) hx hb hts inT8 hown hK hP 0 rfl rfl 0 (by decide) (hts _ tw_205) (fun _ h9 => h9) rfl dX8_byteAt_20 ?_
        refine lv_iload_n hx hb dX8_byteAt_23 rfl (lv_at hl 1 rfl) ?_
        refine va_bald hx hb hK hP 1 2 rfl rfl (z_inN (by omega) (by omega)) dX8_byteAt_24 ?_
        refine lv_topi (fun x_10 _ => ?_)
        refine lv_sipush (v := 255) hx hb dX8_byteAt_25 (by decide) ?_
        refine lv_iand hx hb dX8_byteAt_28 ?_
        refine lv_topi (fun x_11 _ => ?_)
        refine lv_goto (tgt := 33) hx hb dX8_byteAt_29 (by decide) ?_
        exact hret _ _ _ _ _ _ () [0, 1] hP hD hS rfl (by decide) dX8_byteAt_33 trivial
set_option maxHeartbeats 4000000 in
set_option maxRecDepth 100000 in
theorem d_Te_goesOn (l : Launch) (G : va_G) (cA : zCA) (t : Nat) (tape : Nat) (t_fed : Int32) (t_length : Int32) (t_kind : Int32) (t_start : Int32) (t_end : Int32) (t_number : Int32) (t_sign : Int32) (t_letters : Int64) (t_fault : Int32) (t_faultPlace : Int32) : zCi l yX8_goesOn cX8_goesOn 1 (some .boolean) ({ frames := 0, cells := 0, slots := 0, locals := 0 }) G cA [.ref t] [(t, .inr (8, [.ref tape, .int t_fed, .int t_length, .int t_kind, .int t_start, .int t_end, .int t_number, .int t_sign, .long t_letters, .int t_fault, .int t_faultPlace]))] (S := Unit) (fun (r : Int32) (u : Unit) => r = 0 ∨ r = 1) (fun (u : Unit) => [(t, .inr (8, [.ref tape, .int t_fed, .int t_length, .int t_kind, .int t_start, .int t_end, .int t_number, .int t_sign, .long t_letters, .int t_fault, .int t_faultPlace]))]) 0 0 := by
  refine z_start2z (own := RX8) (by decide) (Nat.le_of_ble_eq_true rfl) rfl ?_
  intro p e s m args below meth c A ls Q hx hb hml hts hown hK hE hT hP hD hS hA hl hret
  have hl : lv_has ls 1 [(0, .ref t)] := hl
  refine lv_aload_n hx hb dX8_goesOn_0 rfl (lv_at hl 0 rfl) ?_
  refine va_get (D := G) (ci := 8) (v := .int t_fault) (C := RX8) (T := TX8) (N := 11) hx hb hts inT8 hown hK hP 0 rfl rfl 9 (by decide) (hts _ tw_218) (fun _ h9 => h9) rfl dX8_goesOn_1 ?_
  refine lv_if_ne (tgt := 18) hx hb dX8_goesOn_4 (by decide) (fun c_1 => ?_) (fun c_1 => ?_)
  · skip
    refine lv_iconst (v := 0) hx hb dX8_goesOn_18 (by decide) ?_
    exact hret _ _ _ _ _ _ () [0] hP hD hS rfl (by decide) dX8_goesOn_19 (Or.inl rfl) (Or.inl rfl)
  · skip
    refine lv_aload_n hx hb dX8_goesOn_7 rfl (lv_at hl 0 rfl) ?_
    refine va_get (D := G) (ci := 8) (v := .int t_kind) (C := RX8) (T := TX8) (N := 11) hx hb hts inT8 hown hK hP 0 rfl rfl 3 (by decide) (hts _ tw_209) (fun _ h9 => h9) rfl dX8_goesOn_8 ?_
    refine lv_if_eq (tgt := 18) hx hb dX8_goesOn_11 (by decide) (fun c_4 => ?_) (fun c_4 => ?_)
    · skip
      refine lv_iconst (v := 0) hx hb dX8_goesOn_18 (by decide) ?_
      exact hret _ _ _ _ _ _ () [0] hP hD hS rfl (by decide) dX8_goesOn_19 (Or.inl rfl) (Or.inl rfl)
    · skip
      refine lv_iconst (v := 1) hx hb dX8_goesOn_14 (by decide) ?_
      refine lv_goto (tgt := 19) hx hb dX8_goesOn_15 (by decide) ?_
      exact hret _ _ _ _ _ _ () [0] hP hD hS rfl (by decide) dX8_goesOn_19 (Or.inr rfl) (Or.inr rfl)
set_option maxHeartbeats 4000000 in
set_option maxRecDepth 100000 in
theorem d_Te_hasRoom (l : Launch) (G : va_G) (cA : zCA) (t : Nat) (tape : Nat) (t_fed : Int32) (t_length : Int32) (t_kind : Int32) (t_start : Int32) (t_end : Int32) (t_number : Int32) (t_sign : Int32) (t_letters : Int64) (t_fault : Int32) (t_faultPlace : Int32) (k : Int32) : zCi l yX8_hasRoom cX8_hasRoom 2 (some .boolean) ({ frames := 0, cells := 0, slots := 0, locals := 0 }) G cA [.ref t, .int k] [(t, .inr (8, [.ref tape, .int t_fed, .int t_length, .int t_kind, .int t_start, .int t_end, .int t_number, .int t_sign, .long t_letters, .int t_fault, .int t_faultPlace]))] (S := Unit) (fun (r : Int32) (u : Unit) => r = 0 ∨ r = 1) (fun (u : Unit) => [(t, .inr (8, [.ref tape, .int t_fed, .int t_length, .int t_kind, .int t_start, .int t_end, .int t_number, .int t_sign, .long t_letters, .int t_fault, .int t_faultPlace]))]) 0 0 := by
  refine z_start2z (own := RX8) (by decide) (Nat.le_of_ble_eq_true rfl) rfl ?_
  intro p e s m args below meth c A ls Q hx hb hml hts hown hK hE hT hP hD hS hA hl hret
  have hl : lv_has ls 2 [(0, .ref t), (1, .int k)] := hl
  refine lv_aload_n hx hb dX8_hasRoom_0 rfl (lv_at hl 0 rfl) ?_
  refine va_get (D := G) (ci := 8) (v := .int t_fed) (C := RX8) (T := TX8) (N := 11) hx hb hts inT8 hown hK hP 0 rfl rfl 1 (by decide) (hts _ tw_206) (fun _ h9 => h9) rfl dX8_hasRoom_1 ?_
  refine lv_iload_n hx hb dX8_hasRoom_4 rfl (lv_at hl 1 rfl) ?_
  refine lv_iadd hx hb dX8_hasRoom_5 ?_
  refine lv_topi (fun x_1 _ => ?_)
  refine lv_sipush (v := 900) hx hb dX8_hasRoom_6 (by decide) ?_
  refine lv_icmp_gt (tgt := 16) hx hb dX8_hasRoom_9 (by decide) (fun c_2 => ?_) (fun c_2 => ?_)
  · have b_3 := z_b7 c_2 (K := 900) (by decide +kernel)
    refine lv_iconst (v := 0) hx hb dX8_hasRoom_16 (by decide) ?_
    exact hret _ _ _ _ _ _ () [0] hP hD hS rfl (by decide) dX8_hasRoom_17 (Or.inl rfl) (Or.inl rfl)
  · have b_4 := z_b8 c_2 (K := 900) (by decide +kernel)
    refine lv_iconst (v := 1) hx hb dX8_hasRoom_12 (by decide) ?_
    refine lv_goto (tgt := 17) hx hb dX8_hasRoom_13 (by decide) ?_
    exact hret _ _ _ _ _ _ () [0] hP hD hS rfl (by decide) dX8_hasRoom_17 (Or.inr rfl) (Or.inr rfl)
set_option maxHeartbeats 4000000 in
set_option maxRecDepth 100000 in
theorem d_Te_append (l : Launch) (G : va_G) (cA : zCA) (t : Nat) (tape : Nat) (t_fed : Int32) (t_length : Int32) (t_kind : Int32) (t_start : Int32) (t_end : Int32) (t_number : Int32) (t_sign : Int32) (t_letters : Int64) (t_fault : Int32) (t_faultPlace : Int32) (c_tape : Nat → Int32) (k : Int32) : zCv l yX8_append cX8_append 3 none ({ frames := 0, cells := 0, slots := 0, locals := 0 }) G cA [.ref t, .int k] [(t, .inr (8, [.ref tape, .int t_fed, .int t_length, .int t_kind, .int t_start, .int t_end, .int t_number, .int t_sign, .long t_letters, .int t_fault, .int t_faultPlace])), (tape, .inl (cA.1 2, 900, .inl c_tape))] (S := Int32 × (Nat → Int32)) (fun (u : Int32 × (Nat → Int32)) => True) (fun (u : Int32 × (Nat → Int32)) => [(t, .inr (8, [.ref tape, .int u.1, .int t_length, .int t_kind, .int t_start, .int t_end, .int t_number, .int t_sign, .long t_letters, .int t_fault, .int t_faultPlace])), (tape, .inl (cA.1 2, 900, .inl u.2))]) 0 0 := by
  refine z_start2v (own := RX8) (by decide) (Nat.le_of_ble_eq_true rfl) rfl ?_
  intro p e s m args below meth c A ls Q hx hb hml hts hown hK hE hT hP hD hS hA hl hret
  have hl : lv_has ls 3 [(0, .ref t), (1, .int k)] := hl
  refine lv_bipush (v := 24) hx hb dX8_append_0 (by decide) ?_
  refine lv_istore_n (lv' := [(2, .int 24), (0, .ref t), (1, .int k)]) hx hb dX8_append_2 rfl hl (by decide) rfl (fun ls hl => ?_)
  have hlp_28 : ∀ (n : Nat) (v_25 : Int32) (v_26 : Int32) (g_27 : Nat → Int32) (H : Heap) (locs : List Loc) (ls : Array Slot), (v_25.toInt + 2147483648).toNat < n → (24 ≥ v_25.toInt) → va_P G vwCl [(t, .inr (8, [.ref tape, .int v_26, .int t_length, .int t_kind, .int t_start, .int t_end, .int t_number, .int t_sign, .long t_letters, .int t_fault, .int t_faultPlace])), (tape, .inl (cA.1 2, 900, .inl g_27))] H → va_D A [(t, .inr (8, [.ref tape, .int v_26, .int t_length, .int t_kind, .int t_start, .int t_end, .int t_number, .int t_sign, .long t_letters, .int t_fault, .int t_faultPlace])), (tape, .inl (cA.1 2, 900, .inl g_27))] → va_S A s.heap H locs → lv_has ls 3 [(0, .ref t), (1, .int k), (2, .int v_25)] → W p l e ({ frames := 0, cells := 0, slots := 0, locals := 0 }) s m args below meth c H locs 0 0 Q (F0 m 3 ls []) := by
    intro n
    induction n with
    | zero =>
      intro v_25 v_26 g_27 H locs ls hmu_hlp_28 hi_29 hP hD hS hl
      exact absurd hmu_hlp_28 (Nat.not_lt_zero _)
    | succ n ih_30 =>
      intro v_25 v_26 g_27 H locs ls hmu_hlp_28 hi_29 hP hD hS hl
      refine lv_iload_n hx hb dX8_append_3 rfl (lv_at hl 2 rfl) ?_
      refine lv_if_lt (tgt := 53) hx hb dX8_append_4 (by decide) (fun c_31 => ?_) (fun c_31 => ?_)
      · have b_32 := z_b3 c_31 (K := 0) (by decide +kernel)
        exact hret _ _ _ _ _ (v_26, g_27) [0, 1] hP hD hS rfl (by decide) dX8_append_53 trivial
      · have b_33 := z_b4 c_31 (K := 0) (by decide +kernel)
        refine lv_aload_n hx hb dX8_append_7 rfl (lv_at hl 0 rfl) ?_
        refine va_get (D := G) (ci := 8) (v := .int v_26) (C := RX8) (T := TX8) (N := 11) hx hb hts inT8 hown hK hP 0 rfl rfl 1 (by decide) (hts _ tw_206) (fun _ h9 => h9) rfl dX8_append_8 ?_
        refine lv_if_lt (tgt := 47) hx hb dX8_append_11 (by decide) (fun c_34 => ?_) (fun c_34 => ?_)
        · have b_35 := z_b3 c_34 (K := 0) (by decide +kernel)
          refine lv_iinc (v := (v_25 + (-8))) (lv' := [(2, .int (v_25 + (-8))), (0, .ref t), (1, .int k)]) hx hb dX8_append_47 hl (k := 2) rfl (z_ofi (by decide +kernel)) (by decide) rfl (fun ls hl => ?_)
          refine lv_goto (tgt := 3) hx hb dX8_append_50 (by decide) ?_
          exact ih_30 (v_25 + (-8)) v_26 g_27 H locs ls (z_dnk (K := -8) (by decide +kernel) (by omega) hmu_hlp_28 (by omega) (by omega)) (z_dnck (K := -8) (by decide +kernel) (by omega) hi_29 (by omega)) hP hD hS (lv_sub hl [1, 2, 0] rfl)
        · have b_36 := z_b4 c_34 (K := 0) (by decide +kernel)
          refine lv_aload_n hx hb dX8_append_14 rfl (lv_at hl 0 rfl) ?_
          refine va_get (D := G) (ci := 8) (v := .int v_26) (C := RX8) (T := TX8) (N := 11) hx hb hts inT8 hown hK hP 0 rfl rfl 1 (by decide) (hts _ tw_206) (fun _ h9 => h9) rfl dX8_append_15 ?_
          refine lv_sipush (v := 900) hx hb dX8_append_18 (by decide) ?_
          refine lv_icmp_ge (tgt := 47) hx hb dX8_append_21 (by decide) (fun c_37 => ?_) (fun c_37 => ?_)
          · have b_38 := z_b1 c_37 (K := 900) (by decide +kernel)
            refine lv_iinc (v := (v_25 + (-8))) (lv' := [(2, .int (v_25 + (-8))), (0, .ref t), (1, .int k)]) hx hb dX8_append_47 hl (k := 2) rfl (z_ofi (by decide +kernel)) (by decide) rfl (fun ls hl => ?_)
            refine lv_goto (tgt := 3) hx hb dX8_append_50 (by decide) ?_
            exact ih_30 (v_25 + (-8)) v_26 g_27 H locs ls (z_dnk (K := -8) (by decide +kernel) (by omega) hmu_hlp_28 (by omega) (by omega)) (z_dnck (K := -8) (by decide +kernel) (by omega) hi_29 (by omega)) hP hD hS (lv_sub hl [1, 2, 0] rfl)
          · have b_39 := z_b2 c_37 (K := 900) (by decide +kernel)
            refine lv_aload_n hx hb dX8_append_24 rfl (lv_at hl 0 rfl) ?_
            refine va_get (D := G) (ci := 8) (v := .ref tape) (C := RX8) (T := TX8) (N := 11) hx hb hts inT8 hown hK hP 0 rfl rfl 0 (by decide) (hts _ tw_205) (fun _ h9 => h9) rfl dX8_append_25 ?_
            refine lv_aload_n hx hb dX8_append_28 rfl (lv_at hl 0 rfl) ?_
            refine va_get (D := G) (ci := 8) (v := .int v_26) (C := RX8) (T := TX8) (N := 11) hx hb hts inT8 hown hK hP 0 rfl rfl 1 (by decide) (hts _ tw_206) (fun _ h9 => h9) rfl dX8_append_29 ?_
            refine lv_iload_n hx hb dX8_append_32 rfl (lv_at hl 1 rfl) ?_
            refine lv_iload_n hx hb dX8_append_33 rfl (lv_at hl 2 rfl) ?_
            refine lv_ishr hx hb dX8_append_34 ?_
            refine lv_topi (fun x_40 _ => ?_)
            refine lv_i2b (v := (x_40).toInt8.toInt32) hx hb dX8_append_35 rfl ?_
            refine lv_topi (fun x_41 _ => ?_)
            refine va_bast hx hb hK hP hD hS 1 2 rfl rfl (z_inN (by omega) (by omega)) dX8_append_36 (fun H locs hP hD hS => ?_)
            have hP : va_P G vwCl [(t, .inr (8, [.ref tape, .int v_26, .int t_length, .int t_kind, .int t_start, .int t_end, .int t_number, .int t_sign, .long t_letters, .int t_fault, .int t_faultPlace])), (tape, .inl (cA.1 2, 900, .inl (upd g_27 (v_26 : Int32).toNatClampNeg (vp_nar .byte x_41))))] H := hP
            have hD : va_D A [(t, .inr (8, [.ref tape, .int v_26, .int t_length, .int t_kind, .int t_start, .int t_end, .int t_number, .int t_sign, .long t_letters, .int t_fault, .int t_faultPlace])), (tape, .inl (cA.1 2, 900, .inl (upd g_27 (v_26 : Int32).toNatClampNeg (vp_nar .byte x_41))))] := hD
            generalize hg_g_42 : (upd g_27 (v_26 : Int32).toNatClampNeg (vp_nar .byte x_41)) = g_42 at hP hD
            refine lv_aload_n hx hb dX8_append_37 rfl (lv_at hl 0 rfl) ?_
            refine lv_dup hx hb dX8_append_38 rfl ?_
            refine va_get (D := G) (ci := 8) (v := .int v_26) (C := RX8) (T := TX8) (N := 11) hx hb hts inT8 hown hK hP 0 rfl rfl 1 (by decide) (hts _ tw_206) (fun _ h9 => h9) rfl dX8_append_39 ?_
            refine lv_iconst (v := 1) hx hb dX8_append_42 (by decide) ?_
            refine lv_iadd hx hb dX8_append_43 ?_
            refine va_put (D := G) (ci := 8) (v := .int (v_26 + 1)) (ty := .int) (C := RX8) (T := TX8) (N := 11) hx hb hts inT8 tyX8 tyX8_ok nmX8 hown hK hP hD hS 0 rfl rfl 1 (by decide) (hts _ tw_206) (fun _ h9 => h9) rfl (tyX8_ok 1 (by decide)) rfl rfl (Nat.le_of_ble_eq_true rfl) dX8_append_44 (fun H locs hP hD hS => ?_)
            have hP : va_P G vwCl [(t, .inr (8, [.ref tape, .int (v_26 + 1), .int t_length, .int t_kind, .int t_start, .int t_end, .int t_number, .int t_sign, .long t_letters, .int t_fault, .int t_faultPlace])), (tape, .inl (cA.1 2, 900, .inl g_42))] H := hP
            have hD : va_D A [(t, .inr (8, [.ref tape, .int (v_26 + 1), .int t_length, .int t_kind, .int t_start, .int t_end, .int t_number, .int t_sign, .long t_letters, .int t_fault, .int t_faultPlace])), (tape, .inl (cA.1 2, 900, .inl g_42))] := hD
            refine lv_iinc (v := (v_25 + (-8))) (lv' := [(2, .int (v_25 + (-8))), (0, .ref t), (1, .int k)]) hx hb dX8_append_47 hl (k := 2) rfl (z_ofi (by decide +kernel)) (by decide) rfl (fun ls hl => ?_)
            refine lv_goto (tgt := 3) hx hb dX8_append_50 (by decide) ?_
            exact ih_30 (v_25 + (-8)) (v_26 + 1) g_42 H locs ls (z_dnk (K := -8) (by decide +kernel) (by omega) hmu_hlp_28 (by omega) (by omega)) (z_dnck (K := -8) (by decide +kernel) (by omega) hi_29 (by omega)) hP hD hS (lv_sub hl [1, 2, 0] rfl)
  exact hlp_28 _ 24 t_fed c_tape _ _ _ (Nat.lt_succ_self _) (by first | decide +kernel | omega) hP hD hS (lv_sub hl [1, 2, 0] rfl)
set_option maxHeartbeats 4000000 in
set_option maxRecDepth 100000 in
theorem d_Te_isBlank (l : Launch) (G : va_G) (cA : zCA) (k : Int32) : zCi l yX8_isBlank cX8_isBlank 1 (some .boolean) ({ frames := 0, cells := 0, slots := 0, locals := 0 }) G cA [.int k] [] (S := Unit) (fun (r : Int32) (u : Unit) => r = 0 ∨ r = 1) (fun (u : Unit) => []) 0 0 := by
  refine z_start2z (own := RX8) (by decide) (Nat.le_of_ble_eq_true rfl) rfl ?_
  intro p e s m args below meth c A ls Q hx hb hml hts hown hK hE hT hP hD hS hA hl hret
  have hl : lv_has ls 1 [(0, .int k)] := hl
  refine lv_iload_n hx hb dX8_isBlank_0 rfl (lv_at hl 0 rfl) ?_
  refine lv_bipush (v := 10) hx hb dX8_isBlank_1 (by decide) ?_
  refine lv_icmp_eq (tgt := 12) hx hb dX8_isBlank_3 (by decide) (fun c_1 => ?_) (fun c_1 => ?_)
  · skip
    refine lv_iconst (v := 1) hx hb dX8_isBlank_12 (by decide) ?_
    refine lv_goto (tgt := 17) hx hb dX8_isBlank_13 (by decide) ?_
    exact hret _ _ _ _ _ _ () [] hP hD hS rfl (by decide) dX8_isBlank_17 (Or.inr rfl) (Or.inr rfl)
  · skip
    refine lv_iload_n hx hb dX8_isBlank_6 rfl (lv_at hl 0 rfl) ?_
    refine lv_bipush (v := 32) hx hb dX8_isBlank_7 (by decide) ?_
    refine lv_icmp_ne (tgt := 16) hx hb dX8_isBlank_9 (by decide) (fun c_4 => ?_) (fun c_4 => ?_)
    · skip
      refine lv_iconst (v := 0) hx hb dX8_isBlank_16 (by decide) ?_
      exact hret _ _ _ _ _ _ () [] hP hD hS rfl (by decide) dX8_isBlank_17 (Or.inl rfl) (Or.inl rfl)
    · skip
      refine lv_iconst (v := 1) hx hb dX8_isBlank_12 (by decide) ?_
      refine lv_goto (tgt := 17) hx hb dX8_isBlank_13 (by decide) ?_
      exact hret _ _ _ _ _ _ () [] hP hD hS rfl (by decide) dX8_isBlank_17 (Or.inr rfl) (Or.inr rfl)
set_option maxHeartbeats 4000000 in
set_option maxRecDepth 100000 in
theorem d_Te_isLetter (l : Launch) (G : va_G) (cA : zCA) (k : Int32) : zCi l yX8_isLetter cX8_isLetter 1 (some .boolean) ({ frames := 0, cells := 0, slots := 0, locals := 0 }) G cA [.int k] [] (S := Unit) (fun (r : Int32) (u : Unit) => r = 0 ∨ r = 1) (fun (u : Unit) => []) 0 0 := by
  refine z_start2z (own := RX8) (by decide) (Nat.le_of_ble_eq_true rfl) rfl ?_
  intro p e s m args below meth c A ls Q hx hb hml hts hown hK hE hT hP hD hS hA hl hret
  have hl : lv_has ls 1 [(0, .int k)] := hl
  refine lv_iload_n hx hb dX8_isLetter_0 rfl (lv_at hl 0 rfl) ?_
  refine lv_bipush (v := 97) hx hb dX8_isLetter_1 (by decide) ?_
  refine lv_icmp_lt (tgt := 16) hx hb dX8_isLetter_3 (by decide) (fun c_1 => ?_) (fun c_1 => ?_)
  · have b_2 := z_b3 c_1 (K := 97) (by decide +kernel)
    refine lv_iconst (v := 0) hx hb dX8_isLetter_16 (by decide) ?_
    exact hret _ _ _ _ _ _ () [] hP hD hS rfl (by decide) dX8_isLetter_17 (Or.inl rfl) (Or.inl rfl)
  · have b_3 := z_b4 c_1 (K := 97) (by decide +kernel)
    refine lv_iload_n hx hb dX8_isLetter_6 rfl (lv_at hl 0 rfl) ?_
    refine lv_bipush (v := 122) hx hb dX8_isLetter_7 (by decide) ?_
    refine lv_icmp_gt (tgt := 16) hx hb dX8_isLetter_9 (by decide) (fun c_4 => ?_) (fun c_4 => ?_)
    · have b_5 := z_b7 c_4 (K := 122) (by decide +kernel)
      refine lv_iconst (v := 0) hx hb dX8_isLetter_16 (by decide) ?_
      exact hret _ _ _ _ _ _ () [] hP hD hS rfl (by decide) dX8_isLetter_17 (Or.inl rfl) (Or.inl rfl)
    · have b_6 := z_b8 c_4 (K := 122) (by decide +kernel)
      refine lv_iconst (v := 1) hx hb dX8_isLetter_12 (by decide) ?_
      refine lv_goto (tgt := 17) hx hb dX8_isLetter_13 (by decide) ?_
      exact hret _ _ _ _ _ _ () [] hP hD hS rfl (by decide) dX8_isLetter_17 (Or.inr rfl) (Or.inr rfl)
set_option maxHeartbeats 4000000 in
set_option maxRecDepth 100000 in
theorem d_Te_isDigit (l : Launch) (G : va_G) (cA : zCA) (k : Int32) : zCi l yX8_isDigit cX8_isDigit 1 (some .boolean) ({ frames := 0, cells := 0, slots := 0, locals := 0 }) G cA [.int k] [] (S := Unit) (fun (r : Int32) (u : Unit) => r = 0 ∨ r = 1) (fun (u : Unit) => []) 0 0 := by
  refine z_start2z (own := RX8) (by decide) (Nat.le_of_ble_eq_true rfl) rfl ?_
  intro p e s m args below meth c A ls Q hx hb hml hts hown hK hE hT hP hD hS hA hl hret
  have hl : lv_has ls 1 [(0, .int k)] := hl
  refine lv_iload_n hx hb dX8_isDigit_0 rfl (lv_at hl 0 rfl) ?_
  refine lv_bipush (v := 48) hx hb dX8_isDigit_1 (by decide) ?_
  refine lv_icmp_lt (tgt := 16) hx hb dX8_isDigit_3 (by decide) (fun c_1 => ?_) (fun c_1 => ?_)
  · have b_2 := z_b3 c_1 (K := 48) (by decide +kernel)
    refine lv_iconst (v := 0) hx hb dX8_isDigit_16 (by decide) ?_
    exact hret _ _ _ _ _ _ () [] hP hD hS rfl (by decide) dX8_isDigit_17 (Or.inl rfl) (Or.inl rfl)
  · have b_3 := z_b4 c_1 (K := 48) (by decide +kernel)
    refine lv_iload_n hx hb dX8_isDigit_6 rfl (lv_at hl 0 rfl) ?_
    refine lv_bipush (v := 57) hx hb dX8_isDigit_7 (by decide) ?_
    refine lv_icmp_gt (tgt := 16) hx hb dX8_isDigit_9 (by decide) (fun c_4 => ?_) (fun c_4 => ?_)
    · have b_5 := z_b7 c_4 (K := 57) (by decide +kernel)
      refine lv_iconst (v := 0) hx hb dX8_isDigit_16 (by decide) ?_
      exact hret _ _ _ _ _ _ () [] hP hD hS rfl (by decide) dX8_isDigit_17 (Or.inl rfl) (Or.inl rfl)
    · have b_6 := z_b8 c_4 (K := 57) (by decide +kernel)
      refine lv_iconst (v := 1) hx hb dX8_isDigit_12 (by decide) ?_
      refine lv_goto (tgt := 17) hx hb dX8_isDigit_13 (by decide) ?_
      exact hret _ _ _ _ _ _ () [] hP hD hS rfl (by decide) dX8_isDigit_17 (Or.inr rfl) (Or.inr rfl)
set_option maxHeartbeats 4000000 in
set_option maxRecDepth 100000 in
theorem d_Te_isSignOf (l : Launch) (G : va_G) (cA : zCA) (k : Int32) : zCi l yX8_isSignOf cX8_isSignOf 1 (some .boolean) ({ frames := 0, cells := 0, slots := 0, locals := 0 }) G cA [.int k] [] (S := Unit) (fun (r : Int32) (u : Unit) => r = 0 ∨ r = 1) (fun (u : Unit) => []) 0 0 := by
  refine z_start2z (own := RX8) (by decide) (Nat.le_of_ble_eq_true rfl) rfl ?_
  intro p e s m args below meth c A ls Q hx hb hml hts hown hK hE hT hP hD hS hA hl hret
  have hl : lv_has ls 1 [(0, .int k)] := hl
  refine lv_iload_n hx hb dX8_isSignOf_0 rfl (lv_at hl 0 rfl) ?_
  refine lv_bipush (v := 59) hx hb dX8_isSignOf_1 (by decide) ?_
  refine lv_icmp_eq (tgt := 24) hx hb dX8_isSignOf_3 (by decide) (fun c_1 => ?_) (fun c_1 => ?_)
  · skip
    refine lv_iconst (v := 1) hx hb dX8_isSignOf_24 (by decide) ?_
    refine lv_goto (tgt := 29) hx hb dX8_isSignOf_25 (by decide) ?_
    exact hret _ _ _ _ _ _ () [] hP hD hS rfl (by decide) dX8_isSignOf_29 (Or.inr rfl) (Or.inr rfl)
  · skip
    refine lv_iload_n hx hb dX8_isSignOf_6 rfl (lv_at hl 0 rfl) ?_
    refine lv_bipush (v := 60) hx hb dX8_isSignOf_7 (by decide) ?_
    refine lv_icmp_eq (tgt := 24) hx hb dX8_isSignOf_9 (by decide) (fun c_4 => ?_) (fun c_4 => ?_)
    · skip
      refine lv_iconst (v := 1) hx hb dX8_isSignOf_24 (by decide) ?_
      refine lv_goto (tgt := 29) hx hb dX8_isSignOf_25 (by decide) ?_
      exact hret _ _ _ _ _ _ () [] hP hD hS rfl (by decide) dX8_isSignOf_29 (Or.inr rfl) (Or.inr rfl)
    · skip
      refine lv_iload_n hx hb dX8_isSignOf_12 rfl (lv_at hl 0 rfl) ?_
      refine lv_bipush (v := 62) hx hb dX8_isSignOf_13 (by decide) ?_
      refine lv_icmp_eq (tgt := 24) hx hb dX8_isSignOf_15 (by decide) (fun c_7 => ?_) (fun c_7 => ?_)
      · skip
        refine lv_iconst (v := 1) hx hb dX8_isSignOf_24 (by decide) ?_
        refine lv_goto (tgt := 29) hx hb dX8_isSignOf_25 (by decide) ?_
        exact hret _ _ _ _ _ _ () [] hP hD hS rfl (by decide) dX8_isSignOf_29 (Or.inr rfl) (Or.inr rfl)
      · skip
        refine lv_iload_n hx hb dX8_isSignOf_18 rfl (lv_at hl 0 rfl) ?_
        refine lv_bipush (v := 61) hx hb dX8_isSignOf_19 (by decide) ?_
        refine lv_icmp_ne (tgt := 28) hx hb dX8_isSignOf_21 (by decide) (fun c_10 => ?_) (fun c_10 => ?_)
        · skip
          refine lv_iconst (v := 0) hx hb dX8_isSignOf_28 (by decide) ?_
          exact hret _ _ _ _ _ _ () [] hP hD hS rfl (by decide) dX8_isSignOf_29 (Or.inl rfl) (Or.inl rfl)
        · skip
          refine lv_iconst (v := 1) hx hb dX8_isSignOf_24 (by decide) ?_
          refine lv_goto (tgt := 29) hx hb dX8_isSignOf_25 (by decide) ?_
          exact hret _ _ _ _ _ _ () [] hP hD hS rfl (by decide) dX8_isSignOf_29 (Or.inr rfl) (Or.inr rfl)
set_option maxHeartbeats 4000000 in
set_option maxRecDepth 100000 in
theorem d_Te_readLetters (l : Launch) (G : va_G) (cA : zCA) (t : Nat) (tape : Nat) (t_fed : Int32) (t_length : Int32) (t_kind : Int32) (t_start : Int32) (t_end : Int32) (t_number : Int32) (t_sign : Int32) (t_letters : Int64) (t_fault : Int32) (t_faultPlace : Int32) (c_tape : Nat → Int32) : zCv l yX8_readLetters cX8_readLetters 1 none ({ frames := 1, cells := 0, slots := 0, locals := 21 }) G cA [.ref t] [(t, .inr (8, [.ref tape, .int t_fed, .int t_length, .int t_kind, .int t_start, .int t_end, .int t_number, .int t_sign, .long t_letters, .int t_fault, .int t_faultPlace])), (tape, .inl (cA.1 2, 900, .inl c_tape))] (S := Int32 × Int64) (fun (u : Int32 × Int64) => True) (fun (u : Int32 × Int64) => [(t, .inr (8, [.ref tape, .int t_fed, .int t_length, .int t_kind, .int t_start, .int u.1, .int t_number, .int t_sign, .long u.2, .int t_fault, .int t_faultPlace])), (tape, .inl (cA.1 2, 900, .inl c_tape))]) 0 0 := by
  refine z_start2v (own := RX8) (by decide) (Nat.le_of_ble_eq_true rfl) rfl ?_
  intro p e s m args below meth c A ls Q hx hb hml hts hown hK hE hT hP hD hS hA hl hret
  have hl : lv_has ls 1 [(0, .ref t)] := hl
  refine lv_aload_n hx hb dX8_readLetters_0 rfl (lv_at hl 0 rfl) ?_
  refine lv_lconst (v := 0) hx hb dX8_readLetters_1 (by decide) ?_
  refine va_put (D := G) (ci := 8) (v := .long 0) (ty := .long) (C := RX8) (T := TX8) (N := 11) hx hb hts inT8 tyX8 tyX8_ok nmX8 hown hK hP hD hS 0 rfl rfl 8 (by decide) (hts _ tw_217) (fun _ h9 => h9) rfl (tyX8_ok 8 (by decide)) rfl rfl (Nat.le_of_ble_eq_true rfl) dX8_readLetters_2 (fun H locs hP hD hS => ?_)
  have hP : va_P G vwCl [(t, .inr (8, [.ref tape, .int t_fed, .int t_length, .int t_kind, .int t_start, .int t_end, .int t_number, .int t_sign, .long 0, .int t_fault, .int t_faultPlace])), (tape, .inl (cA.1 2, 900, .inl c_tape))] H := hP
  have hD : va_D A [(t, .inr (8, [.ref tape, .int t_fed, .int t_length, .int t_kind, .int t_start, .int t_end, .int t_number, .int t_sign, .long 0, .int t_fault, .int t_faultPlace])), (tape, .inl (cA.1 2, 900, .inl c_tape))] := hD
  have hlp_46 : ∀ (n : Nat) (v_44 : Int32) (v_45 : Int64) (H : Heap) (locs : List Loc) (ls : Array Slot), (2147483647 - v_44.toInt).toNat < n → va_P G vwCl [(t, .inr (8, [.ref tape, .int t_fed, .int t_length, .int t_kind, .int t_start, .int v_44, .int t_number, .int t_sign, .long v_45, .int t_fault, .int t_faultPlace])), (tape, .inl (cA.1 2, 900, .inl c_tape))] H → va_D A [(t, .inr (8, [.ref tape, .int t_fed, .int t_length, .int t_kind, .int t_start, .int v_44, .int t_number, .int t_sign, .long v_45, .int t_fault, .int t_faultPlace])), (tape, .inl (cA.1 2, 900, .inl c_tape))] → va_S A s.heap H locs → lv_has ls 1 [(0, .ref t)] → W p l e ({ frames := 1, cells := 0, slots := 0, locals := 21 }) s m args below meth c H locs 0 0 Q (F0 m 5 ls []) := by
    intro n
    induction n with
    | zero =>
      intro v_44 v_45 H locs ls hmu_hlp_46 hP hD hS hl
      exact absurd hmu_hlp_46 (Nat.not_lt_zero _)
    | succ n ih_47 =>
      intro v_44 v_45 H locs ls hmu_hlp_46 hP hD hS hl
      refine lv_aload_n hx hb dX8_readLetters_5 rfl (lv_at hl 0 rfl) ?_
      refine va_get (D := G) (ci := 8) (v := .int v_44) (C := RX8) (T := TX8) (N := 11) hx hb hts inT8 hown hK hP 0 rfl rfl 5 (by decide) (hts _ tw_211) (fun _ h9 => h9) rfl dX8_readLetters_6 ?_
      refine lv_aload_n hx hb dX8_readLetters_9 rfl (lv_at hl 0 rfl) ?_
      refine va_get (D := G) (ci := 8) (v := .int t_length) (C := RX8) (T := TX8) (N := 11) hx hb hts inT8 hown hK hP 0 rfl rfl 2 (by decide) (hts _ tw_208) (fun _ h9 => h9) rfl dX8_readLetters_10 ?_
      refine lv_icmp_ge (tgt := 85) hx hb dX8_readLetters_13 (by decide) (fun c_48 => ?_) (fun c_48 => ?_)
      · have b_49 := z_s1 c_48
        refine lv_aload_n hx hb dX8_readLetters_85 rfl (lv_at hl 0 rfl) ?_
        refine va_get (D := G) (ci := 8) (v := .int v_44) (C := RX8) (T := TX8) (N := 11) hx hb hts inT8 hown hK hP 0 rfl rfl 5 (by decide) (hts _ tw_211) (fun _ h9 => h9) rfl dX8_readLetters_86 ?_
        refine lv_aload_n hx hb dX8_readLetters_89 rfl (lv_at hl 0 rfl) ?_
        refine va_get (D := G) (ci := 8) (v := .int t_start) (C := RX8) (T := TX8) (N := 11) hx hb hts inT8 hown hK hP 0 rfl rfl 4 (by decide) (hts _ tw_210) (fun _ h9 => h9) rfl dX8_readLetters_90 ?_
        refine lv_isub hx hb dX8_readLetters_93 ?_
        refine lv_topi (fun x_50 _ => ?_)
        refine lv_bipush (v := 8) hx hb dX8_readLetters_94 (by decide) ?_
        refine lv_icmp_le (tgt := 104) hx hb dX8_readLetters_96 (by decide) (fun c_51 => ?_) (fun c_51 => ?_)
        · have b_52 := z_b5 c_51 (K := 8) (by decide +kernel)
          exact hret _ _ _ _ _ (v_44, v_45) [0, 1] hP hD hS rfl (by decide) dX8_readLetters_104 trivial
        · have b_53 := z_b6 c_51 (K := 8) (by decide +kernel)
          refine lv_aload_n hx hb dX8_readLetters_99 rfl (lv_at hl 0 rfl) ?_
          refine lv_lconst (v := 0) hx hb dX8_readLetters_100 (by decide) ?_
          refine va_put (D := G) (ci := 8) (v := .long 0) (ty := .long) (C := RX8) (T := TX8) (N := 11) hx hb hts inT8 tyX8 tyX8_ok nmX8 hown hK hP hD hS 0 rfl rfl 8 (by decide) (hts _ tw_217) (fun _ h9 => h9) rfl (tyX8_ok 8 (by decide)) rfl rfl (Nat.le_of_ble_eq_true rfl) dX8_readLetters_101 (fun H locs hP hD hS => ?_)
          have hP : va_P G vwCl [(t, .inr (8, [.ref tape, .int t_fed, .int t_length, .int t_kind, .int t_start, .int v_44, .int t_number, .int t_sign, .long 0, .int t_fault, .int t_faultPlace])), (tape, .inl (cA.1 2, 900, .inl c_tape))] H := hP
          have hD : va_D A [(t, .inr (8, [.ref tape, .int t_fed, .int t_length, .int t_kind, .int t_start, .int v_44, .int t_number, .int t_sign, .long 0, .int t_fault, .int t_faultPlace])), (tape, .inl (cA.1 2, 900, .inl c_tape))] := hD
          exact hret _ _ _ _ _ (v_44, 0) [0, 1] hP hD hS rfl (by decide) dX8_readLetters_104 trivial
      · have b_54 := z_t2 c_48
        refine lv_aload_n hx hb dX8_readLetters_16 rfl (lv_at hl 0 rfl) ?_
        refine lv_aload_n hx hb dX8_readLetters_17 rfl (lv_at hl 0 rfl) ?_
        refine va_get (D := G) (ci := 8) (v := .int v_44) (C := RX8) (T := TX8) (N := 11) hx hb hts inT8 hown hK hP 0 rfl rfl 5 (by decide) (hts _ tw_211) (fun _ h9 => h9) rfl dX8_readLetters_18 ?_
        refine z_callVi (As := [.int v_44]) (rest := []) (wr := []) ⟨hx, hb, hml, hown, hts⟩ hK hE hT hP hD hS hA (d_Te_byteAt l G cA t tape t_fed t_length t_kind t_start v_44 t_number t_sign v_45 t_fault t_faultPlace c_tape v_44) lk_RX8_40 ⟨rfl, rfl⟩ ⟨Nat.le_of_ble_eq_true rfl, Nat.le_of_ble_eq_true rfl⟩ 8 rfl rfl rfl [0, 1] [] rfl rfl (by decide) rfl hl.1 rfl (lv_room (Nat.le_of_ble_eq_true rfl)) dX8_readLetters_21 ⟨Nat.le_of_ble_eq_true rfl, Nat.le_of_ble_eq_true rfl⟩ (fun r_55 u_56 H locs hw hP hD hS => ?_)
        have hP : va_P G vwCl [(t, .inr (8, [.ref tape, .int t_fed, .int t_length, .int t_kind, .int t_start, .int v_44, .int t_number, .int t_sign, .long v_45, .int t_fault, .int t_faultPlace])), (tape, .inl (cA.1 2, 900, .inl c_tape))] H := hP
        have hD : va_D A [(t, .inr (8, [.ref tape, .int t_fed, .int t_length, .int t_kind, .int t_start, .int v_44, .int t_number, .int t_sign, .long v_45, .int t_fault, .int t_faultPlace])), (tape, .inl (cA.1 2, 900, .inl c_tape))] := hD
        refine z_callSi (As := [.int r_55]) (rest := []) (wr := [(t, .inr (8, [.ref tape, .int t_fed, .int t_length, .int t_kind, .int t_start, .int v_44, .int t_number, .int t_sign, .long v_45, .int t_fault, .int t_faultPlace])), (tape, .inl (cA.1 2, 900, .inl c_tape))]) ⟨hx, hb, hml, hown, hts⟩ hK hE hT hP hD hS hA (d_Te_isLetter l G cA r_55) lk_RX8_48 ⟨rfl, rfl⟩ ⟨Nat.le_of_ble_eq_true rfl, Nat.le_of_ble_eq_true rfl⟩ [] [0, 1] rfl rfl (by decide) rfl hl.1 rfl (lv_room (Nat.le_of_ble_eq_true rfl)) dX8_readLetters_24 ⟨Nat.le_of_ble_eq_true rfl, Nat.le_of_ble_eq_true rfl⟩ (fun r_57 u_58 H locs hw hP hD hS => ?_)
        have hP : va_P G vwCl [(t, .inr (8, [.ref tape, .int t_fed, .int t_length, .int t_kind, .int t_start, .int v_44, .int t_number, .int t_sign, .long v_45, .int t_fault, .int t_faultPlace])), (tape, .inl (cA.1 2, 900, .inl c_tape))] H := hP
        have hD : va_D A [(t, .inr (8, [.ref tape, .int t_fed, .int t_length, .int t_kind, .int t_start, .int v_44, .int t_number, .int t_sign, .long v_45, .int t_fault, .int t_faultPlace])), (tape, .inl (cA.1 2, 900, .inl c_tape))] := hD
        have hz_r_57 := hw
        refine lv_if_eq (tgt := 85) hx hb dX8_readLetters_27 (by decide) (fun c_59 => ?_) (fun c_59 => ?_)
        · skip
          refine lv_aload_n hx hb dX8_readLetters_85 rfl (lv_at hl 0 rfl) ?_
          refine va_get (D := G) (ci := 8) (v := .int v_44) (C := RX8) (T := TX8) (N := 11) hx hb hts inT8 hown hK hP 0 rfl rfl 5 (by decide) (hts _ tw_211) (fun _ h9 => h9) rfl dX8_readLetters_86 ?_
          refine lv_aload_n hx hb dX8_readLetters_89 rfl (lv_at hl 0 rfl) ?_
          refine va_get (D := G) (ci := 8) (v := .int t_start) (C := RX8) (T := TX8) (N := 11) hx hb hts inT8 hown hK hP 0 rfl rfl 4 (by decide) (hts _ tw_210) (fun _ h9 => h9) rfl dX8_readLetters_90 ?_
          refine lv_isub hx hb dX8_readLetters_93 ?_
          refine lv_topi (fun x_61 _ => ?_)
          refine lv_bipush (v := 8) hx hb dX8_readLetters_94 (by decide) ?_
          refine lv_icmp_le (tgt := 104) hx hb dX8_readLetters_96 (by decide) (fun c_62 => ?_) (fun c_62 => ?_)
          · have b_63 := z_b5 c_62 (K := 8) (by decide +kernel)
            exact hret _ _ _ _ _ (v_44, v_45) [0, 1] hP hD hS rfl (by decide) dX8_readLetters_104 trivial
          · have b_64 := z_b6 c_62 (K := 8) (by decide +kernel)
            refine lv_aload_n hx hb dX8_readLetters_99 rfl (lv_at hl 0 rfl) ?_
            refine lv_lconst (v := 0) hx hb dX8_readLetters_100 (by decide) ?_
            refine va_put (D := G) (ci := 8) (v := .long 0) (ty := .long) (C := RX8) (T := TX8) (N := 11) hx hb hts inT8 tyX8 tyX8_ok nmX8 hown hK hP hD hS 0 rfl rfl 8 (by decide) (hts _ tw_217) (fun _ h9 => h9) rfl (tyX8_ok 8 (by decide)) rfl rfl (Nat.le_of_ble_eq_true rfl) dX8_readLetters_101 (fun H locs hP hD hS => ?_)
            have hP : va_P G vwCl [(t, .inr (8, [.ref tape, .int t_fed, .int t_length, .int t_kind, .int t_start, .int v_44, .int t_number, .int t_sign, .long 0, .int t_fault, .int t_faultPlace])), (tape, .inl (cA.1 2, 900, .inl c_tape))] H := hP
            have hD : va_D A [(t, .inr (8, [.ref tape, .int t_fed, .int t_length, .int t_kind, .int t_start, .int v_44, .int t_number, .int t_sign, .long 0, .int t_fault, .int t_faultPlace])), (tape, .inl (cA.1 2, 900, .inl c_tape))] := hD
            exact hret _ _ _ _ _ (v_44, 0) [0, 1] hP hD hS rfl (by decide) dX8_readLetters_104 trivial
        · skip
          refine lv_aload_n hx hb dX8_readLetters_30 rfl (lv_at hl 0 rfl) ?_
          refine va_get (D := G) (ci := 8) (v := .int v_44) (C := RX8) (T := TX8) (N := 11) hx hb hts inT8 hown hK hP 0 rfl rfl 5 (by decide) (hts _ tw_211) (fun _ h9 => h9) rfl dX8_readLetters_31 ?_
          refine lv_aload_n hx hb dX8_readLetters_34 rfl (lv_at hl 0 rfl) ?_
          refine va_get (D := G) (ci := 8) (v := .int t_start) (C := RX8) (T := TX8) (N := 11) hx hb hts inT8 hown hK hP 0 rfl rfl 4 (by decide) (hts _ tw_210) (fun _ h9 => h9) rfl dX8_readLetters_35 ?_
          refine lv_isub hx hb dX8_readLetters_38 ?_
          refine lv_topi (fun x_66 _ => ?_)
          refine lv_bipush (v := 8) hx hb dX8_readLetters_39 (by decide) ?_
          refine lv_icmp_ge (tgt := 72) hx hb dX8_readLetters_41 (by decide) (fun c_67 => ?_) (fun c_67 => ?_)
          · have b_68 := z_b1 c_67 (K := 8) (by decide +kernel)
            refine lv_aload_n hx hb dX8_readLetters_72 rfl (lv_at hl 0 rfl) ?_
            refine lv_dup hx hb dX8_readLetters_73 rfl ?_
            refine va_get (D := G) (ci := 8) (v := .int v_44) (C := RX8) (T := TX8) (N := 11) hx hb hts inT8 hown hK hP 0 rfl rfl 5 (by decide) (hts _ tw_211) (fun _ h9 => h9) rfl dX8_readLetters_74 ?_
            refine lv_iconst (v := 1) hx hb dX8_readLetters_77 (by decide) ?_
            refine lv_iadd hx hb dX8_readLetters_78 ?_
            refine va_put (D := G) (ci := 8) (v := .int (v_44 + 1)) (ty := .int) (C := RX8) (T := TX8) (N := 11) hx hb hts inT8 tyX8 tyX8_ok nmX8 hown hK hP hD hS 0 rfl rfl 5 (by decide) (hts _ tw_211) (fun _ h9 => h9) rfl (tyX8_ok 5 (by decide)) rfl rfl (Nat.le_of_ble_eq_true rfl) dX8_readLetters_79 (fun H locs hP hD hS => ?_)
            have hP : va_P G vwCl [(t, .inr (8, [.ref tape, .int t_fed, .int t_length, .int t_kind, .int t_start, .int (v_44 + 1), .int t_number, .int t_sign, .long v_45, .int t_fault, .int t_faultPlace])), (tape, .inl (cA.1 2, 900, .inl c_tape))] H := hP
            have hD : va_D A [(t, .inr (8, [.ref tape, .int t_fed, .int t_length, .int t_kind, .int t_start, .int (v_44 + 1), .int t_number, .int t_sign, .long v_45, .int t_fault, .int t_faultPlace])), (tape, .inl (cA.1 2, 900, .inl c_tape))] := hD
            refine lv_goto (tgt := 5) hx hb dX8_readLetters_82 (by decide) ?_
            exact ih_47 (v_44 + 1) v_45 H locs ls (z_up hmu_hlp_46 (by omega) trivial) hP hD hS (lv_sub hl [0] rfl)
          · have b_69 := z_b2 c_67 (K := 8) (by decide +kernel)
            refine lv_aload_n hx hb dX8_readLetters_44 rfl (lv_at hl 0 rfl) ?_
            refine lv_aload_n hx hb dX8_readLetters_45 rfl (lv_at hl 0 rfl) ?_
            refine va_get (D := G) (ci := 8) (v := .long v_45) (C := RX8) (T := TX8) (N := 11) hx hb hts inT8 hown hK hP 0 rfl rfl 8 (by decide) (hts _ tw_217) (fun _ h9 => h9) rfl dX8_readLetters_46 ?_
            refine lv_ldc2 (v := 32) hx hb hown (hts _ tw_838) dX8_readLetters_49 ?_
            refine lv_lmul hx hb dX8_readLetters_52 ?_
            refine lv_topl (fun x_70 _ => ?_)
            refine lv_aload_n hx hb dX8_readLetters_53 rfl (lv_at hl 0 rfl) ?_
            refine lv_aload_n hx hb dX8_readLetters_54 rfl (lv_at hl 0 rfl) ?_
            refine va_get (D := G) (ci := 8) (v := .int v_44) (C := RX8) (T := TX8) (N := 11) hx hb hts inT8 hown hK hP 0 rfl rfl 5 (by decide) (hts _ tw_211) (fun _ h9 => h9) rfl dX8_readLetters_55 ?_
            refine z_callVi (As := [.int v_44]) (rest := [.long x_70, .ref t]) (wr := []) ⟨hx, hb, hml, hown, hts⟩ hK hE hT hP hD hS hA (d_Te_byteAt l G cA t tape t_fed t_length t_kind t_start v_44 t_number t_sign v_45 t_fault t_faultPlace c_tape v_44) lk_RX8_40 ⟨rfl, rfl⟩ ⟨Nat.le_of_ble_eq_true rfl, Nat.le_of_ble_eq_true rfl⟩ 8 rfl rfl rfl [0, 1] [] rfl rfl (by decide) rfl hl.1 rfl (lv_room (Nat.le_of_ble_eq_true rfl)) dX8_readLetters_58 ⟨Nat.le_of_ble_eq_true rfl, Nat.le_of_ble_eq_true rfl⟩ (fun r_71 u_72 H locs hw hP hD hS => ?_)
            have hP : va_P G vwCl [(t, .inr (8, [.ref tape, .int t_fed, .int t_length, .int t_kind, .int t_start, .int v_44, .int t_number, .int t_sign, .long v_45, .int t_fault, .int t_faultPlace])), (tape, .inl (cA.1 2, 900, .inl c_tape))] H := hP
            have hD : va_D A [(t, .inr (8, [.ref tape, .int t_fed, .int t_length, .int t_kind, .int t_start, .int v_44, .int t_number, .int t_sign, .long v_45, .int t_fault, .int t_faultPlace])), (tape, .inl (cA.1 2, 900, .inl c_tape))] := hD
            refine lv_i2l (v := (r_71).toInt64) hx hb dX8_readLetters_61 rfl ?_
            refine lv_topl (fun x_73 _ => ?_)
            refine lv_ladd hx hb dX8_readLetters_62 ?_
            refine lv_topl (fun x_74 _ => ?_)
            refine lv_ldc2 (v := 97) hx hb hown (hts _ tw_839) dX8_readLetters_63 ?_
            refine lv_lsub hx hb dX8_readLetters_66 ?_
            refine lv_topl (fun x_75 _ => ?_)
            refine lv_lconst (v := 1) hx hb dX8_readLetters_67 (by decide) ?_
            refine lv_ladd hx hb dX8_readLetters_68 ?_
            refine lv_topl (fun x_76 _ => ?_)
            refine va_put (D := G) (ci := 8) (v := .long x_76) (ty := .long) (C := RX8) (T := TX8) (N := 11) hx hb hts inT8 tyX8 tyX8_ok nmX8 hown hK hP hD hS 0 rfl rfl 8 (by decide) (hts _ tw_217) (fun _ h9 => h9) rfl (tyX8_ok 8 (by decide)) rfl rfl (Nat.le_of_ble_eq_true rfl) dX8_readLetters_69 (fun H locs hP hD hS => ?_)
            have hP : va_P G vwCl [(t, .inr (8, [.ref tape, .int t_fed, .int t_length, .int t_kind, .int t_start, .int v_44, .int t_number, .int t_sign, .long x_76, .int t_fault, .int t_faultPlace])), (tape, .inl (cA.1 2, 900, .inl c_tape))] H := hP
            have hD : va_D A [(t, .inr (8, [.ref tape, .int t_fed, .int t_length, .int t_kind, .int t_start, .int v_44, .int t_number, .int t_sign, .long x_76, .int t_fault, .int t_faultPlace])), (tape, .inl (cA.1 2, 900, .inl c_tape))] := hD
            refine lv_aload_n hx hb dX8_readLetters_72 rfl (lv_at hl 0 rfl) ?_
            refine lv_dup hx hb dX8_readLetters_73 rfl ?_
            refine va_get (D := G) (ci := 8) (v := .int v_44) (C := RX8) (T := TX8) (N := 11) hx hb hts inT8 hown hK hP 0 rfl rfl 5 (by decide) (hts _ tw_211) (fun _ h9 => h9) rfl dX8_readLetters_74 ?_
            refine lv_iconst (v := 1) hx hb dX8_readLetters_77 (by decide) ?_
            refine lv_iadd hx hb dX8_readLetters_78 ?_
            refine va_put (D := G) (ci := 8) (v := .int (v_44 + 1)) (ty := .int) (C := RX8) (T := TX8) (N := 11) hx hb hts inT8 tyX8 tyX8_ok nmX8 hown hK hP hD hS 0 rfl rfl 5 (by decide) (hts _ tw_211) (fun _ h9 => h9) rfl (tyX8_ok 5 (by decide)) rfl rfl (Nat.le_of_ble_eq_true rfl) dX8_readLetters_79 (fun H locs hP hD hS => ?_)
            have hP : va_P G vwCl [(t, .inr (8, [.ref tape, .int t_fed, .int t_length, .int t_kind, .int t_start, .int (v_44 + 1), .int t_number, .int t_sign, .long x_76, .int t_fault, .int t_faultPlace])), (tape, .inl (cA.1 2, 900, .inl c_tape))] H := hP
            have hD : va_D A [(t, .inr (8, [.ref tape, .int t_fed, .int t_length, .int t_kind, .int t_start, .int (v_44 + 1), .int t_number, .int t_sign, .long x_76, .int t_fault, .int t_faultPlace])), (tape, .inl (cA.1 2, 900, .inl c_tape))] := hD
            refine lv_goto (tgt := 5) hx hb dX8_readLetters_82 (by decide) ?_
            exact ih_47 (v_44 + 1) x_76 H locs ls (z_up hmu_hlp_46 (by omega) trivial) hP hD hS (lv_sub hl [0] rfl)
  exact hlp_46 _ t_end 0 _ _ _ (Nat.lt_succ_self _) hP hD hS (lv_sub hl [0] rfl)
set_option maxHeartbeats 4000000 in
set_option maxRecDepth 100000 in
theorem d_Te_readDigits (l : Launch) (G : va_G) (cA : zCA) (t : Nat) (tape : Nat) (t_fed : Int32) (t_length : Int32) (t_kind : Int32) (t_start : Int32) (t_end : Int32) (t_number : Int32) (t_sign : Int32) (t_letters : Int64) (t_fault : Int32) (t_faultPlace : Int32) (c_tape : Nat → Int32) : zCv l yX8_readDigits cX8_readDigits 1 none ({ frames := 1, cells := 0, slots := 0, locals := 21 }) G cA [.ref t] [(t, .inr (8, [.ref tape, .int t_fed, .int t_length, .int t_kind, .int t_start, .int t_end, .int t_number, .int t_sign, .long t_letters, .int t_fault, .int t_faultPlace])), (tape, .inl (cA.1 2, 900, .inl c_tape))] (S := Int32 × Int32 × Int32) (fun (u : Int32 × Int32 × Int32) => True) (fun (u : Int32 × Int32 × Int32) => [(t, .inr (8, [.ref tape, .int t_fed, .int t_length, .int u.1, .int t_start, .int u.2.1, .int u.2.2, .int t_sign, .long t_letters, .int t_fault, .int t_faultPlace])), (tape, .inl (cA.1 2, 900, .inl c_tape))]) 0 0 := by
  refine z_start2v (own := RX8) (by decide) (Nat.le_of_ble_eq_true rfl) rfl ?_
  intro p e s m args below meth c A ls Q hx hb hml hts hown hK hE hT hP hD hS hA hl hret
  have hl : lv_has ls 1 [(0, .ref t)] := hl
  refine lv_aload_n hx hb dX8_readDigits_0 rfl (lv_at hl 0 rfl) ?_
  refine lv_iconst (v := 0) hx hb dX8_readDigits_1 (by decide) ?_
  refine va_put (D := G) (ci := 8) (v := .int 0) (ty := .int) (C := RX8) (T := TX8) (N := 11) hx hb hts inT8 tyX8 tyX8_ok nmX8 hown hK hP hD hS 0 rfl rfl 6 (by decide) (hts _ tw_213) (fun _ h9 => h9) rfl (tyX8_ok 6 (by decide)) rfl rfl (Nat.le_of_ble_eq_true rfl) dX8_readDigits_2 (fun H locs hP hD hS => ?_)
  have hP : va_P G vwCl [(t, .inr (8, [.ref tape, .int t_fed, .int t_length, .int t_kind, .int t_start, .int t_end, .int 0, .int t_sign, .long t_letters, .int t_fault, .int t_faultPlace])), (tape, .inl (cA.1 2, 900, .inl c_tape))] H := hP
  have hD : va_D A [(t, .inr (8, [.ref tape, .int t_fed, .int t_length, .int t_kind, .int t_start, .int t_end, .int 0, .int t_sign, .long t_letters, .int t_fault, .int t_faultPlace])), (tape, .inl (cA.1 2, 900, .inl c_tape))] := hD
  have hlp_40 : ∀ (n : Nat) (v_38 : Int32) (v_39 : Int32) (H : Heap) (locs : List Loc) (ls : Array Slot), (2147483647 - v_38.toInt).toNat < n → va_P G vwCl [(t, .inr (8, [.ref tape, .int t_fed, .int t_length, .int t_kind, .int t_start, .int v_38, .int v_39, .int t_sign, .long t_letters, .int t_fault, .int t_faultPlace])), (tape, .inl (cA.1 2, 900, .inl c_tape))] H → va_D A [(t, .inr (8, [.ref tape, .int t_fed, .int t_length, .int t_kind, .int t_start, .int v_38, .int v_39, .int t_sign, .long t_letters, .int t_fault, .int t_faultPlace])), (tape, .inl (cA.1 2, 900, .inl c_tape))] → va_S A s.heap H locs → lv_has ls 1 [(0, .ref t)] → W p l e ({ frames := 1, cells := 0, slots := 0, locals := 21 }) s m args below meth c H locs 0 0 Q (F0 m 5 ls []) := by
    intro n
    induction n with
    | zero =>
      intro v_38 v_39 H locs ls hmu_hlp_40 hP hD hS hl
      exact absurd hmu_hlp_40 (Nat.not_lt_zero _)
    | succ n ih_41 =>
      intro v_38 v_39 H locs ls hmu_hlp_40 hP hD hS hl
      refine lv_aload_n hx hb dX8_readDigits_5 rfl (lv_at hl 0 rfl) ?_
      refine va_get (D := G) (ci := 8) (v := .int v_38) (C := RX8) (T := TX8) (N := 11) hx hb hts inT8 hown hK hP 0 rfl rfl 5 (by decide) (hts _ tw_211) (fun _ h9 => h9) rfl dX8_readDigits_6 ?_
      refine lv_aload_n hx hb dX8_readDigits_9 rfl (lv_at hl 0 rfl) ?_
      refine va_get (D := G) (ci := 8) (v := .int t_length) (C := RX8) (T := TX8) (N := 11) hx hb hts inT8 hown hK hP 0 rfl rfl 2 (by decide) (hts _ tw_208) (fun _ h9 => h9) rfl dX8_readDigits_10 ?_
      refine lv_icmp_ge (tgt := 79) hx hb dX8_readDigits_13 (by decide) (fun c_42 => ?_) (fun c_42 => ?_)
      · have b_43 := z_s1 c_42
        refine lv_aload_n hx hb dX8_readDigits_79 rfl (lv_at hl 0 rfl) ?_
        refine lv_aload_n hx hb dX8_readDigits_80 rfl (lv_at hl 0 rfl) ?_
        refine va_get (D := G) (ci := 8) (v := .int v_38) (C := RX8) (T := TX8) (N := 11) hx hb hts inT8 hown hK hP 0 rfl rfl 5 (by decide) (hts _ tw_211) (fun _ h9 => h9) rfl dX8_readDigits_81 ?_
        refine lv_aload_n hx hb dX8_readDigits_84 rfl (lv_at hl 0 rfl) ?_
        refine va_get (D := G) (ci := 8) (v := .int t_start) (C := RX8) (T := TX8) (N := 11) hx hb hts inT8 hown hK hP 0 rfl rfl 4 (by decide) (hts _ tw_210) (fun _ h9 => h9) rfl dX8_readDigits_85 ?_
        refine lv_isub hx hb dX8_readDigits_88 ?_
        refine lv_topi (fun x_44 _ => ?_)
        refine lv_iconst (v := 4) hx hb dX8_readDigits_89 (by decide) ?_
        refine lv_icmp_le (tgt := 97) hx hb dX8_readDigits_90 (by decide) (fun c_45 => ?_) (fun c_45 => ?_)
        · have b_46 := z_b5 c_45 (K := 4) (by decide +kernel)
          refine lv_iconst (v := 2) hx hb dX8_readDigits_97 (by decide) ?_
          refine va_put (D := G) (ci := 8) (v := .int 2) (ty := .int) (C := RX8) (T := TX8) (N := 11) hx hb hts inT8 tyX8 tyX8_ok nmX8 hown hK hP hD hS 0 rfl rfl 3 (by decide) (hts _ tw_209) (fun _ h9 => h9) rfl (tyX8_ok 3 (by decide)) rfl rfl (Nat.le_of_ble_eq_true rfl) dX8_readDigits_98 (fun H locs hP hD hS => ?_)
          have hP : va_P G vwCl [(t, .inr (8, [.ref tape, .int t_fed, .int t_length, .int 2, .int t_start, .int v_38, .int v_39, .int t_sign, .long t_letters, .int t_fault, .int t_faultPlace])), (tape, .inl (cA.1 2, 900, .inl c_tape))] H := hP
          have hD : va_D A [(t, .inr (8, [.ref tape, .int t_fed, .int t_length, .int 2, .int t_start, .int v_38, .int v_39, .int t_sign, .long t_letters, .int t_fault, .int t_faultPlace])), (tape, .inl (cA.1 2, 900, .inl c_tape))] := hD
          exact hret _ _ _ _ _ (2, v_38, v_39) [0, 1] hP hD hS rfl (by decide) dX8_readDigits_101 trivial
        · have b_47 := z_b6 c_45 (K := 4) (by decide +kernel)
          refine lv_iconst (v := 4) hx hb dX8_readDigits_93 (by decide) ?_
          refine lv_goto (tgt := 98) hx hb dX8_readDigits_94 (by decide) ?_
          refine va_put (D := G) (ci := 8) (v := .int 4) (ty := .int) (C := RX8) (T := TX8) (N := 11) hx hb hts inT8 tyX8 tyX8_ok nmX8 hown hK hP hD hS 0 rfl rfl 3 (by decide) (hts _ tw_209) (fun _ h9 => h9) rfl (tyX8_ok 3 (by decide)) rfl rfl (Nat.le_of_ble_eq_true rfl) dX8_readDigits_98 (fun H locs hP hD hS => ?_)
          have hP : va_P G vwCl [(t, .inr (8, [.ref tape, .int t_fed, .int t_length, .int 4, .int t_start, .int v_38, .int v_39, .int t_sign, .long t_letters, .int t_fault, .int t_faultPlace])), (tape, .inl (cA.1 2, 900, .inl c_tape))] H := hP
          have hD : va_D A [(t, .inr (8, [.ref tape, .int t_fed, .int t_length, .int 4, .int t_start, .int v_38, .int v_39, .int t_sign, .long t_letters, .int t_fault, .int t_faultPlace])), (tape, .inl (cA.1 2, 900, .inl c_tape))] := hD
          exact hret _ _ _ _ _ (4, v_38, v_39) [0, 1] hP hD hS rfl (by decide) dX8_readDigits_101 trivial
      · have b_48 := z_t2 c_42
        refine lv_aload_n hx hb dX8_readDigits_16 rfl (lv_at hl 0 rfl) ?_
        refine lv_aload_n hx hb dX8_readDigits_17 rfl (lv_at hl 0 rfl) ?_
        refine va_get (D := G) (ci := 8) (v := .int v_38) (C := RX8) (T := TX8) (N := 11) hx hb hts inT8 hown hK hP 0 rfl rfl 5 (by decide) (hts _ tw_211) (fun _ h9 => h9) rfl dX8_readDigits_18 ?_
        refine z_callVi (As := [.int v_38]) (rest := []) (wr := []) ⟨hx, hb, hml, hown, hts⟩ hK hE hT hP hD hS hA (d_Te_byteAt l G cA t tape t_fed t_length t_kind t_start v_38 v_39 t_sign t_letters t_fault t_faultPlace c_tape v_38) lk_RX8_40 ⟨rfl, rfl⟩ ⟨Nat.le_of_ble_eq_true rfl, Nat.le_of_ble_eq_true rfl⟩ 8 rfl rfl rfl [0, 1] [] rfl rfl (by decide) rfl hl.1 rfl (lv_room (Nat.le_of_ble_eq_true rfl)) dX8_readDigits_21 ⟨Nat.le_of_ble_eq_true rfl, Nat.le_of_ble_eq_true rfl⟩ (fun r_49 u_50 H locs hw hP hD hS => ?_)
        have hP : va_P G vwCl [(t, .inr (8, [.ref tape, .int t_fed, .int t_length, .int t_kind, .int t_start, .int v_38, .int v_39, .int t_sign, .long t_letters, .int t_fault, .int t_faultPlace])), (tape, .inl (cA.1 2, 900, .inl c_tape))] H := hP
        have hD : va_D A [(t, .inr (8, [.ref tape, .int t_fed, .int t_length, .int t_kind, .int t_start, .int v_38, .int v_39, .int t_sign, .long t_letters, .int t_fault, .int t_faultPlace])), (tape, .inl (cA.1 2, 900, .inl c_tape))] := hD
        refine z_callSi (As := [.int r_49]) (rest := []) (wr := [(t, .inr (8, [.ref tape, .int t_fed, .int t_length, .int t_kind, .int t_start, .int v_38, .int v_39, .int t_sign, .long t_letters, .int t_fault, .int t_faultPlace])), (tape, .inl (cA.1 2, 900, .inl c_tape))]) ⟨hx, hb, hml, hown, hts⟩ hK hE hT hP hD hS hA (d_Te_isDigit l G cA r_49) lk_RX8_54 ⟨rfl, rfl⟩ ⟨Nat.le_of_ble_eq_true rfl, Nat.le_of_ble_eq_true rfl⟩ [] [0, 1] rfl rfl (by decide) rfl hl.1 rfl (lv_room (Nat.le_of_ble_eq_true rfl)) dX8_readDigits_24 ⟨Nat.le_of_ble_eq_true rfl, Nat.le_of_ble_eq_true rfl⟩ (fun r_51 u_52 H locs hw hP hD hS => ?_)
        have hP : va_P G vwCl [(t, .inr (8, [.ref tape, .int t_fed, .int t_length, .int t_kind, .int t_start, .int v_38, .int v_39, .int t_sign, .long t_letters, .int t_fault, .int t_faultPlace])), (tape, .inl (cA.1 2, 900, .inl c_tape))] H := hP
        have hD : va_D A [(t, .inr (8, [.ref tape, .int t_fed, .int t_length, .int t_kind, .int t_start, .int v_38, .int v_39, .int t_sign, .long t_letters, .int t_fault, .int t_faultPlace])), (tape, .inl (cA.1 2, 900, .inl c_tape))] := hD
        have hz_r_51 := hw
        refine lv_if_eq (tgt := 79) hx hb dX8_readDigits_27 (by decide) (fun c_53 => ?_) (fun c_53 => ?_)
        · skip
          refine lv_aload_n hx hb dX8_readDigits_79 rfl (lv_at hl 0 rfl) ?_
          refine lv_aload_n hx hb dX8_readDigits_80 rfl (lv_at hl 0 rfl) ?_
          refine va_get (D := G) (ci := 8) (v := .int v_38) (C := RX8) (T := TX8) (N := 11) hx hb hts inT8 hown hK hP 0 rfl rfl 5 (by decide) (hts _ tw_211) (fun _ h9 => h9) rfl dX8_readDigits_81 ?_
          refine lv_aload_n hx hb dX8_readDigits_84 rfl (lv_at hl 0 rfl) ?_
          refine va_get (D := G) (ci := 8) (v := .int t_start) (C := RX8) (T := TX8) (N := 11) hx hb hts inT8 hown hK hP 0 rfl rfl 4 (by decide) (hts _ tw_210) (fun _ h9 => h9) rfl dX8_readDigits_85 ?_
          refine lv_isub hx hb dX8_readDigits_88 ?_
          refine lv_topi (fun x_55 _ => ?_)
          refine lv_iconst (v := 4) hx hb dX8_readDigits_89 (by decide) ?_
          refine lv_icmp_le (tgt := 97) hx hb dX8_readDigits_90 (by decide) (fun c_56 => ?_) (fun c_56 => ?_)
          · have b_57 := z_b5 c_56 (K := 4) (by decide +kernel)
            refine lv_iconst (v := 2) hx hb dX8_readDigits_97 (by decide) ?_
            refine va_put (D := G) (ci := 8) (v := .int 2) (ty := .int) (C := RX8) (T := TX8) (N := 11) hx hb hts inT8 tyX8 tyX8_ok nmX8 hown hK hP hD hS 0 rfl rfl 3 (by decide) (hts _ tw_209) (fun _ h9 => h9) rfl (tyX8_ok 3 (by decide)) rfl rfl (Nat.le_of_ble_eq_true rfl) dX8_readDigits_98 (fun H locs hP hD hS => ?_)
            have hP : va_P G vwCl [(t, .inr (8, [.ref tape, .int t_fed, .int t_length, .int 2, .int t_start, .int v_38, .int v_39, .int t_sign, .long t_letters, .int t_fault, .int t_faultPlace])), (tape, .inl (cA.1 2, 900, .inl c_tape))] H := hP
            have hD : va_D A [(t, .inr (8, [.ref tape, .int t_fed, .int t_length, .int 2, .int t_start, .int v_38, .int v_39, .int t_sign, .long t_letters, .int t_fault, .int t_faultPlace])), (tape, .inl (cA.1 2, 900, .inl c_tape))] := hD
            exact hret _ _ _ _ _ (2, v_38, v_39) [0, 1] hP hD hS rfl (by decide) dX8_readDigits_101 trivial
          · have b_58 := z_b6 c_56 (K := 4) (by decide +kernel)
            refine lv_iconst (v := 4) hx hb dX8_readDigits_93 (by decide) ?_
            refine lv_goto (tgt := 98) hx hb dX8_readDigits_94 (by decide) ?_
            refine va_put (D := G) (ci := 8) (v := .int 4) (ty := .int) (C := RX8) (T := TX8) (N := 11) hx hb hts inT8 tyX8 tyX8_ok nmX8 hown hK hP hD hS 0 rfl rfl 3 (by decide) (hts _ tw_209) (fun _ h9 => h9) rfl (tyX8_ok 3 (by decide)) rfl rfl (Nat.le_of_ble_eq_true rfl) dX8_readDigits_98 (fun H locs hP hD hS => ?_)
            have hP : va_P G vwCl [(t, .inr (8, [.ref tape, .int t_fed, .int t_length, .int 4, .int t_start, .int v_38, .int v_39, .int t_sign, .long t_letters, .int t_fault, .int t_faultPlace])), (tape, .inl (cA.1 2, 900, .inl c_tape))] H := hP
            have hD : va_D A [(t, .inr (8, [.ref tape, .int t_fed, .int t_length, .int 4, .int t_start, .int v_38, .int v_39, .int t_sign, .long t_letters, .int t_fault, .int t_faultPlace])), (tape, .inl (cA.1 2, 900, .inl c_tape))] := hD
            exact hret _ _ _ _ _ (4, v_38, v_39) [0, 1] hP hD hS rfl (by decide) dX8_readDigits_101 trivial
        · skip
          refine lv_aload_n hx hb dX8_readDigits_30 rfl (lv_at hl 0 rfl) ?_
          refine va_get (D := G) (ci := 8) (v := .int v_38) (C := RX8) (T := TX8) (N := 11) hx hb hts inT8 hown hK hP 0 rfl rfl 5 (by decide) (hts _ tw_211) (fun _ h9 => h9) rfl dX8_readDigits_31 ?_
          refine lv_aload_n hx hb dX8_readDigits_34 rfl (lv_at hl 0 rfl) ?_
          refine va_get (D := G) (ci := 8) (v := .int t_start) (C := RX8) (T := TX8) (N := 11) hx hb hts inT8 hown hK hP 0 rfl rfl 4 (by decide) (hts _ tw_210) (fun _ h9 => h9) rfl dX8_readDigits_35 ?_
          refine lv_isub hx hb dX8_readDigits_38 ?_
          refine lv_topi (fun x_60 _ => ?_)
          refine lv_iconst (v := 4) hx hb dX8_readDigits_39 (by decide) ?_
          refine lv_icmp_ge (tgt := 66) hx hb dX8_readDigits_40 (by decide) (fun c_61 => ?_) (fun c_61 => ?_)
          · have b_62 := z_b1 c_61 (K := 4) (by decide +kernel)
            refine lv_aload_n hx hb dX8_readDigits_66 rfl (lv_at hl 0 rfl) ?_
            refine lv_dup hx hb dX8_readDigits_67 rfl ?_
            refine va_get (D := G) (ci := 8) (v := .int v_38) (C := RX8) (T := TX8) (N := 11) hx hb hts inT8 hown hK hP 0 rfl rfl 5 (by decide) (hts _ tw_211) (fun _ h9 => h9) rfl dX8_readDigits_68 ?_
            refine lv_iconst (v := 1) hx hb dX8_readDigits_71 (by decide) ?_
            refine lv_iadd hx hb dX8_readDigits_72 ?_
            refine va_put (D := G) (ci := 8) (v := .int (v_38 + 1)) (ty := .int) (C := RX8) (T := TX8) (N := 11) hx hb hts inT8 tyX8 tyX8_ok nmX8 hown hK hP hD hS 0 rfl rfl 5 (by decide) (hts _ tw_211) (fun _ h9 => h9) rfl (tyX8_ok 5 (by decide)) rfl rfl (Nat.le_of_ble_eq_true rfl) dX8_readDigits_73 (fun H locs hP hD hS => ?_)
            have hP : va_P G vwCl [(t, .inr (8, [.ref tape, .int t_fed, .int t_length, .int t_kind, .int t_start, .int (v_38 + 1), .int v_39, .int t_sign, .long t_letters, .int t_fault, .int t_faultPlace])), (tape, .inl (cA.1 2, 900, .inl c_tape))] H := hP
            have hD : va_D A [(t, .inr (8, [.ref tape, .int t_fed, .int t_length, .int t_kind, .int t_start, .int (v_38 + 1), .int v_39, .int t_sign, .long t_letters, .int t_fault, .int t_faultPlace])), (tape, .inl (cA.1 2, 900, .inl c_tape))] := hD
            refine lv_goto (tgt := 5) hx hb dX8_readDigits_76 (by decide) ?_
            exact ih_41 (v_38 + 1) v_39 H locs ls (z_up hmu_hlp_40 (by omega) trivial) hP hD hS (lv_sub hl [0] rfl)
          · have b_63 := z_b2 c_61 (K := 4) (by decide +kernel)
            refine lv_aload_n hx hb dX8_readDigits_43 rfl (lv_at hl 0 rfl) ?_
            refine lv_aload_n hx hb dX8_readDigits_44 rfl (lv_at hl 0 rfl) ?_
            refine va_get (D := G) (ci := 8) (v := .int v_39) (C := RX8) (T := TX8) (N := 11) hx hb hts inT8 hown hK hP 0 rfl rfl 6 (by decide) (hts _ tw_213) (fun _ h9 => h9) rfl dX8_readDigits_45 ?_
            refine lv_bipush (v := 10) hx hb dX8_readDigits_48 (by decide) ?_
            refine lv_imul hx hb dX8_readDigits_50 ?_
            refine lv_topi (fun x_64 _ => ?_)
            refine lv_aload_n hx hb dX8_readDigits_51 rfl (lv_at hl 0 rfl) ?_
            refine lv_aload_n hx hb dX8_readDigits_52 rfl (lv_at hl 0 rfl) ?_
            refine va_get (D := G) (ci := 8) (v := .int v_38) (C := RX8) (T := TX8) (N := 11) hx hb hts inT8 hown hK hP 0 rfl rfl 5 (by decide) (hts _ tw_211) (fun _ h9 => h9) rfl dX8_readDigits_53 ?_
            refine z_callVi (As := [.int v_38]) (rest := [.int x_64, .ref t]) (wr := []) ⟨hx, hb, hml, hown, hts⟩ hK hE hT hP hD hS hA (d_Te_byteAt l G cA t tape t_fed t_length t_kind t_start v_38 v_39 t_sign t_letters t_fault t_faultPlace c_tape v_38) lk_RX8_40 ⟨rfl, rfl⟩ ⟨Nat.le_of_ble_eq_true rfl, Nat.le_of_ble_eq_true rfl⟩ 8 rfl rfl rfl [0, 1] [] rfl rfl (by decide) rfl hl.1 rfl (lv_room (Nat.le_of_ble_eq_true rfl)) dX8_readDigits_56 ⟨Nat.le_of_ble_eq_true rfl, Nat.le_of_ble_eq_true rfl⟩ (fun r_65 u_66 H locs hw hP hD hS => ?_)
            have hP : va_P G vwCl [(t, .inr (8, [.ref tape, .int t_fed, .int t_length, .int t_kind, .int t_start, .int v_38, .int v_39, .int t_sign, .long t_letters, .int t_fault, .int t_faultPlace])), (tape, .inl (cA.1 2, 900, .inl c_tape))] H := hP
            have hD : va_D A [(t, .inr (8, [.ref tape, .int t_fed, .int t_length, .int t_kind, .int t_start, .int v_38, .int v_39, .int t_sign, .long t_letters, .int t_fault, .int t_faultPlace])), (tape, .inl (cA.1 2, 900, .inl c_tape))] := hD
            refine lv_iadd hx hb dX8_readDigits_59 ?_
            refine lv_topi (fun x_67 _ => ?_)
            refine lv_bipush (v := 48) hx hb dX8_readDigits_60 (by decide) ?_
            refine lv_isub hx hb dX8_readDigits_62 ?_
            refine va_put (D := G) (ci := 8) (v := .int (x_67 - 48)) (ty := .int) (C := RX8) (T := TX8) (N := 11) hx hb hts inT8 tyX8 tyX8_ok nmX8 hown hK hP hD hS 0 rfl rfl 6 (by decide) (hts _ tw_213) (fun _ h9 => h9) rfl (tyX8_ok 6 (by decide)) rfl rfl (Nat.le_of_ble_eq_true rfl) dX8_readDigits_63 (fun H locs hP hD hS => ?_)
            have hP : va_P G vwCl [(t, .inr (8, [.ref tape, .int t_fed, .int t_length, .int t_kind, .int t_start, .int v_38, .int (x_67 - 48), .int t_sign, .long t_letters, .int t_fault, .int t_faultPlace])), (tape, .inl (cA.1 2, 900, .inl c_tape))] H := hP
            have hD : va_D A [(t, .inr (8, [.ref tape, .int t_fed, .int t_length, .int t_kind, .int t_start, .int v_38, .int (x_67 - 48), .int t_sign, .long t_letters, .int t_fault, .int t_faultPlace])), (tape, .inl (cA.1 2, 900, .inl c_tape))] := hD
            refine lv_aload_n hx hb dX8_readDigits_66 rfl (lv_at hl 0 rfl) ?_
            refine lv_dup hx hb dX8_readDigits_67 rfl ?_
            refine va_get (D := G) (ci := 8) (v := .int v_38) (C := RX8) (T := TX8) (N := 11) hx hb hts inT8 hown hK hP 0 rfl rfl 5 (by decide) (hts _ tw_211) (fun _ h9 => h9) rfl dX8_readDigits_68 ?_
            refine lv_iconst (v := 1) hx hb dX8_readDigits_71 (by decide) ?_
            refine lv_iadd hx hb dX8_readDigits_72 ?_
            refine va_put (D := G) (ci := 8) (v := .int (v_38 + 1)) (ty := .int) (C := RX8) (T := TX8) (N := 11) hx hb hts inT8 tyX8 tyX8_ok nmX8 hown hK hP hD hS 0 rfl rfl 5 (by decide) (hts _ tw_211) (fun _ h9 => h9) rfl (tyX8_ok 5 (by decide)) rfl rfl (Nat.le_of_ble_eq_true rfl) dX8_readDigits_73 (fun H locs hP hD hS => ?_)
            have hP : va_P G vwCl [(t, .inr (8, [.ref tape, .int t_fed, .int t_length, .int t_kind, .int t_start, .int (v_38 + 1), .int (x_67 - 48), .int t_sign, .long t_letters, .int t_fault, .int t_faultPlace])), (tape, .inl (cA.1 2, 900, .inl c_tape))] H := hP
            have hD : va_D A [(t, .inr (8, [.ref tape, .int t_fed, .int t_length, .int t_kind, .int t_start, .int (v_38 + 1), .int (x_67 - 48), .int t_sign, .long t_letters, .int t_fault, .int t_faultPlace])), (tape, .inl (cA.1 2, 900, .inl c_tape))] := hD
            refine lv_goto (tgt := 5) hx hb dX8_readDigits_76 (by decide) ?_
            exact ih_41 (v_38 + 1) (x_67 - 48) H locs ls (z_up hmu_hlp_40 (by omega) trivial) hP hD hS (lv_sub hl [0] rfl)
  exact hlp_40 _ t_end 0 _ _ _ (Nat.lt_succ_self _) hP hD hS (lv_sub hl [0] rfl)
set_option maxHeartbeats 4000000 in
set_option maxRecDepth 100000 in
theorem d_Te_advance (l : Launch) (G : va_G) (cA : zCA) (t : Nat) (tape : Nat) (t_fed : Int32) (t_length : Int32) (t_kind : Int32) (t_start : Int32) (t_end : Int32) (t_number : Int32) (t_sign : Int32) (t_letters : Int64) (t_fault : Int32) (t_faultPlace : Int32) (c_tape : Nat → Int32) : zCv l yX8_advance cX8_advance 2 none ({ frames := 2, cells := 0, slots := 0, locals := 41 }) G cA [.ref t] [(t, .inr (8, [.ref tape, .int t_fed, .int t_length, .int t_kind, .int t_start, .int t_end, .int t_number, .int t_sign, .long t_letters, .int t_fault, .int t_faultPlace])), (tape, .inl (cA.1 2, 900, .inl c_tape))] (S := Int32 × Int32 × Int32 × Int32 × Int32 × Int64) (fun (u : Int32 × Int32 × Int32 × Int32 × Int32 × Int64) => True) (fun (u : Int32 × Int32 × Int32 × Int32 × Int32 × Int64) => [(t, .inr (8, [.ref tape, .int t_fed, .int t_length, .int u.1, .int u.2.1, .int u.2.2.1, .int u.2.2.2.2.1, .int u.2.2.2.1, .long u.2.2.2.2.2, .int t_fault, .int t_faultPlace])), (tape, .inl (cA.1 2, 900, .inl c_tape))]) 0 0 := by
  refine z_start2v (own := RX8) (by decide) (Nat.le_of_ble_eq_true rfl) rfl ?_
  intro p e s m args below meth c A ls Q hx hb hml hts hown hK hE hT hP hD hS hA hl hret
  have hl : lv_has ls 2 [(0, .ref t)] := hl
  refine lv_aload_n hx hb dX8_advance_0 rfl (lv_at hl 0 rfl) ?_
  refine lv_aload_n hx hb dX8_advance_1 rfl (lv_at hl 0 rfl) ?_
  refine va_get (D := G) (ci := 8) (v := .int t_end) (C := RX8) (T := TX8) (N := 11) hx hb hts inT8 hown hK hP 0 rfl rfl 5 (by decide) (hts _ tw_211) (fun _ h9 => h9) rfl dX8_advance_2 ?_
  refine va_put (D := G) (ci := 8) (v := .int t_end) (ty := .int) (C := RX8) (T := TX8) (N := 11) hx hb hts inT8 tyX8 tyX8_ok nmX8 hown hK hP hD hS 0 rfl rfl 4 (by decide) (hts _ tw_210) (fun _ h9 => h9) rfl (tyX8_ok 4 (by decide)) rfl rfl (Nat.le_of_ble_eq_true rfl) dX8_advance_5 (fun H locs hP hD hS => ?_)
  have hP : va_P G vwCl [(t, .inr (8, [.ref tape, .int t_fed, .int t_length, .int t_kind, .int t_end, .int t_end, .int t_number, .int t_sign, .long t_letters, .int t_fault, .int t_faultPlace])), (tape, .inl (cA.1 2, 900, .inl c_tape))] H := hP
  have hD : va_D A [(t, .inr (8, [.ref tape, .int t_fed, .int t_length, .int t_kind, .int t_end, .int t_end, .int t_number, .int t_sign, .long t_letters, .int t_fault, .int t_faultPlace])), (tape, .inl (cA.1 2, 900, .inl c_tape))] := hD
  have hlp_23 : ∀ (n : Nat) (v_22 : Int32) (H : Heap) (locs : List Loc) (ls : Array Slot), (2147483647 - v_22.toInt).toNat < n → va_P G vwCl [(t, .inr (8, [.ref tape, .int t_fed, .int t_length, .int t_kind, .int v_22, .int t_end, .int t_number, .int t_sign, .long t_letters, .int t_fault, .int t_faultPlace])), (tape, .inl (cA.1 2, 900, .inl c_tape))] H → va_D A [(t, .inr (8, [.ref tape, .int t_fed, .int t_length, .int t_kind, .int v_22, .int t_end, .int t_number, .int t_sign, .long t_letters, .int t_fault, .int t_faultPlace])), (tape, .inl (cA.1 2, 900, .inl c_tape))] → va_S A s.heap H locs → lv_has ls 2 [(0, .ref t)] → W p l e ({ frames := 2, cells := 0, slots := 0, locals := 41 }) s m args below meth c H locs 0 0 Q (F0 m 8 ls []) := by
    intro n
    induction n with
    | zero =>
      intro v_22 H locs ls hmu_hlp_23 hP hD hS hl
      exact absurd hmu_hlp_23 (Nat.not_lt_zero _)
    | succ n ih_24 =>
      intro v_22 H locs ls hmu_hlp_23 hP hD hS hl
      refine lv_aload_n hx hb dX8_advance_8 rfl (lv_at hl 0 rfl) ?_
      refine va_get (D := G) (ci := 8) (v := .int v_22) (C := RX8) (T := TX8) (N := 11) hx hb hts inT8 hown hK hP 0 rfl rfl 4 (by decide) (hts _ tw_210) (fun _ h9 => h9) rfl dX8_advance_9 ?_
      refine lv_aload_n hx hb dX8_advance_12 rfl (lv_at hl 0 rfl) ?_
      refine va_get (D := G) (ci := 8) (v := .int t_length) (C := RX8) (T := TX8) (N := 11) hx hb hts inT8 hown hK hP 0 rfl rfl 2 (by decide) (hts _ tw_208) (fun _ h9 => h9) rfl dX8_advance_13 ?_
      refine lv_icmp_ge (tgt := 46) hx hb dX8_advance_16 (by decide) (fun c_25 => ?_) (fun c_25 => ?_)
      · have b_26 := z_s1 c_25
        refine lv_aload_n hx hb dX8_advance_46 rfl (lv_at hl 0 rfl) ?_
        refine lv_aload_n hx hb dX8_advance_47 rfl (lv_at hl 0 rfl) ?_
        refine va_get (D := G) (ci := 8) (v := .int v_22) (C := RX8) (T := TX8) (N := 11) hx hb hts inT8 hown hK hP 0 rfl rfl 4 (by decide) (hts _ tw_210) (fun _ h9 => h9) rfl dX8_advance_48 ?_
        refine va_put (D := G) (ci := 8) (v := .int v_22) (ty := .int) (C := RX8) (T := TX8) (N := 11) hx hb hts inT8 tyX8 tyX8_ok nmX8 hown hK hP hD hS 0 rfl rfl 5 (by decide) (hts _ tw_211) (fun _ h9 => h9) rfl (tyX8_ok 5 (by decide)) rfl rfl (Nat.le_of_ble_eq_true rfl) dX8_advance_51 (fun H locs hP hD hS => ?_)
        have hP : va_P G vwCl [(t, .inr (8, [.ref tape, .int t_fed, .int t_length, .int t_kind, .int v_22, .int v_22, .int t_number, .int t_sign, .long t_letters, .int t_fault, .int t_faultPlace])), (tape, .inl (cA.1 2, 900, .inl c_tape))] H := hP
        have hD : va_D A [(t, .inr (8, [.ref tape, .int t_fed, .int t_length, .int t_kind, .int v_22, .int v_22, .int t_number, .int t_sign, .long t_letters, .int t_fault, .int t_faultPlace])), (tape, .inl (cA.1 2, 900, .inl c_tape))] := hD
        refine lv_aload_n hx hb dX8_advance_54 rfl (lv_at hl 0 rfl) ?_
        refine lv_aload_n hx hb dX8_advance_55 rfl (lv_at hl 0 rfl) ?_
        refine va_get (D := G) (ci := 8) (v := .int v_22) (C := RX8) (T := TX8) (N := 11) hx hb hts inT8 hown hK hP 0 rfl rfl 4 (by decide) (hts _ tw_210) (fun _ h9 => h9) rfl dX8_advance_56 ?_
        refine z_callVi (As := [.int v_22]) (rest := []) (wr := []) ⟨hx, hb, hml, hown, hts⟩ hK hE hT hP hD hS hA (d_Te_byteAt l G cA t tape t_fed t_length t_kind v_22 v_22 t_number t_sign t_letters t_fault t_faultPlace c_tape v_22) lk_RX8_40 ⟨rfl, rfl⟩ ⟨Nat.le_of_ble_eq_true rfl, Nat.le_of_ble_eq_true rfl⟩ 8 rfl rfl rfl [0, 1] [] rfl rfl (by decide) rfl hl.1 rfl (lv_room (Nat.le_of_ble_eq_true rfl)) dX8_advance_59 ⟨Nat.le_of_ble_eq_true rfl, Nat.le_of_ble_eq_true rfl⟩ (fun r_27 u_28 H locs hw hP hD hS => ?_)
        have hP : va_P G vwCl [(t, .inr (8, [.ref tape, .int t_fed, .int t_length, .int t_kind, .int v_22, .int v_22, .int t_number, .int t_sign, .long t_letters, .int t_fault, .int t_faultPlace])), (tape, .inl (cA.1 2, 900, .inl c_tape))] H := hP
        have hD : va_D A [(t, .inr (8, [.ref tape, .int t_fed, .int t_length, .int t_kind, .int v_22, .int v_22, .int t_number, .int t_sign, .long t_letters, .int t_fault, .int t_faultPlace])), (tape, .inl (cA.1 2, 900, .inl c_tape))] := hD
        refine lv_istore_n (lv' := [(1, .int r_27), (0, .ref t)]) hx hb dX8_advance_62 rfl hl (by decide) rfl (fun ls hl => ?_)
        refine lv_iload_n hx hb dX8_advance_63 rfl (lv_at hl 0 rfl) ?_
        refine lv_iconst (v := (-1)) hx hb dX8_advance_64 (by decide) ?_
        refine lv_icmp_ne (tgt := 76) hx hb dX8_advance_65 (by decide) (fun c_29 => ?_) (fun c_29 => ?_)
        · skip
          refine lv_iload_n hx hb dX8_advance_76 rfl (lv_at hl 0 rfl) ?_
          refine z_callSi (As := [.int r_27]) (rest := []) (wr := [(t, .inr (8, [.ref tape, .int t_fed, .int t_length, .int t_kind, .int v_22, .int v_22, .int t_number, .int t_sign, .long t_letters, .int t_fault, .int t_faultPlace])), (tape, .inl (cA.1 2, 900, .inl c_tape))]) ⟨hx, hb, hml, hown, hts⟩ hK hE hT hP hD hS hA (d_Te_isLetter l G cA r_27) lk_RX8_48 ⟨rfl, rfl⟩ ⟨Nat.le_of_ble_eq_true rfl, Nat.le_of_ble_eq_true rfl⟩ [] [0, 1] rfl rfl (by decide) rfl hl.1 rfl (lv_room (Nat.le_of_ble_eq_true rfl)) dX8_advance_77 ⟨Nat.le_of_ble_eq_true rfl, Nat.le_of_ble_eq_true rfl⟩ (fun r_31 u_32 H locs hw hP hD hS => ?_)
          have hP : va_P G vwCl [(t, .inr (8, [.ref tape, .int t_fed, .int t_length, .int t_kind, .int v_22, .int v_22, .int t_number, .int t_sign, .long t_letters, .int t_fault, .int t_faultPlace])), (tape, .inl (cA.1 2, 900, .inl c_tape))] H := hP
          have hD : va_D A [(t, .inr (8, [.ref tape, .int t_fed, .int t_length, .int t_kind, .int v_22, .int v_22, .int t_number, .int t_sign, .long t_letters, .int t_fault, .int t_faultPlace])), (tape, .inl (cA.1 2, 900, .inl c_tape))] := hD
          have hz_r_31 := hw
          refine lv_if_eq (tgt := 95) hx hb dX8_advance_80 (by decide) (fun c_33 => ?_) (fun c_33 => ?_)
          · skip
            refine lv_iload_n hx hb dX8_advance_95 rfl (lv_at hl 0 rfl) ?_
            refine z_callSi (As := [.int r_27]) (rest := []) (wr := [(t, .inr (8, [.ref tape, .int t_fed, .int t_length, .int t_kind, .int v_22, .int v_22, .int t_number, .int t_sign, .long t_letters, .int t_fault, .int t_faultPlace])), (tape, .inl (cA.1 2, 900, .inl c_tape))]) ⟨hx, hb, hml, hown, hts⟩ hK hE hT hP hD hS hA (d_Te_isDigit l G cA r_27) lk_RX8_54 ⟨rfl, rfl⟩ ⟨Nat.le_of_ble_eq_true rfl, Nat.le_of_ble_eq_true rfl⟩ [] [0, 1] rfl rfl (by decide) rfl hl.1 rfl (lv_room (Nat.le_of_ble_eq_true rfl)) dX8_advance_96 ⟨Nat.le_of_ble_eq_true rfl, Nat.le_of_ble_eq_true rfl⟩ (fun r_35 u_36 H locs hw hP hD hS => ?_)
            have hP : va_P G vwCl [(t, .inr (8, [.ref tape, .int t_fed, .int t_length, .int t_kind, .int v_22, .int v_22, .int t_number, .int t_sign, .long t_letters, .int t_fault, .int t_faultPlace])), (tape, .inl (cA.1 2, 900, .inl c_tape))] H := hP
            have hD : va_D A [(t, .inr (8, [.ref tape, .int t_fed, .int t_length, .int t_kind, .int v_22, .int v_22, .int t_number, .int t_sign, .long t_letters, .int t_fault, .int t_faultPlace])), (tape, .inl (cA.1 2, 900, .inl c_tape))] := hD
            have hz_r_35 := hw
            refine lv_if_eq (tgt := 109) hx hb dX8_advance_99 (by decide) (fun c_37 => ?_) (fun c_37 => ?_)
            · skip
              refine lv_aload_n hx hb dX8_advance_109 rfl (lv_at hl 1 rfl) ?_
              refine lv_iload_n hx hb dX8_advance_110 rfl (lv_at hl 0 rfl) ?_
              refine z_callSi (As := [.int r_27]) (rest := [.ref t]) (wr := [(t, .inr (8, [.ref tape, .int t_fed, .int t_length, .int t_kind, .int v_22, .int v_22, .int t_number, .int t_sign, .long t_letters, .int t_fault, .int t_faultPlace])), (tape, .inl (cA.1 2, 900, .inl c_tape))]) ⟨hx, hb, hml, hown, hts⟩ hK hE hT hP hD hS hA (d_Te_isSignOf l G cA r_27) lk_RX8_60 ⟨rfl, rfl⟩ ⟨Nat.le_of_ble_eq_true rfl, Nat.le_of_ble_eq_true rfl⟩ [] [0, 1] rfl rfl (by decide) rfl hl.1 rfl (lv_room (Nat.le_of_ble_eq_true rfl)) dX8_advance_111 ⟨Nat.le_of_ble_eq_true rfl, Nat.le_of_ble_eq_true rfl⟩ (fun r_39 u_40 H locs hw hP hD hS => ?_)
              have hP : va_P G vwCl [(t, .inr (8, [.ref tape, .int t_fed, .int t_length, .int t_kind, .int v_22, .int v_22, .int t_number, .int t_sign, .long t_letters, .int t_fault, .int t_faultPlace])), (tape, .inl (cA.1 2, 900, .inl c_tape))] H := hP
              have hD : va_D A [(t, .inr (8, [.ref tape, .int t_fed, .int t_length, .int t_kind, .int v_22, .int v_22, .int t_number, .int t_sign, .long t_letters, .int t_fault, .int t_faultPlace])), (tape, .inl (cA.1 2, 900, .inl c_tape))] := hD
              have hz_r_39 := hw
              refine lv_if_eq (tgt := 121) hx hb dX8_advance_114 (by decide) (fun c_41 => ?_) (fun c_41 => ?_)
              · skip
                refine lv_iconst (v := 4) hx hb dX8_advance_121 (by decide) ?_
                refine va_put (D := G) (ci := 8) (v := .int 4) (ty := .int) (C := RX8) (T := TX8) (N := 11) hx hb hts inT8 tyX8 tyX8_ok nmX8 hown hK hP hD hS 0 rfl rfl 3 (by decide) (hts _ tw_209) (fun _ h9 => h9) rfl (tyX8_ok 3 (by decide)) rfl rfl (Nat.le_of_ble_eq_true rfl) dX8_advance_122 (fun H locs hP hD hS => ?_)
                have hP : va_P G vwCl [(t, .inr (8, [.ref tape, .int t_fed, .int t_length, .int 4, .int v_22, .int v_22, .int t_number, .int t_sign, .long t_letters, .int t_fault, .int t_faultPlace])), (tape, .inl (cA.1 2, 900, .inl c_tape))] H := hP
                have hD : va_D A [(t, .inr (8, [.ref tape, .int t_fed, .int t_length, .int 4, .int v_22, .int v_22, .int t_number, .int t_sign, .long t_letters, .int t_fault, .int t_faultPlace])), (tape, .inl (cA.1 2, 900, .inl c_tape))] := hD
                refine lv_aload_n hx hb dX8_advance_125 rfl (lv_at hl 1 rfl) ?_
                refine lv_iload_n hx hb dX8_advance_126 rfl (lv_at hl 0 rfl) ?_
                refine va_put (D := G) (ci := 8) (v := .int r_27) (ty := .int) (C := RX8) (T := TX8) (N := 11) hx hb hts inT8 tyX8 tyX8_ok nmX8 hown hK hP hD hS 0 rfl rfl 7 (by decide) (hts _ tw_214) (fun _ h9 => h9) rfl (tyX8_ok 7 (by decide)) rfl rfl (Nat.le_of_ble_eq_true rfl) dX8_advance_127 (fun H locs hP hD hS => ?_)
                have hP : va_P G vwCl [(t, .inr (8, [.ref tape, .int t_fed, .int t_length, .int 4, .int v_22, .int v_22, .int t_number, .int r_27, .long t_letters, .int t_fault, .int t_faultPlace])), (tape, .inl (cA.1 2, 900, .inl c_tape))] H := hP
                have hD : va_D A [(t, .inr (8, [.ref tape, .int t_fed, .int t_length, .int 4, .int v_22, .int v_22, .int t_number, .int r_27, .long t_letters, .int t_fault, .int t_faultPlace])), (tape, .inl (cA.1 2, 900, .inl c_tape))] := hD
                refine lv_aload_n hx hb dX8_advance_130 rfl (lv_at hl 1 rfl) ?_
                refine lv_aload_n hx hb dX8_advance_131 rfl (lv_at hl 1 rfl) ?_
                refine va_get (D := G) (ci := 8) (v := .int v_22) (C := RX8) (T := TX8) (N := 11) hx hb hts inT8 hown hK hP 0 rfl rfl 4 (by decide) (hts _ tw_210) (fun _ h9 => h9) rfl dX8_advance_132 ?_
                refine lv_iconst (v := 1) hx hb dX8_advance_135 (by decide) ?_
                refine lv_iadd hx hb dX8_advance_136 ?_
                refine va_put (D := G) (ci := 8) (v := .int (v_22 + 1)) (ty := .int) (C := RX8) (T := TX8) (N := 11) hx hb hts inT8 tyX8 tyX8_ok nmX8 hown hK hP hD hS 0 rfl rfl 5 (by decide) (hts _ tw_211) (fun _ h9 => h9) rfl (tyX8_ok 5 (by decide)) rfl rfl (Nat.le_of_ble_eq_true rfl) dX8_advance_137 (fun H locs hP hD hS => ?_)
                have hP : va_P G vwCl [(t, .inr (8, [.ref tape, .int t_fed, .int t_length, .int 4, .int v_22, .int (v_22 + 1), .int t_number, .int r_27, .long t_letters, .int t_fault, .int t_faultPlace])), (tape, .inl (cA.1 2, 900, .inl c_tape))] H := hP
                have hD : va_D A [(t, .inr (8, [.ref tape, .int t_fed, .int t_length, .int 4, .int v_22, .int (v_22 + 1), .int t_number, .int r_27, .long t_letters, .int t_fault, .int t_faultPlace])), (tape, .inl (cA.1 2, 900, .inl c_tape))] := hD
                exact hret _ _ _ _ _ (4, v_22, (v_22 + 1), r_27, t_number, t_letters) [0, 1] hP hD hS rfl (by decide) dX8_advance_140 trivial
              · skip
                refine lv_iconst (v := 3) hx hb dX8_advance_117 (by decide) ?_
                refine lv_goto (tgt := 122) hx hb dX8_advance_118 (by decide) ?_
                refine va_put (D := G) (ci := 8) (v := .int 3) (ty := .int) (C := RX8) (T := TX8) (N := 11) hx hb hts inT8 tyX8 tyX8_ok nmX8 hown hK hP hD hS 0 rfl rfl 3 (by decide) (hts _ tw_209) (fun _ h9 => h9) rfl (tyX8_ok 3 (by decide)) rfl rfl (Nat.le_of_ble_eq_true rfl) dX8_advance_122 (fun H locs hP hD hS => ?_)
                have hP : va_P G vwCl [(t, .inr (8, [.ref tape, .int t_fed, .int t_length, .int 3, .int v_22, .int v_22, .int t_number, .int t_sign, .long t_letters, .int t_fault, .int t_faultPlace])), (tape, .inl (cA.1 2, 900, .inl c_tape))] H := hP
                have hD : va_D A [(t, .inr (8, [.ref tape, .int t_fed, .int t_length, .int 3, .int v_22, .int v_22, .int t_number, .int t_sign, .long t_letters, .int t_fault, .int t_faultPlace])), (tape, .inl (cA.1 2, 900, .inl c_tape))] := hD
                refine lv_aload_n hx hb dX8_advance_125 rfl (lv_at hl 1 rfl) ?_
                refine lv_iload_n hx hb dX8_advance_126 rfl (lv_at hl 0 rfl) ?_
                refine va_put (D := G) (ci := 8) (v := .int r_27) (ty := .int) (C := RX8) (T := TX8) (N := 11) hx hb hts inT8 tyX8 tyX8_ok nmX8 hown hK hP hD hS 0 rfl rfl 7 (by decide) (hts _ tw_214) (fun _ h9 => h9) rfl (tyX8_ok 7 (by decide)) rfl rfl (Nat.le_of_ble_eq_true rfl) dX8_advance_127 (fun H locs hP hD hS => ?_)
                have hP : va_P G vwCl [(t, .inr (8, [.ref tape, .int t_fed, .int t_length, .int 3, .int v_22, .int v_22, .int t_number, .int r_27, .long t_letters, .int t_fault, .int t_faultPlace])), (tape, .inl (cA.1 2, 900, .inl c_tape))] H := hP
                have hD : va_D A [(t, .inr (8, [.ref tape, .int t_fed, .int t_length, .int 3, .int v_22, .int v_22, .int t_number, .int r_27, .long t_letters, .int t_fault, .int t_faultPlace])), (tape, .inl (cA.1 2, 900, .inl c_tape))] := hD
                refine lv_aload_n hx hb dX8_advance_130 rfl (lv_at hl 1 rfl) ?_
                refine lv_aload_n hx hb dX8_advance_131 rfl (lv_at hl 1 rfl) ?_
                refine va_get (D := G) (ci := 8) (v := .int v_22) (C := RX8) (T := TX8) (N := 11) hx hb hts inT8 hown hK hP 0 rfl rfl 4 (by decide) (hts _ tw_210) (fun _ h9 => h9) rfl dX8_advance_132 ?_
                refine lv_iconst (v := 1) hx hb dX8_advance_135 (by decide) ?_
                refine lv_iadd hx hb dX8_advance_136 ?_
                refine va_put (D := G) (ci := 8) (v := .int (v_22 + 1)) (ty := .int) (C := RX8) (T := TX8) (N := 11) hx hb hts inT8 tyX8 tyX8_ok nmX8 hown hK hP hD hS 0 rfl rfl 5 (by decide) (hts _ tw_211) (fun _ h9 => h9) rfl (tyX8_ok 5 (by decide)) rfl rfl (Nat.le_of_ble_eq_true rfl) dX8_advance_137 (fun H locs hP hD hS => ?_)
                have hP : va_P G vwCl [(t, .inr (8, [.ref tape, .int t_fed, .int t_length, .int 3, .int v_22, .int (v_22 + 1), .int t_number, .int r_27, .long t_letters, .int t_fault, .int t_faultPlace])), (tape, .inl (cA.1 2, 900, .inl c_tape))] H := hP
                have hD : va_D A [(t, .inr (8, [.ref tape, .int t_fed, .int t_length, .int 3, .int v_22, .int (v_22 + 1), .int t_number, .int r_27, .long t_letters, .int t_fault, .int t_faultPlace])), (tape, .inl (cA.1 2, 900, .inl c_tape))] := hD
                exact hret _ _ _ _ _ (3, v_22, (v_22 + 1), r_27, t_number, t_letters) [0, 1] hP hD hS rfl (by decide) dX8_advance_140 trivial
            · skip
              refine lv_aload_n hx hb dX8_advance_102 rfl (lv_at hl 1 rfl) ?_
              refine z_callVv (As := []) (rest := []) (wr := []) ⟨hx, hb, hml, hown, hts⟩ hK hE hT hP hD hS hA (d_Te_readDigits l G cA t tape t_fed t_length t_kind v_22 v_22 t_number t_sign t_letters t_fault t_faultPlace c_tape) lk_RX8_57 ⟨rfl, rfl⟩ ⟨Nat.le_of_ble_eq_true rfl, Nat.le_of_ble_eq_true rfl⟩ 8 rfl rfl rfl [0, 1] [] rfl rfl (by decide) rfl hl.1 rfl (lv_room (Nat.le_of_ble_eq_true rfl)) dX8_advance_103 ⟨Nat.le_of_ble_eq_true rfl, Nat.le_of_ble_eq_true rfl⟩ (fun u_49 H locs hw hP hD hS => ?_)
              obtain ⟨nw0_45, nw1_46, nw2_47⟩ := u_49
              have hP : va_P G vwCl [(t, .inr (8, [.ref tape, .int t_fed, .int t_length, .int nw0_45, .int v_22, .int nw1_46, .int nw2_47, .int t_sign, .long t_letters, .int t_fault, .int t_faultPlace])), (tape, .inl (cA.1 2, 900, .inl c_tape))] H := hP
              have hD : va_D A [(t, .inr (8, [.ref tape, .int t_fed, .int t_length, .int nw0_45, .int v_22, .int nw1_46, .int nw2_47, .int t_sign, .long t_letters, .int t_fault, .int t_faultPlace])), (tape, .inl (cA.1 2, 900, .inl c_tape))] := hD
              refine lv_goto (tgt := 140) hx hb dX8_advance_106 (by decide) ?_
              exact hret _ _ _ _ _ (nw0_45, v_22, nw1_46, t_sign, nw2_47, t_letters) [0, 1] hP hD hS rfl (by decide) dX8_advance_140 trivial
          · skip
            refine lv_aload_n hx hb dX8_advance_83 rfl (lv_at hl 1 rfl) ?_
            refine lv_iconst (v := 1) hx hb dX8_advance_84 (by decide) ?_
            refine va_put (D := G) (ci := 8) (v := .int 1) (ty := .int) (C := RX8) (T := TX8) (N := 11) hx hb hts inT8 tyX8 tyX8_ok nmX8 hown hK hP hD hS 0 rfl rfl 3 (by decide) (hts _ tw_209) (fun _ h9 => h9) rfl (tyX8_ok 3 (by decide)) rfl rfl (Nat.le_of_ble_eq_true rfl) dX8_advance_85 (fun H locs hP hD hS => ?_)
            have hP : va_P G vwCl [(t, .inr (8, [.ref tape, .int t_fed, .int t_length, .int 1, .int v_22, .int v_22, .int t_number, .int t_sign, .long t_letters, .int t_fault, .int t_faultPlace])), (tape, .inl (cA.1 2, 900, .inl c_tape))] H := hP
            have hD : va_D A [(t, .inr (8, [.ref tape, .int t_fed, .int t_length, .int 1, .int v_22, .int v_22, .int t_number, .int t_sign, .long t_letters, .int t_fault, .int t_faultPlace])), (tape, .inl (cA.1 2, 900, .inl c_tape))] := hD
            refine lv_aload_n hx hb dX8_advance_88 rfl (lv_at hl 1 rfl) ?_
            refine z_callVv (As := []) (rest := []) (wr := []) ⟨hx, hb, hml, hown, hts⟩ hK hE hT hP hD hS hA (d_Te_readLetters l G cA t tape t_fed t_length 1 v_22 v_22 t_number t_sign t_letters t_fault t_faultPlace c_tape) lk_RX8_51 ⟨rfl, rfl⟩ ⟨Nat.le_of_ble_eq_true rfl, Nat.le_of_ble_eq_true rfl⟩ 8 rfl rfl rfl [0, 1] [] rfl rfl (by decide) rfl hl.1 rfl (lv_room (Nat.le_of_ble_eq_true rfl)) dX8_advance_89 ⟨Nat.le_of_ble_eq_true rfl, Nat.le_of_ble_eq_true rfl⟩ (fun u_54 H locs hw hP hD hS => ?_)
            obtain ⟨nw0_51, nw1_52⟩ := u_54
            have hP : va_P G vwCl [(t, .inr (8, [.ref tape, .int t_fed, .int t_length, .int 1, .int v_22, .int nw0_51, .int t_number, .int t_sign, .long nw1_52, .int t_fault, .int t_faultPlace])), (tape, .inl (cA.1 2, 900, .inl c_tape))] H := hP
            have hD : va_D A [(t, .inr (8, [.ref tape, .int t_fed, .int t_length, .int 1, .int v_22, .int nw0_51, .int t_number, .int t_sign, .long nw1_52, .int t_fault, .int t_faultPlace])), (tape, .inl (cA.1 2, 900, .inl c_tape))] := hD
            refine lv_goto (tgt := 140) hx hb dX8_advance_92 (by decide) ?_
            exact hret _ _ _ _ _ (1, v_22, nw0_51, t_sign, t_number, nw1_52) [0, 1] hP hD hS rfl (by decide) dX8_advance_140 trivial
        · skip
          refine lv_aload_n hx hb dX8_advance_68 rfl (lv_at hl 1 rfl) ?_
          refine lv_iconst (v := 0) hx hb dX8_advance_69 (by decide) ?_
          refine va_put (D := G) (ci := 8) (v := .int 0) (ty := .int) (C := RX8) (T := TX8) (N := 11) hx hb hts inT8 tyX8 tyX8_ok nmX8 hown hK hP hD hS 0 rfl rfl 3 (by decide) (hts _ tw_209) (fun _ h9 => h9) rfl (tyX8_ok 3 (by decide)) rfl rfl (Nat.le_of_ble_eq_true rfl) dX8_advance_70 (fun H locs hP hD hS => ?_)
          have hP : va_P G vwCl [(t, .inr (8, [.ref tape, .int t_fed, .int t_length, .int 0, .int v_22, .int v_22, .int t_number, .int t_sign, .long t_letters, .int t_fault, .int t_faultPlace])), (tape, .inl (cA.1 2, 900, .inl c_tape))] H := hP
          have hD : va_D A [(t, .inr (8, [.ref tape, .int t_fed, .int t_length, .int 0, .int v_22, .int v_22, .int t_number, .int t_sign, .long t_letters, .int t_fault, .int t_faultPlace])), (tape, .inl (cA.1 2, 900, .inl c_tape))] := hD
          refine lv_goto (tgt := 140) hx hb dX8_advance_73 (by decide) ?_
          exact hret _ _ _ _ _ (0, v_22, v_22, t_sign, t_number, t_letters) [0, 1] hP hD hS rfl (by decide) dX8_advance_140 trivial
      · have b_56 := z_t2 c_25
        refine lv_aload_n hx hb dX8_advance_19 rfl (lv_at hl 0 rfl) ?_
        refine lv_aload_n hx hb dX8_advance_20 rfl (lv_at hl 0 rfl) ?_
        refine va_get (D := G) (ci := 8) (v := .int v_22) (C := RX8) (T := TX8) (N := 11) hx hb hts inT8 hown hK hP 0 rfl rfl 4 (by decide) (hts _ tw_210) (fun _ h9 => h9) rfl dX8_advance_21 ?_
        refine z_callVi (As := [.int v_22]) (rest := []) (wr := []) ⟨hx, hb, hml, hown, hts⟩ hK hE hT hP hD hS hA (d_Te_byteAt l G cA t tape t_fed t_length t_kind v_22 t_end t_number t_sign t_letters t_fault t_faultPlace c_tape v_22) lk_RX8_40 ⟨rfl, rfl⟩ ⟨Nat.le_of_ble_eq_true rfl, Nat.le_of_ble_eq_true rfl⟩ 8 rfl rfl rfl [0, 1] [] rfl rfl (by decide) rfl hl.1 rfl (lv_room (Nat.le_of_ble_eq_true rfl)) dX8_advance_24 ⟨Nat.le_of_ble_eq_true rfl, Nat.le_of_ble_eq_true rfl⟩ (fun r_57 u_58 H locs hw hP hD hS => ?_)
        have hP : va_P G vwCl [(t, .inr (8, [.ref tape, .int t_fed, .int t_length, .int t_kind, .int v_22, .int t_end, .int t_number, .int t_sign, .long t_letters, .int t_fault, .int t_faultPlace])), (tape, .inl (cA.1 2, 900, .inl c_tape))] H := hP
        have hD : va_D A [(t, .inr (8, [.ref tape, .int t_fed, .int t_length, .int t_kind, .int v_22, .int t_end, .int t_number, .int t_sign, .long t_letters, .int t_fault, .int t_faultPlace])), (tape, .inl (cA.1 2, 900, .inl c_tape))] := hD
        refine z_callSi (As := [.int r_57]) (rest := []) (wr := [(t, .inr (8, [.ref tape, .int t_fed, .int t_length, .int t_kind, .int v_22, .int t_end, .int t_number, .int t_sign, .long t_letters, .int t_fault, .int t_faultPlace])), (tape, .inl (cA.1 2, 900, .inl c_tape))]) ⟨hx, hb, hml, hown, hts⟩ hK hE hT hP hD hS hA (d_Te_isBlank l G cA r_57) lk_RX8_44 ⟨rfl, rfl⟩ ⟨Nat.le_of_ble_eq_true rfl, Nat.le_of_ble_eq_true rfl⟩ [] [0, 1] rfl rfl (by decide) rfl hl.1 rfl (lv_room (Nat.le_of_ble_eq_true rfl)) dX8_advance_27 ⟨Nat.le_of_ble_eq_true rfl, Nat.le_of_ble_eq_true rfl⟩ (fun r_59 u_60 H locs hw hP hD hS => ?_)
        have hP : va_P G vwCl [(t, .inr (8, [.ref tape, .int t_fed, .int t_length, .int t_kind, .int v_22, .int t_end, .int t_number, .int t_sign, .long t_letters, .int t_fault, .int t_faultPlace])), (tape, .inl (cA.1 2, 900, .inl c_tape))] H := hP
        have hD : va_D A [(t, .inr (8, [.ref tape, .int t_fed, .int t_length, .int t_kind, .int v_22, .int t_end, .int t_number, .int t_sign, .long t_letters, .int t_fault, .int t_faultPlace])), (tape, .inl (cA.1 2, 900, .inl c_tape))] := hD
        have hz_r_59 := hw
        refine lv_if_eq (tgt := 46) hx hb dX8_advance_30 (by decide) (fun c_61 => ?_) (fun c_61 => ?_)
        · skip
          refine lv_aload_n hx hb dX8_advance_46 rfl (lv_at hl 0 rfl) ?_
          refine lv_aload_n hx hb dX8_advance_47 rfl (lv_at hl 0 rfl) ?_
          refine va_get (D := G) (ci := 8) (v := .int v_22) (C := RX8) (T := TX8) (N := 11) hx hb hts inT8 hown hK hP 0 rfl rfl 4 (by decide) (hts _ tw_210) (fun _ h9 => h9) rfl dX8_advance_48 ?_
          refine va_put (D := G) (ci := 8) (v := .int v_22) (ty := .int) (C := RX8) (T := TX8) (N := 11) hx hb hts inT8 tyX8 tyX8_ok nmX8 hown hK hP hD hS 0 rfl rfl 5 (by decide) (hts _ tw_211) (fun _ h9 => h9) rfl (tyX8_ok 5 (by decide)) rfl rfl (Nat.le_of_ble_eq_true rfl) dX8_advance_51 (fun H locs hP hD hS => ?_)
          have hP : va_P G vwCl [(t, .inr (8, [.ref tape, .int t_fed, .int t_length, .int t_kind, .int v_22, .int v_22, .int t_number, .int t_sign, .long t_letters, .int t_fault, .int t_faultPlace])), (tape, .inl (cA.1 2, 900, .inl c_tape))] H := hP
          have hD : va_D A [(t, .inr (8, [.ref tape, .int t_fed, .int t_length, .int t_kind, .int v_22, .int v_22, .int t_number, .int t_sign, .long t_letters, .int t_fault, .int t_faultPlace])), (tape, .inl (cA.1 2, 900, .inl c_tape))] := hD
          refine lv_aload_n hx hb dX8_advance_54 rfl (lv_at hl 0 rfl) ?_
          refine lv_aload_n hx hb dX8_advance_55 rfl (lv_at hl 0 rfl) ?_
          refine va_get (D := G) (ci := 8) (v := .int v_22) (C := RX8) (T := TX8) (N := 11) hx hb hts inT8 hown hK hP 0 rfl rfl 4 (by decide) (hts _ tw_210) (fun _ h9 => h9) rfl dX8_advance_56 ?_
          refine z_callVi (As := [.int v_22]) (rest := []) (wr := []) ⟨hx, hb, hml, hown, hts⟩ hK hE hT hP hD hS hA (d_Te_byteAt l G cA t tape t_fed t_length t_kind v_22 v_22 t_number t_sign t_letters t_fault t_faultPlace c_tape v_22) lk_RX8_40 ⟨rfl, rfl⟩ ⟨Nat.le_of_ble_eq_true rfl, Nat.le_of_ble_eq_true rfl⟩ 8 rfl rfl rfl [0, 1] [] rfl rfl (by decide) rfl hl.1 rfl (lv_room (Nat.le_of_ble_eq_true rfl)) dX8_advance_59 ⟨Nat.le_of_ble_eq_true rfl, Nat.le_of_ble_eq_true rfl⟩ (fun r_63 u_64 H locs hw hP hD hS => ?_)
          have hP : va_P G vwCl [(t, .inr (8, [.ref tape, .int t_fed, .int t_length, .int t_kind, .int v_22, .int v_22, .int t_number, .int t_sign, .long t_letters, .int t_fault, .int t_faultPlace])), (tape, .inl (cA.1 2, 900, .inl c_tape))] H := hP
          have hD : va_D A [(t, .inr (8, [.ref tape, .int t_fed, .int t_length, .int t_kind, .int v_22, .int v_22, .int t_number, .int t_sign, .long t_letters, .int t_fault, .int t_faultPlace])), (tape, .inl (cA.1 2, 900, .inl c_tape))] := hD
          refine lv_istore_n (lv' := [(1, .int r_63), (0, .ref t)]) hx hb dX8_advance_62 rfl hl (by decide) rfl (fun ls hl => ?_)
          refine lv_iload_n hx hb dX8_advance_63 rfl (lv_at hl 0 rfl) ?_
          refine lv_iconst (v := (-1)) hx hb dX8_advance_64 (by decide) ?_
          refine lv_icmp_ne (tgt := 76) hx hb dX8_advance_65 (by decide) (fun c_65 => ?_) (fun c_65 => ?_)
          · skip
            refine lv_iload_n hx hb dX8_advance_76 rfl (lv_at hl 0 rfl) ?_
            refine z_callSi (As := [.int r_63]) (rest := []) (wr := [(t, .inr (8, [.ref tape, .int t_fed, .int t_length, .int t_kind, .int v_22, .int v_22, .int t_number, .int t_sign, .long t_letters, .int t_fault, .int t_faultPlace])), (tape, .inl (cA.1 2, 900, .inl c_tape))]) ⟨hx, hb, hml, hown, hts⟩ hK hE hT hP hD hS hA (d_Te_isLetter l G cA r_63) lk_RX8_48 ⟨rfl, rfl⟩ ⟨Nat.le_of_ble_eq_true rfl, Nat.le_of_ble_eq_true rfl⟩ [] [0, 1] rfl rfl (by decide) rfl hl.1 rfl (lv_room (Nat.le_of_ble_eq_true rfl)) dX8_advance_77 ⟨Nat.le_of_ble_eq_true rfl, Nat.le_of_ble_eq_true rfl⟩ (fun r_67 u_68 H locs hw hP hD hS => ?_)
            have hP : va_P G vwCl [(t, .inr (8, [.ref tape, .int t_fed, .int t_length, .int t_kind, .int v_22, .int v_22, .int t_number, .int t_sign, .long t_letters, .int t_fault, .int t_faultPlace])), (tape, .inl (cA.1 2, 900, .inl c_tape))] H := hP
            have hD : va_D A [(t, .inr (8, [.ref tape, .int t_fed, .int t_length, .int t_kind, .int v_22, .int v_22, .int t_number, .int t_sign, .long t_letters, .int t_fault, .int t_faultPlace])), (tape, .inl (cA.1 2, 900, .inl c_tape))] := hD
            have hz_r_67 := hw
            refine lv_if_eq (tgt := 95) hx hb dX8_advance_80 (by decide) (fun c_69 => ?_) (fun c_69 => ?_)
            · skip
              refine lv_iload_n hx hb dX8_advance_95 rfl (lv_at hl 0 rfl) ?_
              refine z_callSi (As := [.int r_63]) (rest := []) (wr := [(t, .inr (8, [.ref tape, .int t_fed, .int t_length, .int t_kind, .int v_22, .int v_22, .int t_number, .int t_sign, .long t_letters, .int t_fault, .int t_faultPlace])), (tape, .inl (cA.1 2, 900, .inl c_tape))]) ⟨hx, hb, hml, hown, hts⟩ hK hE hT hP hD hS hA (d_Te_isDigit l G cA r_63) lk_RX8_54 ⟨rfl, rfl⟩ ⟨Nat.le_of_ble_eq_true rfl, Nat.le_of_ble_eq_true rfl⟩ [] [0, 1] rfl rfl (by decide) rfl hl.1 rfl (lv_room (Nat.le_of_ble_eq_true rfl)) dX8_advance_96 ⟨Nat.le_of_ble_eq_true rfl, Nat.le_of_ble_eq_true rfl⟩ (fun r_71 u_72 H locs hw hP hD hS => ?_)
              have hP : va_P G vwCl [(t, .inr (8, [.ref tape, .int t_fed, .int t_length, .int t_kind, .int v_22, .int v_22, .int t_number, .int t_sign, .long t_letters, .int t_fault, .int t_faultPlace])), (tape, .inl (cA.1 2, 900, .inl c_tape))] H := hP
              have hD : va_D A [(t, .inr (8, [.ref tape, .int t_fed, .int t_length, .int t_kind, .int v_22, .int v_22, .int t_number, .int t_sign, .long t_letters, .int t_fault, .int t_faultPlace])), (tape, .inl (cA.1 2, 900, .inl c_tape))] := hD
              have hz_r_71 := hw
              refine lv_if_eq (tgt := 109) hx hb dX8_advance_99 (by decide) (fun c_73 => ?_) (fun c_73 => ?_)
              · skip
                refine lv_aload_n hx hb dX8_advance_109 rfl (lv_at hl 1 rfl) ?_
                refine lv_iload_n hx hb dX8_advance_110 rfl (lv_at hl 0 rfl) ?_
                refine z_callSi (As := [.int r_63]) (rest := [.ref t]) (wr := [(t, .inr (8, [.ref tape, .int t_fed, .int t_length, .int t_kind, .int v_22, .int v_22, .int t_number, .int t_sign, .long t_letters, .int t_fault, .int t_faultPlace])), (tape, .inl (cA.1 2, 900, .inl c_tape))]) ⟨hx, hb, hml, hown, hts⟩ hK hE hT hP hD hS hA (d_Te_isSignOf l G cA r_63) lk_RX8_60 ⟨rfl, rfl⟩ ⟨Nat.le_of_ble_eq_true rfl, Nat.le_of_ble_eq_true rfl⟩ [] [0, 1] rfl rfl (by decide) rfl hl.1 rfl (lv_room (Nat.le_of_ble_eq_true rfl)) dX8_advance_111 ⟨Nat.le_of_ble_eq_true rfl, Nat.le_of_ble_eq_true rfl⟩ (fun r_75 u_76 H locs hw hP hD hS => ?_)
                have hP : va_P G vwCl [(t, .inr (8, [.ref tape, .int t_fed, .int t_length, .int t_kind, .int v_22, .int v_22, .int t_number, .int t_sign, .long t_letters, .int t_fault, .int t_faultPlace])), (tape, .inl (cA.1 2, 900, .inl c_tape))] H := hP
                have hD : va_D A [(t, .inr (8, [.ref tape, .int t_fed, .int t_length, .int t_kind, .int v_22, .int v_22, .int t_number, .int t_sign, .long t_letters, .int t_fault, .int t_faultPlace])), (tape, .inl (cA.1 2, 900, .inl c_tape))] := hD
                have hz_r_75 := hw
                refine lv_if_eq (tgt := 121) hx hb dX8_advance_114 (by decide) (fun c_77 => ?_) (fun c_77 => ?_)
                · skip
                  refine lv_iconst (v := 4) hx hb dX8_advance_121 (by decide) ?_
                  refine va_put (D := G) (ci := 8) (v := .int 4) (ty := .int) (C := RX8) (T := TX8) (N := 11) hx hb hts inT8 tyX8 tyX8_ok nmX8 hown hK hP hD hS 0 rfl rfl 3 (by decide) (hts _ tw_209) (fun _ h9 => h9) rfl (tyX8_ok 3 (by decide)) rfl rfl (Nat.le_of_ble_eq_true rfl) dX8_advance_122 (fun H locs hP hD hS => ?_)
                  have hP : va_P G vwCl [(t, .inr (8, [.ref tape, .int t_fed, .int t_length, .int 4, .int v_22, .int v_22, .int t_number, .int t_sign, .long t_letters, .int t_fault, .int t_faultPlace])), (tape, .inl (cA.1 2, 900, .inl c_tape))] H := hP
                  have hD : va_D A [(t, .inr (8, [.ref tape, .int t_fed, .int t_length, .int 4, .int v_22, .int v_22, .int t_number, .int t_sign, .long t_letters, .int t_fault, .int t_faultPlace])), (tape, .inl (cA.1 2, 900, .inl c_tape))] := hD
                  refine lv_aload_n hx hb dX8_advance_125 rfl (lv_at hl 1 rfl) ?_
                  refine lv_iload_n hx hb dX8_advance_126 rfl (lv_at hl 0 rfl) ?_
                  refine va_put (D := G) (ci := 8) (v := .int r_63) (ty := .int) (C := RX8) (T := TX8) (N := 11) hx hb hts inT8 tyX8 tyX8_ok nmX8 hown hK hP hD hS 0 rfl rfl 7 (by decide) (hts _ tw_214) (fun _ h9 => h9) rfl (tyX8_ok 7 (by decide)) rfl rfl (Nat.le_of_ble_eq_true rfl) dX8_advance_127 (fun H locs hP hD hS => ?_)
                  have hP : va_P G vwCl [(t, .inr (8, [.ref tape, .int t_fed, .int t_length, .int 4, .int v_22, .int v_22, .int t_number, .int r_63, .long t_letters, .int t_fault, .int t_faultPlace])), (tape, .inl (cA.1 2, 900, .inl c_tape))] H := hP
                  have hD : va_D A [(t, .inr (8, [.ref tape, .int t_fed, .int t_length, .int 4, .int v_22, .int v_22, .int t_number, .int r_63, .long t_letters, .int t_fault, .int t_faultPlace])), (tape, .inl (cA.1 2, 900, .inl c_tape))] := hD
                  refine lv_aload_n hx hb dX8_advance_130 rfl (lv_at hl 1 rfl) ?_
                  refine lv_aload_n hx hb dX8_advance_131 rfl (lv_at hl 1 rfl) ?_
                  refine va_get (D := G) (ci := 8) (v := .int v_22) (C := RX8) (T := TX8) (N := 11) hx hb hts inT8 hown hK hP 0 rfl rfl 4 (by decide) (hts _ tw_210) (fun _ h9 => h9) rfl dX8_advance_132 ?_
                  refine lv_iconst (v := 1) hx hb dX8_advance_135 (by decide) ?_
                  refine lv_iadd hx hb dX8_advance_136 ?_
                  refine va_put (D := G) (ci := 8) (v := .int (v_22 + 1)) (ty := .int) (C := RX8) (T := TX8) (N := 11) hx hb hts inT8 tyX8 tyX8_ok nmX8 hown hK hP hD hS 0 rfl rfl 5 (by decide) (hts _ tw_211) (fun _ h9 => h9) rfl (tyX8_ok 5 (by decide)) rfl rfl (Nat.le_of_ble_eq_true rfl) dX8_advance_137 (fun H locs hP hD hS => ?_)
                  have hP : va_P G vwCl [(t, .inr (8, [.ref tape, .int t_fed, .int t_length, .int 4, .int v_22, .int (v_22 + 1), .int t_number, .int r_63, .long t_letters, .int t_fault, .int t_faultPlace])), (tape, .inl (cA.1 2, 900, .inl c_tape))] H := hP
                  have hD : va_D A [(t, .inr (8, [.ref tape, .int t_fed, .int t_length, .int 4, .int v_22, .int (v_22 + 1), .int t_number, .int r_63, .long t_letters, .int t_fault, .int t_faultPlace])), (tape, .inl (cA.1 2, 900, .inl c_tape))] := hD
                  exact hret _ _ _ _ _ (4, v_22, (v_22 + 1), r_63, t_number, t_letters) [0, 1] hP hD hS rfl (by decide) dX8_advance_140 trivial
                · skip
                  refine lv_iconst (v := 3) hx hb dX8_advance_117 (by decide) ?_
                  refine lv_goto (tgt := 122) hx hb dX8_advance_118 (by decide) ?_
                  refine va_put (D := G) (ci := 8) (v := .int 3) (ty := .int) (C := RX8) (T := TX8) (N := 11) hx hb hts inT8 tyX8 tyX8_ok nmX8 hown hK hP hD hS 0 rfl rfl 3 (by decide) (hts _ tw_209) (fun _ h9 => h9) rfl (tyX8_ok 3 (by decide)) rfl rfl (Nat.le_of_ble_eq_true rfl) dX8_advance_122 (fun H locs hP hD hS => ?_)
                  have hP : va_P G vwCl [(t, .inr (8, [.ref tape, .int t_fed, .int t_length, .int 3, .int v_22, .int v_22, .int t_number, .int t_sign, .long t_letters, .int t_fault, .int t_faultPlace])), (tape, .inl (cA.1 2, 900, .inl c_tape))] H := hP
                  have hD : va_D A [(t, .inr (8, [.ref tape, .int t_fed, .int t_length, .int 3, .int v_22, .int v_22, .int t_number, .int t_sign, .long t_letters, .int t_fault, .int t_faultPlace])), (tape, .inl (cA.1 2, 900, .inl c_tape))] := hD
                  refine lv_aload_n hx hb dX8_advance_125 rfl (lv_at hl 1 rfl) ?_
                  refine lv_iload_n hx hb dX8_advance_126 rfl (lv_at hl 0 rfl) ?_
                  refine va_put (D := G) (ci := 8) (v := .int r_63) (ty := .int) (C := RX8) (T := TX8) (N := 11) hx hb hts inT8 tyX8 tyX8_ok nmX8 hown hK hP hD hS 0 rfl rfl 7 (by decide) (hts _ tw_214) (fun _ h9 => h9) rfl (tyX8_ok 7 (by decide)) rfl rfl (Nat.le_of_ble_eq_true rfl) dX8_advance_127 (fun H locs hP hD hS => ?_)
                  have hP : va_P G vwCl [(t, .inr (8, [.ref tape, .int t_fed, .int t_length, .int 3, .int v_22, .int v_22, .int t_number, .int r_63, .long t_letters, .int t_fault, .int t_faultPlace])), (tape, .inl (cA.1 2, 900, .inl c_tape))] H := hP
                  have hD : va_D A [(t, .inr (8, [.ref tape, .int t_fed, .int t_length, .int 3, .int v_22, .int v_22, .int t_number, .int r_63, .long t_letters, .int t_fault, .int t_faultPlace])), (tape, .inl (cA.1 2, 900, .inl c_tape))] := hD
                  refine lv_aload_n hx hb dX8_advance_130 rfl (lv_at hl 1 rfl) ?_
                  refine lv_aload_n hx hb dX8_advance_131 rfl (lv_at hl 1 rfl) ?_
                  refine va_get (D := G) (ci := 8) (v := .int v_22) (C := RX8) (T := TX8) (N := 11) hx hb hts inT8 hown hK hP 0 rfl rfl 4 (by decide) (hts _ tw_210) (fun _ h9 => h9) rfl dX8_advance_132 ?_
                  refine lv_iconst (v := 1) hx hb dX8_advance_135 (by decide) ?_
                  refine lv_iadd hx hb dX8_advance_136 ?_
                  refine va_put (D := G) (ci := 8) (v := .int (v_22 + 1)) (ty := .int) (C := RX8) (T := TX8) (N := 11) hx hb hts inT8 tyX8 tyX8_ok nmX8 hown hK hP hD hS 0 rfl rfl 5 (by decide) (hts _ tw_211) (fun _ h9 => h9) rfl (tyX8_ok 5 (by decide)) rfl rfl (Nat.le_of_ble_eq_true rfl) dX8_advance_137 (fun H locs hP hD hS => ?_)
                  have hP : va_P G vwCl [(t, .inr (8, [.ref tape, .int t_fed, .int t_length, .int 3, .int v_22, .int (v_22 + 1), .int t_number, .int r_63, .long t_letters, .int t_fault, .int t_faultPlace])), (tape, .inl (cA.1 2, 900, .inl c_tape))] H := hP
                  have hD : va_D A [(t, .inr (8, [.ref tape, .int t_fed, .int t_length, .int 3, .int v_22, .int (v_22 + 1), .int t_number, .int r_63, .long t_letters, .int t_fault, .int t_faultPlace])), (tape, .inl (cA.1 2, 900, .inl c_tape))] := hD
                  exact hret _ _ _ _ _ (3, v_22, (v_22 + 1), r_63, t_number, t_letters) [0, 1] hP hD hS rfl (by decide) dX8_advance_140 trivial
              · skip
                refine lv_aload_n hx hb dX8_advance_102 rfl (lv_at hl 1 rfl) ?_
                refine z_callVv (As := []) (rest := []) (wr := []) ⟨hx, hb, hml, hown, hts⟩ hK hE hT hP hD hS hA (d_Te_readDigits l G cA t tape t_fed t_length t_kind v_22 v_22 t_number t_sign t_letters t_fault t_faultPlace c_tape) lk_RX8_57 ⟨rfl, rfl⟩ ⟨Nat.le_of_ble_eq_true rfl, Nat.le_of_ble_eq_true rfl⟩ 8 rfl rfl rfl [0, 1] [] rfl rfl (by decide) rfl hl.1 rfl (lv_room (Nat.le_of_ble_eq_true rfl)) dX8_advance_103 ⟨Nat.le_of_ble_eq_true rfl, Nat.le_of_ble_eq_true rfl⟩ (fun u_85 H locs hw hP hD hS => ?_)
                obtain ⟨nw0_81, nw1_82, nw2_83⟩ := u_85
                have hP : va_P G vwCl [(t, .inr (8, [.ref tape, .int t_fed, .int t_length, .int nw0_81, .int v_22, .int nw1_82, .int nw2_83, .int t_sign, .long t_letters, .int t_fault, .int t_faultPlace])), (tape, .inl (cA.1 2, 900, .inl c_tape))] H := hP
                have hD : va_D A [(t, .inr (8, [.ref tape, .int t_fed, .int t_length, .int nw0_81, .int v_22, .int nw1_82, .int nw2_83, .int t_sign, .long t_letters, .int t_fault, .int t_faultPlace])), (tape, .inl (cA.1 2, 900, .inl c_tape))] := hD
                refine lv_goto (tgt := 140) hx hb dX8_advance_106 (by decide) ?_
                exact hret _ _ _ _ _ (nw0_81, v_22, nw1_82, t_sign, nw2_83, t_letters) [0, 1] hP hD hS rfl (by decide) dX8_advance_140 trivial
            · skip
              refine lv_aload_n hx hb dX8_advance_83 rfl (lv_at hl 1 rfl) ?_
              refine lv_iconst (v := 1) hx hb dX8_advance_84 (by decide) ?_
              refine va_put (D := G) (ci := 8) (v := .int 1) (ty := .int) (C := RX8) (T := TX8) (N := 11) hx hb hts inT8 tyX8 tyX8_ok nmX8 hown hK hP hD hS 0 rfl rfl 3 (by decide) (hts _ tw_209) (fun _ h9 => h9) rfl (tyX8_ok 3 (by decide)) rfl rfl (Nat.le_of_ble_eq_true rfl) dX8_advance_85 (fun H locs hP hD hS => ?_)
              have hP : va_P G vwCl [(t, .inr (8, [.ref tape, .int t_fed, .int t_length, .int 1, .int v_22, .int v_22, .int t_number, .int t_sign, .long t_letters, .int t_fault, .int t_faultPlace])), (tape, .inl (cA.1 2, 900, .inl c_tape))] H := hP
              have hD : va_D A [(t, .inr (8, [.ref tape, .int t_fed, .int t_length, .int 1, .int v_22, .int v_22, .int t_number, .int t_sign, .long t_letters, .int t_fault, .int t_faultPlace])), (tape, .inl (cA.1 2, 900, .inl c_tape))] := hD
              refine lv_aload_n hx hb dX8_advance_88 rfl (lv_at hl 1 rfl) ?_
              refine z_callVv (As := []) (rest := []) (wr := []) ⟨hx, hb, hml, hown, hts⟩ hK hE hT hP hD hS hA (d_Te_readLetters l G cA t tape t_fed t_length 1 v_22 v_22 t_number t_sign t_letters t_fault t_faultPlace c_tape) lk_RX8_51 ⟨rfl, rfl⟩ ⟨Nat.le_of_ble_eq_true rfl, Nat.le_of_ble_eq_true rfl⟩ 8 rfl rfl rfl [0, 1] [] rfl rfl (by decide) rfl hl.1 rfl (lv_room (Nat.le_of_ble_eq_true rfl)) dX8_advance_89 ⟨Nat.le_of_ble_eq_true rfl, Nat.le_of_ble_eq_true rfl⟩ (fun u_90 H locs hw hP hD hS => ?_)
              obtain ⟨nw0_87, nw1_88⟩ := u_90
              have hP : va_P G vwCl [(t, .inr (8, [.ref tape, .int t_fed, .int t_length, .int 1, .int v_22, .int nw0_87, .int t_number, .int t_sign, .long nw1_88, .int t_fault, .int t_faultPlace])), (tape, .inl (cA.1 2, 900, .inl c_tape))] H := hP
              have hD : va_D A [(t, .inr (8, [.ref tape, .int t_fed, .int t_length, .int 1, .int v_22, .int nw0_87, .int t_number, .int t_sign, .long nw1_88, .int t_fault, .int t_faultPlace])), (tape, .inl (cA.1 2, 900, .inl c_tape))] := hD
              refine lv_goto (tgt := 140) hx hb dX8_advance_92 (by decide) ?_
              exact hret _ _ _ _ _ (1, v_22, nw0_87, t_sign, t_number, nw1_88) [0, 1] hP hD hS rfl (by decide) dX8_advance_140 trivial
          · skip
            refine lv_aload_n hx hb dX8_advance_68 rfl (lv_at hl 1 rfl) ?_
            refine lv_iconst (v := 0) hx hb dX8_advance_69 (by decide) ?_
            refine va_put (D := G) (ci := 8) (v := .int 0) (ty := .int) (C := RX8) (T := TX8) (N := 11) hx hb hts inT8 tyX8 tyX8_ok nmX8 hown hK hP hD hS 0 rfl rfl 3 (by decide) (hts _ tw_209) (fun _ h9 => h9) rfl (tyX8_ok 3 (by decide)) rfl rfl (Nat.le_of_ble_eq_true rfl) dX8_advance_70 (fun H locs hP hD hS => ?_)
            have hP : va_P G vwCl [(t, .inr (8, [.ref tape, .int t_fed, .int t_length, .int 0, .int v_22, .int v_22, .int t_number, .int t_sign, .long t_letters, .int t_fault, .int t_faultPlace])), (tape, .inl (cA.1 2, 900, .inl c_tape))] H := hP
            have hD : va_D A [(t, .inr (8, [.ref tape, .int t_fed, .int t_length, .int 0, .int v_22, .int v_22, .int t_number, .int t_sign, .long t_letters, .int t_fault, .int t_faultPlace])), (tape, .inl (cA.1 2, 900, .inl c_tape))] := hD
            refine lv_goto (tgt := 140) hx hb dX8_advance_73 (by decide) ?_
            exact hret _ _ _ _ _ (0, v_22, v_22, t_sign, t_number, t_letters) [0, 1] hP hD hS rfl (by decide) dX8_advance_140 trivial
        · skip
          refine lv_aload_n hx hb dX8_advance_33 rfl (lv_at hl 0 rfl) ?_
          refine lv_dup hx hb dX8_advance_34 rfl ?_
          refine va_get (D := G) (ci := 8) (v := .int v_22) (C := RX8) (T := TX8) (N := 11) hx hb hts inT8 hown hK hP 0 rfl rfl 4 (by decide) (hts _ tw_210) (fun _ h9 => h9) rfl dX8_advance_35 ?_
          refine lv_iconst (v := 1) hx hb dX8_advance_38 (by decide) ?_
          refine lv_iadd hx hb dX8_advance_39 ?_
          refine va_put (D := G) (ci := 8) (v := .int (v_22 + 1)) (ty := .int) (C := RX8) (T := TX8) (N := 11) hx hb hts inT8 tyX8 tyX8_ok nmX8 hown hK hP hD hS 0 rfl rfl 4 (by decide) (hts _ tw_210) (fun _ h9 => h9) rfl (tyX8_ok 4 (by decide)) rfl rfl (Nat.le_of_ble_eq_true rfl) dX8_advance_40 (fun H locs hP hD hS => ?_)
          have hP : va_P G vwCl [(t, .inr (8, [.ref tape, .int t_fed, .int t_length, .int t_kind, .int (v_22 + 1), .int t_end, .int t_number, .int t_sign, .long t_letters, .int t_fault, .int t_faultPlace])), (tape, .inl (cA.1 2, 900, .inl c_tape))] H := hP
          have hD : va_D A [(t, .inr (8, [.ref tape, .int t_fed, .int t_length, .int t_kind, .int (v_22 + 1), .int t_end, .int t_number, .int t_sign, .long t_letters, .int t_fault, .int t_faultPlace])), (tape, .inl (cA.1 2, 900, .inl c_tape))] := hD
          refine lv_goto (tgt := 8) hx hb dX8_advance_43 (by decide) ?_
          exact ih_24 (v_22 + 1) H locs ls (z_up hmu_hlp_23 (by omega) trivial) hP hD hS (lv_sub hl [0] rfl)
  exact hlp_23 _ t_end _ _ _ (Nat.lt_succ_self _) hP hD hS (lv_sub hl [0] rfl)
